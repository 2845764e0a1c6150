section
-- ===== PART A: goes FIRST, ahead of the names: the tables' words, and 'selects' of the private methods out of them =====
/-- a private method of a class that the tables say can be made, by its rows of tables_1 -/
def lw_okq (q : MethodName × Nat) : Prop := (q.1.cls ≠ "java/lang/invoke/MethodHandle" ∧ q.1.cls ≠ "java/lang/invoke/VarHandle") ∧ Cond.instantiable q.1.cls q.2 ∈ tables_1 ∧ Cond.privateMethod q.1 ∈ tables_1 ∧ Cond.instanceMethod q.1 ∈ tables_1
theorem lw_p0 : lw_okq (⟨"java/util/ArrayList", "add", "(Ljava/lang/Object;[Ljava/lang/Object;I)V"⟩, 3) := ⟨⟨by decide +kernel, by decide +kernel⟩, List.mem_of_getElem? (i := 36) (by decide +kernel), List.mem_of_getElem? (i := 216) (by decide +kernel), List.mem_of_getElem? (i := 217) (by decide +kernel)⟩
theorem lw_p1 : lw_okq (⟨"java/util/ArrayList", "grow", "()[Ljava/lang/Object;"⟩, 3) := ⟨⟨by decide +kernel, by decide +kernel⟩, List.mem_of_getElem? (i := 36) (by decide +kernel), List.mem_of_getElem? (i := 220) (by decide +kernel), List.mem_of_getElem? (i := 221) (by decide +kernel)⟩
theorem lw_p2 : lw_okq (⟨"java/util/ArrayList", "grow", "(I)[Ljava/lang/Object;"⟩, 3) := ⟨⟨by decide +kernel, by decide +kernel⟩, List.mem_of_getElem? (i := 36) (by decide +kernel), List.mem_of_getElem? (i := 224) (by decide +kernel), List.mem_of_getElem? (i := 225) (by decide +kernel)⟩
theorem lw_p3 : lw_okq (⟨"ToolHouse", "kindAt", "(I)LToolHouse$Kind;"⟩, 10) := ⟨⟨by decide +kernel, by decide +kernel⟩, List.mem_of_getElem? (i := 28) (by decide +kernel), List.mem_of_getElem? (i := 275) (by decide +kernel), List.mem_of_getElem? (i := 276) (by decide +kernel)⟩
theorem lw_p4 : lw_okq (⟨"ToolHouse$LawReader", "take", "(LToolHouse$Tape;III)V"⟩, 5) := ⟨⟨by decide +kernel, by decide +kernel⟩, List.mem_of_getElem? (i := 78) (by decide +kernel), List.mem_of_getElem? (i := 392) (by decide +kernel), List.mem_of_getElem? (i := 393) (by decide +kernel)⟩
theorem lw_p5 : lw_okq (⟨"ToolHouse$LawReader", "takeKind", "(III)V"⟩, 5) := ⟨⟨by decide +kernel, by decide +kernel⟩, List.mem_of_getElem? (i := 78) (by decide +kernel), List.mem_of_getElem? (i := 449) (by decide +kernel), List.mem_of_getElem? (i := 450) (by decide +kernel)⟩
theorem lw_p6 : lw_okq (⟨"ToolHouse$LawReader", "blame", "(II)V"⟩, 5) := ⟨⟨by decide +kernel, by decide +kernel⟩, List.mem_of_getElem? (i := 78) (by decide +kernel), List.mem_of_getElem? (i := 453) (by decide +kernel), List.mem_of_getElem? (i := 454) (by decide +kernel)⟩
theorem lw_p7 : lw_okq (⟨"ToolHouse$LawReader", "takeDays", "(I)V"⟩, 5) := ⟨⟨by decide +kernel, by decide +kernel⟩, List.mem_of_getElem? (i := 78) (by decide +kernel), List.mem_of_getElem? (i := 457) (by decide +kernel), List.mem_of_getElem? (i := 458) (by decide +kernel)⟩
theorem lw_p8 : lw_okq (⟨"ToolHouse", "thingAt", "(I)LToolHouse$Thing;"⟩, 10) := ⟨⟨by decide +kernel, by decide +kernel⟩, List.mem_of_getElem? (i := 28) (by decide +kernel), List.mem_of_getElem? (i := 474) (by decide +kernel), List.mem_of_getElem? (i := 475) (by decide +kernel)⟩
theorem lw_p9 : lw_okq (⟨"ToolHouse", "memberAt", "(I)LToolHouse$Member;"⟩, 10) := ⟨⟨by decide +kernel, by decide +kernel⟩, List.mem_of_getElem? (i := 28) (by decide +kernel), List.mem_of_getElem? (i := 494) (by decide +kernel), List.mem_of_getElem? (i := 495) (by decide +kernel)⟩
theorem lw_p10 : lw_okq (⟨"ToolHouse", "canBeAsked", "(II)Z"⟩, 10) := ⟨⟨by decide +kernel, by decide +kernel⟩, List.mem_of_getElem? (i := 28) (by decide +kernel), List.mem_of_getElem? (i := 498) (by decide +kernel), List.mem_of_getElem? (i := 499) (by decide +kernel)⟩
theorem lw_p11 : lw_okq (⟨"ToolHouse", "howManyAre", "(I)I"⟩, 10) := ⟨⟨by decide +kernel, by decide +kernel⟩, List.mem_of_getElem? (i := 28) (by decide +kernel), List.mem_of_getElem? (i := 502) (by decide +kernel), List.mem_of_getElem? (i := 503) (by decide +kernel)⟩
theorem lw_p12 : lw_okq (⟨"ToolHouse", "rowThatMayHave", "(LToolHouse$Thing;)I"⟩, 10) := ⟨⟨by decide +kernel, by decide +kernel⟩, List.mem_of_getElem? (i := 28) (by decide +kernel), List.mem_of_getElem? (i := 576) (by decide +kernel), List.mem_of_getElem? (i := 577) (by decide +kernel)⟩
theorem lw_p13 : lw_okq (⟨"ToolHouse", "isFreeFor", "(LToolHouse$Ask;LToolHouse$Thing;)Z"⟩, 10) := ⟨⟨by decide +kernel, by decide +kernel⟩, List.mem_of_getElem? (i := 28) (by decide +kernel), List.mem_of_getElem? (i := 588) (by decide +kernel), List.mem_of_getElem? (i := 589) (by decide +kernel)⟩
theorem lw_p14 : lw_okq (⟨"ToolHouse", "isFreeBut", "(LToolHouse$Ask;LToolHouse$Thing;II)Z"⟩, 10) := ⟨⟨by decide +kernel, by decide +kernel⟩, List.mem_of_getElem? (i := 28) (by decide +kernel), List.mem_of_getElem? (i := 592) (by decide +kernel), List.mem_of_getElem? (i := 593) (by decide +kernel)⟩
theorem lw_p15 : lw_okq (⟨"ToolHouse$Planner", "weigh", "(LToolHouse$Thing;I)V"⟩, 4) := ⟨⟨by decide +kernel, by decide +kernel⟩, List.mem_of_getElem? (i := 124) (by decide +kernel), List.mem_of_getElem? (i := 612) (by decide +kernel), List.mem_of_getElem? (i := 613) (by decide +kernel)⟩
def lw_privs_1 : List (MethodName × Nat) := [(⟨"java/util/ArrayList", "add", "(Ljava/lang/Object;[Ljava/lang/Object;I)V"⟩, 3), (⟨"java/util/ArrayList", "grow", "()[Ljava/lang/Object;"⟩, 3), (⟨"java/util/ArrayList", "grow", "(I)[Ljava/lang/Object;"⟩, 3), (⟨"ToolHouse", "kindAt", "(I)LToolHouse$Kind;"⟩, 10), (⟨"ToolHouse$LawReader", "take", "(LToolHouse$Tape;III)V"⟩, 5), (⟨"ToolHouse$LawReader", "takeKind", "(III)V"⟩, 5), (⟨"ToolHouse$LawReader", "blame", "(II)V"⟩, 5), (⟨"ToolHouse$LawReader", "takeDays", "(I)V"⟩, 5), (⟨"ToolHouse", "thingAt", "(I)LToolHouse$Thing;"⟩, 10), (⟨"ToolHouse", "memberAt", "(I)LToolHouse$Member;"⟩, 10), (⟨"ToolHouse", "canBeAsked", "(II)Z"⟩, 10), (⟨"ToolHouse", "howManyAre", "(I)I"⟩, 10), (⟨"ToolHouse", "rowThatMayHave", "(LToolHouse$Thing;)I"⟩, 10), (⟨"ToolHouse", "isFreeFor", "(LToolHouse$Ask;LToolHouse$Thing;)Z"⟩, 10), (⟨"ToolHouse", "isFreeBut", "(LToolHouse$Ask;LToolHouse$Thing;II)Z"⟩, 10), (⟨"ToolHouse$Planner", "weigh", "(LToolHouse$Thing;I)V"⟩, 4)]
theorem lw_r1 : ∀ q ∈ lw_privs_1, lw_okq q := List.forall_mem_cons.mpr ⟨lw_p0, List.forall_mem_cons.mpr ⟨lw_p1, List.forall_mem_cons.mpr ⟨lw_p2, List.forall_mem_cons.mpr ⟨lw_p3, List.forall_mem_cons.mpr ⟨lw_p4, List.forall_mem_cons.mpr ⟨lw_p5, List.forall_mem_cons.mpr ⟨lw_p6, List.forall_mem_cons.mpr ⟨lw_p7, List.forall_mem_cons.mpr ⟨lw_p8, List.forall_mem_cons.mpr ⟨lw_p9, List.forall_mem_cons.mpr ⟨lw_p10, List.forall_mem_cons.mpr ⟨lw_p11, List.forall_mem_cons.mpr ⟨lw_p12, List.forall_mem_cons.mpr ⟨lw_p13, List.forall_mem_cons.mpr ⟨lw_p14, List.forall_mem_cons.mpr ⟨lw_p15, fun _ h => absurd h List.not_mem_nil⟩⟩⟩⟩⟩⟩⟩⟩⟩⟩⟩⟩⟩⟩⟩⟩
theorem lw_p16 : lw_okq (⟨"ToolHouse$Planner", "nearTo", "(LToolHouse$Ask;II)I"⟩, 4) := ⟨⟨by decide +kernel, by decide +kernel⟩, List.mem_of_getElem? (i := 124) (by decide +kernel), List.mem_of_getElem? (i := 624) (by decide +kernel), List.mem_of_getElem? (i := 625) (by decide +kernel)⟩
theorem lw_p17 : lw_okq (⟨"ToolHouse$Planner", "wholeRow", "()I"⟩, 4) := ⟨⟨by decide +kernel, by decide +kernel⟩, List.mem_of_getElem? (i := 124) (by decide +kernel), List.mem_of_getElem? (i := 629) (by decide +kernel), List.mem_of_getElem? (i := 630) (by decide +kernel)⟩
theorem lw_p18 : lw_okq (⟨"ToolHouse", "carryOutPlan", "()I"⟩, 10) := ⟨⟨by decide +kernel, by decide +kernel⟩, List.mem_of_getElem? (i := 28) (by decide +kernel), List.mem_of_getElem? (i := 634) (by decide +kernel), List.mem_of_getElem? (i := 635) (by decide +kernel)⟩
theorem lw_p19 : lw_okq (⟨"ToolHouse", "refuse", "(LToolHouse$Ask;)V"⟩, 10) := ⟨⟨by decide +kernel, by decide +kernel⟩, List.mem_of_getElem? (i := 28) (by decide +kernel), List.mem_of_getElem? (i := 642) (by decide +kernel), List.mem_of_getElem? (i := 643) (by decide +kernel)⟩
theorem lw_p20 : lw_okq (⟨"java/util/ArrayList", "rangeCheckForAdd", "(I)V"⟩, 3) := ⟨⟨by decide +kernel, by decide +kernel⟩, List.mem_of_getElem? (i := 36) (by decide +kernel), List.mem_of_getElem? (i := 650) (by decide +kernel), List.mem_of_getElem? (i := 651) (by decide +kernel)⟩
theorem lw_p21 : lw_okq (⟨"ToolHouse", "askAt", "(I)LToolHouse$Ask;"⟩, 10) := ⟨⟨by decide +kernel, by decide +kernel⟩, List.mem_of_getElem? (i := 28) (by decide +kernel), List.mem_of_getElem? (i := 659) (by decide +kernel), List.mem_of_getElem? (i := 660) (by decide +kernel)⟩
theorem lw_p22 : lw_okq (⟨"ToolHouse", "hindranceOf", "(LToolHouse$Ask;LToolHouse$Thing;)I"⟩, 10) := ⟨⟨by decide +kernel, by decide +kernel⟩, List.mem_of_getElem? (i := 28) (by decide +kernel), List.mem_of_getElem? (i := 667) (by decide +kernel), List.mem_of_getElem? (i := 668) (by decide +kernel)⟩
theorem lw_p23 : lw_okq (⟨"ToolHouse", "loseWhatIsOver", "()V"⟩, 10) := ⟨⟨by decide +kernel, by decide +kernel⟩, List.mem_of_getElem? (i := 28) (by decide +kernel), List.mem_of_getElem? (i := 692) (by decide +kernel), List.mem_of_getElem? (i := 693) (by decide +kernel)⟩
theorem lw_p24 : lw_okq (⟨"ToolHouse", "moveFromLateThings", "()V"⟩, 10) := ⟨⟨by decide +kernel, by decide +kernel⟩, List.mem_of_getElem? (i := 28) (by decide +kernel), List.mem_of_getElem? (i := 696) (by decide +kernel), List.mem_of_getElem? (i := 697) (by decide +kernel)⟩
theorem lw_p25 : lw_okq (⟨"ToolHouse", "nextToMove", "()LToolHouse$Ask;"⟩, 10) := ⟨⟨by decide +kernel, by decide +kernel⟩, List.mem_of_getElem? (i := 28) (by decide +kernel), List.mem_of_getElem? (i := 700) (by decide +kernel), List.mem_of_getElem? (i := 701) (by decide +kernel)⟩
theorem lw_p26 : lw_okq (⟨"ToolHouse", "mustMove", "(LToolHouse$Ask;)Z"⟩, 10) := ⟨⟨by decide +kernel, by decide +kernel⟩, List.mem_of_getElem? (i := 28) (by decide +kernel), List.mem_of_getElem? (i := 704) (by decide +kernel), List.mem_of_getElem? (i := 705) (by decide +kernel)⟩
theorem lw_p27 : lw_okq (⟨"ToolHouse", "firstOtherThingFor", "(LToolHouse$Ask;)LToolHouse$Thing;"⟩, 10) := ⟨⟨by decide +kernel, by decide +kernel⟩, List.mem_of_getElem? (i := 28) (by decide +kernel), List.mem_of_getElem? (i := 716) (by decide +kernel), List.mem_of_getElem? (i := 717) (by decide +kernel)⟩
theorem lw_p28 : lw_okq (⟨"ToolHouse", "howManyAreBookedOn", "(LToolHouse$Thing;)I"⟩, 10) := ⟨⟨by decide +kernel, by decide +kernel⟩, List.mem_of_getElem? (i := 28) (by decide +kernel), List.mem_of_getElem? (i := 728) (by decide +kernel), List.mem_of_getElem? (i := 729) (by decide +kernel)⟩
theorem lw_p29 : lw_okq (⟨"java/lang/Throwable", "fillInStackTrace", "(I)Ljava/lang/Throwable;"⟩, 6) := ⟨⟨by decide +kernel, by decide +kernel⟩, List.mem_of_getElem? (i := 793) (by decide +kernel), List.mem_of_getElem? (i := 791) (by decide +kernel), List.mem_of_getElem? (i := 792) (by decide +kernel)⟩
theorem lw_p30 : lw_okq (⟨"ToolHouseModel", "isKind", "(I)Z"⟩, 43) := ⟨⟨by decide +kernel, by decide +kernel⟩, List.mem_of_getElem? (i := 823) (by decide +kernel), List.mem_of_getElem? (i := 975) (by decide +kernel), List.mem_of_getElem? (i := 976) (by decide +kernel)⟩
theorem lw_p31 : lw_okq (⟨"ToolHouseModel", "token", "()V"⟩, 43) := ⟨⟨by decide +kernel, by decide +kernel⟩, List.mem_of_getElem? (i := 823) (by decide +kernel), List.mem_of_getElem? (i := 995) (by decide +kernel), List.mem_of_getElem? (i := 996) (by decide +kernel)⟩
def lw_privs_2 : List (MethodName × Nat) := [(⟨"ToolHouse$Planner", "nearTo", "(LToolHouse$Ask;II)I"⟩, 4), (⟨"ToolHouse$Planner", "wholeRow", "()I"⟩, 4), (⟨"ToolHouse", "carryOutPlan", "()I"⟩, 10), (⟨"ToolHouse", "refuse", "(LToolHouse$Ask;)V"⟩, 10), (⟨"java/util/ArrayList", "rangeCheckForAdd", "(I)V"⟩, 3), (⟨"ToolHouse", "askAt", "(I)LToolHouse$Ask;"⟩, 10), (⟨"ToolHouse", "hindranceOf", "(LToolHouse$Ask;LToolHouse$Thing;)I"⟩, 10), (⟨"ToolHouse", "loseWhatIsOver", "()V"⟩, 10), (⟨"ToolHouse", "moveFromLateThings", "()V"⟩, 10), (⟨"ToolHouse", "nextToMove", "()LToolHouse$Ask;"⟩, 10), (⟨"ToolHouse", "mustMove", "(LToolHouse$Ask;)Z"⟩, 10), (⟨"ToolHouse", "firstOtherThingFor", "(LToolHouse$Ask;)LToolHouse$Thing;"⟩, 10), (⟨"ToolHouse", "howManyAreBookedOn", "(LToolHouse$Thing;)I"⟩, 10), (⟨"java/lang/Throwable", "fillInStackTrace", "(I)Ljava/lang/Throwable;"⟩, 6), (⟨"ToolHouseModel", "isKind", "(I)Z"⟩, 43), (⟨"ToolHouseModel", "token", "()V"⟩, 43)]
theorem lw_r2 : ∀ q ∈ lw_privs_2, lw_okq q := List.forall_mem_cons.mpr ⟨lw_p16, List.forall_mem_cons.mpr ⟨lw_p17, List.forall_mem_cons.mpr ⟨lw_p18, List.forall_mem_cons.mpr ⟨lw_p19, List.forall_mem_cons.mpr ⟨lw_p20, List.forall_mem_cons.mpr ⟨lw_p21, List.forall_mem_cons.mpr ⟨lw_p22, List.forall_mem_cons.mpr ⟨lw_p23, List.forall_mem_cons.mpr ⟨lw_p24, List.forall_mem_cons.mpr ⟨lw_p25, List.forall_mem_cons.mpr ⟨lw_p26, List.forall_mem_cons.mpr ⟨lw_p27, List.forall_mem_cons.mpr ⟨lw_p28, List.forall_mem_cons.mpr ⟨lw_p29, List.forall_mem_cons.mpr ⟨lw_p30, List.forall_mem_cons.mpr ⟨lw_p31, fun _ h => absurd h List.not_mem_nil⟩⟩⟩⟩⟩⟩⟩⟩⟩⟩⟩⟩⟩⟩⟩⟩
theorem lw_p32 : lw_okq (⟨"ToolHouseModel", "byteAt", "(I)I"⟩, 43) := ⟨⟨by decide +kernel, by decide +kernel⟩, List.mem_of_getElem? (i := 823) (by decide +kernel), List.mem_of_getElem? (i := 999) (by decide +kernel), List.mem_of_getElem? (i := 1000) (by decide +kernel)⟩
theorem lw_p33 : lw_okq (⟨"ToolHouseModel", "statement", "()Z"⟩, 43) := ⟨⟨by decide +kernel, by decide +kernel⟩, List.mem_of_getElem? (i := 823) (by decide +kernel), List.mem_of_getElem? (i := 1003) (by decide +kernel), List.mem_of_getElem? (i := 1004) (by decide +kernel)⟩
theorem lw_p34 : lw_okq (⟨"ToolHouseModel", "isEvery", "()Z"⟩, 43) := ⟨⟨by decide +kernel, by decide +kernel⟩, List.mem_of_getElem? (i := 823) (by decide +kernel), List.mem_of_getElem? (i := 1007) (by decide +kernel), List.mem_of_getElem? (i := 1008) (by decide +kernel)⟩
theorem lw_p35 : lw_okq (⟨"ToolHouseModel", "wrong", "(I)Z"⟩, 43) := ⟨⟨by decide +kernel, by decide +kernel⟩, List.mem_of_getElem? (i := 823) (by decide +kernel), List.mem_of_getElem? (i := 1011) (by decide +kernel), List.mem_of_getElem? (i := 1012) (by decide +kernel)⟩
theorem lw_p36 : lw_okq (⟨"ToolHouseModel", "isThing", "(I)Z"⟩, 43) := ⟨⟨by decide +kernel, by decide +kernel⟩, List.mem_of_getElem? (i := 823) (by decide +kernel), List.mem_of_getElem? (i := 1023) (by decide +kernel), List.mem_of_getElem? (i := 1024) (by decide +kernel)⟩
theorem lw_p37 : lw_okq (⟨"ToolHouseModel", "outWith", "(I)I"⟩, 43) := ⟨⟨by decide +kernel, by decide +kernel⟩, List.mem_of_getElem? (i := 823) (by decide +kernel), List.mem_of_getElem? (i := 1027) (by decide +kernel), List.mem_of_getElem? (i := 1028) (by decide +kernel)⟩
theorem lw_p38 : lw_okq (⟨"ToolHouseModel", "isLawful", "(II)Z"⟩, 43) := ⟨⟨by decide +kernel, by decide +kernel⟩, List.mem_of_getElem? (i := 823) (by decide +kernel), List.mem_of_getElem? (i := 1035) (by decide +kernel), List.mem_of_getElem? (i := 1036) (by decide +kernel)⟩
theorem lw_p39 : lw_okq (⟨"ToolHouseModel", "wanted", "(I)I"⟩, 43) := ⟨⟨by decide +kernel, by decide +kernel⟩, List.mem_of_getElem? (i := 823) (by decide +kernel), List.mem_of_getElem? (i := 1039) (by decide +kernel), List.mem_of_getElem? (i := 1040) (by decide +kernel)⟩
theorem lw_p40 : lw_okq (⟨"ToolHouseModel", "isMember", "(I)Z"⟩, 43) := ⟨⟨by decide +kernel, by decide +kernel⟩, List.mem_of_getElem? (i := 823) (by decide +kernel), List.mem_of_getElem? (i := 1047) (by decide +kernel), List.mem_of_getElem? (i := 1048) (by decide +kernel)⟩
theorem lw_p41 : lw_okq (⟨"ToolHouseModel", "counted", "(I)I"⟩, 43) := ⟨⟨by decide +kernel, by decide +kernel⟩, List.mem_of_getElem? (i := 823) (by decide +kernel), List.mem_of_getElem? (i := 1051) (by decide +kernel), List.mem_of_getElem? (i := 1052) (by decide +kernel)⟩
theorem lw_p42 : lw_okq (⟨"ToolHouseModel", "fits", "(II)Z"⟩, 43) := ⟨⟨by decide +kernel, by decide +kernel⟩, List.mem_of_getElem? (i := 823) (by decide +kernel), List.mem_of_getElem? (i := 1059) (by decide +kernel), List.mem_of_getElem? (i := 1060) (by decide +kernel)⟩
theorem lw_p43 : lw_okq (⟨"ToolHouseModel", "isFreeFor", "(IIII)Z"⟩, 43) := ⟨⟨by decide +kernel, by decide +kernel⟩, List.mem_of_getElem? (i := 823) (by decide +kernel), List.mem_of_getElem? (i := 1063) (by decide +kernel), List.mem_of_getElem? (i := 1064) (by decide +kernel)⟩
theorem lw_p44 : lw_okq (⟨"ToolHouseModel", "endOf", "(I)I"⟩, 43) := ⟨⟨by decide +kernel, by decide +kernel⟩, List.mem_of_getElem? (i := 823) (by decide +kernel), List.mem_of_getElem? (i := 1067) (by decide +kernel), List.mem_of_getElem? (i := 1068) (by decide +kernel)⟩
theorem lw_p45 : lw_okq (⟨"ToolHouseModel", "tries", "(I)V"⟩, 43) := ⟨⟨by decide +kernel, by decide +kernel⟩, List.mem_of_getElem? (i := 823) (by decide +kernel), List.mem_of_getElem? (i := 1074) (by decide +kernel), List.mem_of_getElem? (i := 1075) (by decide +kernel)⟩
theorem lw_p46 : lw_okq (⟨"ToolHouseModel", "worth", "()I"⟩, 43) := ⟨⟨by decide +kernel, by decide +kernel⟩, List.mem_of_getElem? (i := 823) (by decide +kernel), List.mem_of_getElem? (i := 1078) (by decide +kernel), List.mem_of_getElem? (i := 1079) (by decide +kernel)⟩
theorem lw_p47 : lw_okq (⟨"ToolHouseModel", "stands", "(II)Z"⟩, 43) := ⟨⟨by decide +kernel, by decide +kernel⟩, List.mem_of_getElem? (i := 823) (by decide +kernel), List.mem_of_getElem? (i := 1082) (by decide +kernel), List.mem_of_getElem? (i := 1083) (by decide +kernel)⟩
def lw_privs_3 : List (MethodName × Nat) := [(⟨"ToolHouseModel", "byteAt", "(I)I"⟩, 43), (⟨"ToolHouseModel", "statement", "()Z"⟩, 43), (⟨"ToolHouseModel", "isEvery", "()Z"⟩, 43), (⟨"ToolHouseModel", "wrong", "(I)Z"⟩, 43), (⟨"ToolHouseModel", "isThing", "(I)Z"⟩, 43), (⟨"ToolHouseModel", "outWith", "(I)I"⟩, 43), (⟨"ToolHouseModel", "isLawful", "(II)Z"⟩, 43), (⟨"ToolHouseModel", "wanted", "(I)I"⟩, 43), (⟨"ToolHouseModel", "isMember", "(I)Z"⟩, 43), (⟨"ToolHouseModel", "counted", "(I)I"⟩, 43), (⟨"ToolHouseModel", "fits", "(II)Z"⟩, 43), (⟨"ToolHouseModel", "isFreeFor", "(IIII)Z"⟩, 43), (⟨"ToolHouseModel", "endOf", "(I)I"⟩, 43), (⟨"ToolHouseModel", "tries", "(I)V"⟩, 43), (⟨"ToolHouseModel", "worth", "()I"⟩, 43), (⟨"ToolHouseModel", "stands", "(II)Z"⟩, 43)]
theorem lw_r3 : ∀ q ∈ lw_privs_3, lw_okq q := List.forall_mem_cons.mpr ⟨lw_p32, List.forall_mem_cons.mpr ⟨lw_p33, List.forall_mem_cons.mpr ⟨lw_p34, List.forall_mem_cons.mpr ⟨lw_p35, List.forall_mem_cons.mpr ⟨lw_p36, List.forall_mem_cons.mpr ⟨lw_p37, List.forall_mem_cons.mpr ⟨lw_p38, List.forall_mem_cons.mpr ⟨lw_p39, List.forall_mem_cons.mpr ⟨lw_p40, List.forall_mem_cons.mpr ⟨lw_p41, List.forall_mem_cons.mpr ⟨lw_p42, List.forall_mem_cons.mpr ⟨lw_p43, List.forall_mem_cons.mpr ⟨lw_p44, List.forall_mem_cons.mpr ⟨lw_p45, List.forall_mem_cons.mpr ⟨lw_p46, List.forall_mem_cons.mpr ⟨lw_p47, fun _ h => absurd h List.not_mem_nil⟩⟩⟩⟩⟩⟩⟩⟩⟩⟩⟩⟩⟩⟩⟩⟩
theorem lw_p48 : lw_okq (⟨"ToolHouseModel", "moves", "()V"⟩, 43) := ⟨⟨by decide +kernel, by decide +kernel⟩, List.mem_of_getElem? (i := 823) (by decide +kernel), List.mem_of_getElem? (i := 1106) (by decide +kernel), List.mem_of_getElem? (i := 1107) (by decide +kernel)⟩
theorem lw_p49 : lw_okq (⟨"ToolHouseModel", "isLate", "(I)Z"⟩, 43) := ⟨⟨by decide +kernel, by decide +kernel⟩, List.mem_of_getElem? (i := 823) (by decide +kernel), List.mem_of_getElem? (i := 1110) (by decide +kernel), List.mem_of_getElem? (i := 1111) (by decide +kernel)⟩
theorem lw_p50 : lw_okq (⟨"ToolHouseModel", "isAhead", "(II)Z"⟩, 43) := ⟨⟨by decide +kernel, by decide +kernel⟩, List.mem_of_getElem? (i := 823) (by decide +kernel), List.mem_of_getElem? (i := 1114) (by decide +kernel), List.mem_of_getElem? (i := 1115) (by decide +kernel)⟩
theorem lw_p51 : lw_okq (⟨"ToolHouseModel", "moves", "(I)V"⟩, 43) := ⟨⟨by decide +kernel, by decide +kernel⟩, List.mem_of_getElem? (i := 823) (by decide +kernel), List.mem_of_getElem? (i := 1118) (by decide +kernel), List.mem_of_getElem? (i := 1119) (by decide +kernel)⟩
def lw_privs_4 : List (MethodName × Nat) := [(⟨"ToolHouseModel", "moves", "()V"⟩, 43), (⟨"ToolHouseModel", "isLate", "(I)Z"⟩, 43), (⟨"ToolHouseModel", "isAhead", "(II)Z"⟩, 43), (⟨"ToolHouseModel", "moves", "(I)V"⟩, 43)]
theorem lw_r4 : ∀ q ∈ lw_privs_4, lw_okq q := List.forall_mem_cons.mpr ⟨lw_p48, List.forall_mem_cons.mpr ⟨lw_p49, List.forall_mem_cons.mpr ⟨lw_p50, List.forall_mem_cons.mpr ⟨lw_p51, fun _ h => absurd h List.not_mem_nil⟩⟩⟩⟩
def lw_privs : List (MethodName × Nat) := lw_privs_1 ++ (lw_privs_2 ++ (lw_privs_3 ++ (lw_privs_4)))
def lw_tbl : List Cond := k2_sels lw_privs ++ tables_1
theorem lw_privs_ok : ∀ q ∈ lw_privs, lw_okq q := by
  show ∀ q ∈ lw_privs_1 ++ (lw_privs_2 ++ (lw_privs_3 ++ (lw_privs_4))), lw_okq q
  exact List.forall_mem_append.mpr ⟨lw_r1, List.forall_mem_append.mpr ⟨lw_r2, List.forall_mem_append.mpr ⟨lw_r3, lw_r4⟩⟩⟩

def RX0 : String := "ToolHouse$Ask"
def TX0 : u_T := fun k => match k with
  | 0 => ("ToolHouse$Ask", "number", "I", true)
  | 1 => ("ToolHouse$Ask", "member", "LToolHouse$Member;", true)
  | 2 => ("ToolHouse$Ask", "kind", "LToolHouse$Kind;", true)
  | 3 => ("ToolHouse$Ask", "needs", "I", true)
  | 4 => ("ToolHouse$Ask", "first", "I", true)
  | 5 => ("ToolHouse$Ask", "last", "I", true)
  | 6 => ("ToolHouse$Ask", "rank", "I", true)
  | 7 => ("ToolHouse$Ask", "state", "I", false)
  | 8 => ("ToolHouse$Ask", "thing", "LToolHouse$Thing;", false)
  | 9 => ("ToolHouse$Ask", "moves", "I", false)
  | _ => ("ToolHouse$Ask", "backDay", "I", false)
def tyX0 : Nat → FieldType := fun k => match k with
  | 0 => .int
  | 1 => .object "ToolHouse$Member"
  | 2 => .object "ToolHouse$Kind"
  | 3 => .int
  | 4 => .int
  | 5 => .int
  | 6 => .int
  | 7 => .int
  | 8 => .object "ToolHouse$Thing"
  | 9 => .int
  | _ => .int
abbrev wsX00 : List Cond := u_ws RX0 TX0 11
theorem nmX0 : ∀ a, a < 11 → ∀ b, b < 11 → a ≠ b → (TX0 a).2.1 ≠ (TX0 b).2.1 := by decide +kernel
theorem tyX0_ok : ∀ k, k < 11 → parseFieldDescriptor (TX0 k).2.2.1 = some (tyX0 k) := by decide +kernel
abbrev cX0_init : ByteArray := prog_2_method_1_code
def yX0_init : MethodName := ⟨RX0, "<init>", "(ILToolHouse$Member;LToolHouse$Kind;IIII)V"⟩
abbrev cX0_isBookedOn : ByteArray := prog_2_method_2_code
def yX0_isBookedOn : MethodName := ⟨RX0, "isBookedOn", "(LToolHouse$Thing;)Z"⟩
abbrev cX0_holds : ByteArray := prog_2_method_3_code
def yX0_holds : MethodName := ⟨RX0, "holds", "(LToolHouse$Thing;)Z"⟩
abbrev cX0_lastDay : ByteArray := prog_2_method_4_code
def yX0_lastDay : MethodName := ⟨RX0, "lastDay", "(I)I"⟩
abbrev cX0_movesAheadOf : ByteArray := prog_2_method_5_code
def yX0_movesAheadOf : MethodName := ⟨RX0, "movesAheadOf", "(LToolHouse$Ask;)Z"⟩
def RX1 : String := "ToolHouse$Kind"
def TX1 : u_T := fun k => match k with
  | 0 => ("ToolHouse$Kind", "number", "I", true)
  | 1 => ("ToolHouse$Kind", "care", "I", true)
  | 2 => ("ToolHouse$Kind", "features", "I", true)
  | _ => ("ToolHouse$Kind", "fee", "I", true)
def tyX1 : Nat → FieldType := fun k => match k with
  | 0 => .int
  | 1 => .int
  | 2 => .int
  | _ => .int
abbrev wsX10 : List Cond := u_ws RX1 TX1 4
theorem nmX1 : ∀ a, a < 4 → ∀ b, b < 4 → a ≠ b → (TX1 a).2.1 ≠ (TX1 b).2.1 := by decide +kernel
theorem tyX1_ok : ∀ k, k < 4 → parseFieldDescriptor (TX1 k).2.2.1 = some (tyX1 k) := by decide +kernel
abbrev cX1_init : ByteArray := prog_3_method_1_code
def yX1_init : MethodName := ⟨RX1, "<init>", "(IIII)V"⟩
abbrev cX1_fits : ByteArray := prog_3_method_2_code
def yX1_fits : MethodName := ⟨RX1, "fits", "(LToolHouse$Ask;)Z"⟩
def RX2 : String := "ToolHouse$LawBook"
def TX2 : u_T := fun k => match k with
  | 0 => ("ToolHouse$LawBook", "told", "I", false)
  | 1 => ("ToolHouse$LawBook", "place", "I", false)
  | _ => ("ToolHouse$LawBook", "wanted", "[I", true)
def tyX2 : Nat → FieldType := fun k => match k with
  | 0 => .int
  | 1 => .int
  | _ => .array .int
abbrev wsX20 : List Cond := u_ws RX2 TX2 3
theorem nmX2 : ∀ a, a < 3 → ∀ b, b < 3 → a ≠ b → (TX2 a).2.1 ≠ (TX2 b).2.1 := by decide +kernel
theorem tyX2_ok : ∀ k, k < 3 → parseFieldDescriptor (TX2 k).2.2.1 = some (tyX2 k) := by decide +kernel
abbrev cX2_init : ByteArray := prog_4_method_1_code
def yX2_init : MethodName := ⟨RX2, "<init>", "()V"⟩
abbrev cX2_tell : ByteArray := prog_4_method_2_code
def yX2_tell : MethodName := ⟨RX2, "tell", "([I)V"⟩
abbrev cX2_daysWanted : ByteArray := prog_4_method_3_code
def yX2_daysWanted : MethodName := ⟨RX2, "daysWanted", "(I)I"⟩
abbrev cX2_lets : ByteArray := prog_4_method_4_code
def yX2_lets : MethodName := ⟨RX2, "lets", "(LToolHouse$Thing;I)Z"⟩
def RX3 : String := "ToolHouse$LawReader"
def TX3 : u_T := fun k => match k with
  | 0 => ("ToolHouse$LawReader", "wanted", "[I", true)
  | 1 => ("ToolHouse$LawReader", "fault", "I", false)
  | 2 => ("ToolHouse$LawReader", "place", "I", false)
  | 3 => ("ToolHouse$LawReader", "due", "I", false)
  | _ => ("ToolHouse$LawReader", "kindTold", "I", false)
def tyX3 : Nat → FieldType := fun k => match k with
  | 0 => .array .int
  | 1 => .int
  | 2 => .int
  | 3 => .int
  | _ => .int
abbrev wsX30 : List Cond := u_ws RX3 TX3 5
theorem nmX3 : ∀ a, a < 5 → ∀ b, b < 5 → a ≠ b → (TX3 a).2.1 ≠ (TX3 b).2.1 := by decide +kernel
theorem tyX3_ok : ∀ k, k < 5 → parseFieldDescriptor (TX3 k).2.2.1 = some (tyX3 k) := by decide +kernel
abbrev cX3_init : ByteArray := prog_5_method_1_code
def yX3_init : MethodName := ⟨RX3, "<init>", "()V"⟩
abbrev cX3_read : ByteArray := prog_5_method_2_code
def yX3_read : MethodName := ⟨RX3, "read", "(LToolHouse$Tape;I)V"⟩
abbrev cX3_take : ByteArray := prog_5_method_3_code
def yX3_take : MethodName := ⟨RX3, "take", "(LToolHouse$Tape;III)V"⟩
abbrev cX3_takeKind : ByteArray := prog_5_method_4_code
def yX3_takeKind : MethodName := ⟨RX3, "takeKind", "(III)V"⟩
abbrev cX3_takeDays : ByteArray := prog_5_method_5_code
def yX3_takeDays : MethodName := ⟨RX3, "takeDays", "(I)V"⟩
abbrev cX3_blame : ByteArray := prog_5_method_6_code
def yX3_blame : MethodName := ⟨RX3, "blame", "(II)V"⟩
abbrev cX3_endOfToken : ByteArray := prog_5_method_7_code
def yX3_endOfToken : MethodName := ⟨RX3, "endOfToken", "(LToolHouse$Tape;I)I"⟩
abbrev cX3_isEvery : ByteArray := prog_5_method_8_code
def yX3_isEvery : MethodName := ⟨RX3, "isEvery", "(LToolHouse$Tape;II)Z"⟩
abbrev cX3_numberOf : ByteArray := prog_5_method_9_code
def yX3_numberOf : MethodName := ⟨RX3, "numberOf", "(LToolHouse$Tape;II)I"⟩
abbrev cX3_isBlank : ByteArray := prog_5_method_10_code
def yX3_isBlank : MethodName := ⟨RX3, "isBlank", "(I)Z"⟩
abbrev cX3_isLetter : ByteArray := prog_5_method_11_code
def yX3_isLetter : MethodName := ⟨RX3, "isLetter", "(I)Z"⟩
abbrev cX3_isDigit : ByteArray := prog_5_method_12_code
def yX3_isDigit : MethodName := ⟨RX3, "isDigit", "(I)Z"⟩
def RX4 : String := "ToolHouse$Member"
def TX4 : u_T := fun k => match k with
  | 0 => ("ToolHouse$Member", "number", "I", true)
  | 1 => ("ToolHouse$Member", "hours", "I", false)
  | 2 => ("ToolHouse$Member", "fees", "I", false)
  | _ => ("ToolHouse$Member", "asksOut", "I", false)
def tyX4 : Nat → FieldType := fun k => match k with
  | 0 => .int
  | 1 => .int
  | 2 => .int
  | _ => .int
abbrev wsX40 : List Cond := u_ws RX4 TX4 4
theorem nmX4 : ∀ a, a < 4 → ∀ b, b < 4 → a ≠ b → (TX4 a).2.1 ≠ (TX4 b).2.1 := by decide +kernel
theorem tyX4_ok : ∀ k, k < 4 → parseFieldDescriptor (TX4 k).2.2.1 = some (tyX4 k) := by decide +kernel
abbrev cX4_init : ByteArray := prog_6_method_1_code
def yX4_init : MethodName := ⟨RX4, "<init>", "(I)V"⟩
abbrev cX4_owe : ByteArray := prog_6_method_2_code
def yX4_owe : MethodName := ⟨RX4, "owe", "(II)V"⟩
def RX5 : String := "ToolHouse$Planner"
def TX5 : u_T := fun k => match k with
  | 0 => ("ToolHouse$Planner", "row", "[LToolHouse$Ask;", true)
  | 1 => ("ToolHouse$Planner", "size", "I", false)
  | 2 => ("ToolHouse$Planner", "most", "[I", true)
  | _ => ("ToolHouse$Planner", "gains", "[I", true)
def tyX5 : Nat → FieldType := fun k => match k with
  | 0 => .array (.object "ToolHouse$Ask")
  | 1 => .int
  | 2 => .array .int
  | _ => .array .int
abbrev wsX50 : List Cond := u_ws RX5 TX5 4
theorem nmX5 : ∀ a, a < 4 → ∀ b, b < 4 → a ≠ b → (TX5 a).2.1 ≠ (TX5 b).2.1 := by decide +kernel
theorem tyX5_ok : ∀ k, k < 4 → parseFieldDescriptor (TX5 k).2.2.1 = some (tyX5 k) := by decide +kernel
abbrev cX5_init : ByteArray := prog_7_method_1_code
def yX5_init : MethodName := ⟨RX5, "<init>", "()V"⟩
abbrev cX5_begin : ByteArray := prog_7_method_2_code
def yX5_begin : MethodName := ⟨RX5, "begin", "()V"⟩
abbrev cX5_add : ByteArray := prog_7_method_3_code
def yX5_add : MethodName := ⟨RX5, "add", "(LToolHouse$Ask;)V"⟩
abbrev cX5_askAtRow : ByteArray := prog_7_method_4_code
def yX5_askAtRow : MethodName := ⟨RX5, "askAtRow", "(I)LToolHouse$Ask;"⟩
abbrev cX5_offer : ByteArray := prog_7_method_5_code
def yX5_offer : MethodName := ⟨RX5, "offer", "(LToolHouse$Thing;I)V"⟩
abbrev cX5_thingAtRow : ByteArray := prog_7_method_6_code
def yX5_thingAtRow : MethodName := ⟨RX5, "thingAtRow", "(I)I"⟩
abbrev cX5_wholeRow : ByteArray := prog_7_method_7_code
def yX5_wholeRow : MethodName := ⟨RX5, "wholeRow", "()I"⟩
abbrev cX5_weigh : ByteArray := prog_7_method_8_code
def yX5_weigh : MethodName := ⟨RX5, "weigh", "(LToolHouse$Thing;I)V"⟩
abbrev cX5_worthOf : ByteArray := prog_7_method_9_code
def yX5_worthOf : MethodName := ⟨RX5, "worthOf", "(LToolHouse$Ask;LToolHouse$Thing;I)I"⟩
abbrev cX5_nearTo : ByteArray := prog_7_method_10_code
def yX5_nearTo : MethodName := ⟨RX5, "nearTo", "(LToolHouse$Ask;II)I"⟩
def RX6 : String := "ToolHouse$Tape"
def TX6 : u_T := fun k => match k with
  | 0 => ("ToolHouse$Tape", "bytes", "[I", true)
  | _ => ("ToolHouse$Tape", "length", "I", false)
def tyX6 : Nat → FieldType := fun k => match k with
  | 0 => .array .int
  | _ => .int
abbrev wsX60 : List Cond := u_ws RX6 TX6 2
theorem nmX6 : ∀ a, a < 2 → ∀ b, b < 2 → a ≠ b → (TX6 a).2.1 ≠ (TX6 b).2.1 := by decide +kernel
theorem tyX6_ok : ∀ k, k < 2 → parseFieldDescriptor (TX6 k).2.2.1 = some (tyX6 k) := by decide +kernel
abbrev cX6_init : ByteArray := prog_8_method_1_code
def yX6_init : MethodName := ⟨RX6, "<init>", "()V"⟩
abbrev cX6_hasRoom : ByteArray := prog_8_method_2_code
def yX6_hasRoom : MethodName := ⟨RX6, "hasRoom", "()Z"⟩
abbrev cX6_put : ByteArray := prog_8_method_3_code
def yX6_put : MethodName := ⟨RX6, "put", "(I)V"⟩
abbrev cX6_byteAt : ByteArray := prog_8_method_4_code
def yX6_byteAt : MethodName := ⟨RX6, "byteAt", "(I)I"⟩
def RX7 : String := "ToolHouse$Thing"
def TX7 : u_T := fun k => match k with
  | 0 => ("ToolHouse$Thing", "number", "I", true)
  | 1 => ("ToolHouse$Thing", "kind", "LToolHouse$Kind;", true)
  | 2 => ("ToolHouse$Thing", "lastLook", "I", false)
  | 3 => ("ToolHouse$Thing", "lastBack", "I", false)
  | _ => ("ToolHouse$Thing", "outWith", "LToolHouse$Ask;", false)
def tyX7 : Nat → FieldType := fun k => match k with
  | 0 => .int
  | 1 => .object "ToolHouse$Kind"
  | 2 => .int
  | 3 => .int
  | _ => .object "ToolHouse$Ask"
abbrev wsX70 : List Cond := u_ws RX7 TX7 5
theorem nmX7 : ∀ a, a < 5 → ∀ b, b < 5 → a ≠ b → (TX7 a).2.1 ≠ (TX7 b).2.1 := by decide +kernel
theorem tyX7_ok : ∀ k, k < 5 → parseFieldDescriptor (TX7 k).2.2.1 = some (tyX7 k) := by decide +kernel
abbrev cX7_init : ByteArray := prog_9_method_1_code
def yX7_init : MethodName := ⟨RX7, "<init>", "(ILToolHouse$Kind;)V"⟩
abbrev cX7_isLate : ByteArray := prog_9_method_2_code
def yX7_isLate : MethodName := ⟨RX7, "isLate", "(I)Z"⟩
abbrev cX7_isCaredFor : ByteArray := prog_9_method_3_code
def yX7_isCaredFor : MethodName := ⟨RX7, "isCaredFor", "(I)Z"⟩
def RX8 : String := "ToolHouse"
def TX8 : u_T := fun k => match k with
  | 0 => ("ToolHouse", "kinds", "Ljava/util/ArrayList;", true)
  | 1 => ("ToolHouse", "things", "Ljava/util/ArrayList;", true)
  | 2 => ("ToolHouse", "members", "Ljava/util/ArrayList;", true)
  | 3 => ("ToolHouse", "asks", "Ljava/util/ArrayList;", true)
  | 4 => ("ToolHouse", "log", "Ljava/util/ArrayList;", true)
  | 5 => ("ToolHouse", "tape", "LToolHouse$Tape;", true)
  | 6 => ("ToolHouse", "reader", "LToolHouse$LawReader;", true)
  | 7 => ("ToolHouse", "laws", "LToolHouse$LawBook;", true)
  | 8 => ("ToolHouse", "planner", "LToolHouse$Planner;", true)
  | _ => ("ToolHouse", "day", "I", false)
def tyX8 : Nat → FieldType := fun k => match k with
  | 0 => .object "java/util/ArrayList"
  | 1 => .object "java/util/ArrayList"
  | 2 => .object "java/util/ArrayList"
  | 3 => .object "java/util/ArrayList"
  | 4 => .object "java/util/ArrayList"
  | 5 => .object "ToolHouse$Tape"
  | 6 => .object "ToolHouse$LawReader"
  | 7 => .object "ToolHouse$LawBook"
  | 8 => .object "ToolHouse$Planner"
  | _ => .int
abbrev wsX80 : List Cond := u_ws RX8 TX8 10
theorem nmX8 : ∀ a, a < 10 → ∀ b, b < 10 → a ≠ b → (TX8 a).2.1 ≠ (TX8 b).2.1 := by decide +kernel
theorem tyX8_ok : ∀ k, k < 10 → parseFieldDescriptor (TX8 k).2.2.1 = some (tyX8 k) := by decide +kernel
abbrev cX8_init : ByteArray := prog_1_method_1_code
def yX8_init : MethodName := ⟨RX8, "<init>", "()V"⟩
abbrev cX8_kind : ByteArray := prog_1_method_2_code
def yX8_kind : MethodName := ⟨RX8, "kind", "(III)I"⟩
abbrev cX8_thing : ByteArray := prog_1_method_3_code
def yX8_thing : MethodName := ⟨RX8, "thing", "(I)I"⟩
abbrev cX8_member : ByteArray := prog_1_method_4_code
def yX8_member : MethodName := ⟨RX8, "member", "()I"⟩
abbrev cX8_feed : ByteArray := prog_1_method_5_code
def yX8_feed : MethodName := ⟨RX8, "feed", "(IIIII)I"⟩
abbrev cX8_end : ByteArray := prog_1_method_6_code
def yX8_end : MethodName := ⟨RX8, "end", "(I)I"⟩
abbrev cX8_law : ByteArray := prog_1_method_7_code
def yX8_law : MethodName := ⟨RX8, "law", "()I"⟩
abbrev cX8_place : ByteArray := prog_1_method_8_code
def yX8_place : MethodName := ⟨RX8, "place", "()I"⟩
abbrev cX8_look : ByteArray := prog_1_method_9_code
def yX8_look : MethodName := ⟨RX8, "look", "(I)Z"⟩
abbrev cX8_lawful : ByteArray := prog_1_method_10_code
def yX8_lawful : MethodName := ⟨RX8, "lawful", "(II)I"⟩
abbrev cX8_ask : ByteArray := prog_1_method_11_code
def yX8_ask : MethodName := ⟨RX8, "ask", "(IIIIII)I"⟩
abbrev cX8_plan : ByteArray := prog_1_method_12_code
def yX8_plan : MethodName := ⟨RX8, "plan", "()I"⟩
abbrev cX8_off : ByteArray := prog_1_method_13_code
def yX8_off : MethodName := ⟨RX8, "off", "(I)Z"⟩
abbrev cX8_out : ByteArray := prog_1_method_14_code
def yX8_out : MethodName := ⟨RX8, "out", "(I)I"⟩
abbrev cX8_back : ByteArray := prog_1_method_15_code
def yX8_back : MethodName := ⟨RX8, "back", "(I)I"⟩
abbrev cX8_work : ByteArray := prog_1_method_16_code
def yX8_work : MethodName := ⟨RX8, "work", "(II)I"⟩
abbrev cX8_days : ByteArray := prog_1_method_17_code
def yX8_days : MethodName := ⟨RX8, "days", "(I)I"⟩
abbrev cX8_buy : ByteArray := prog_1_method_18_code
def yX8_buy : MethodName := ⟨RX8, "buy", "(I)I"⟩
abbrev cX8_of : ByteArray := prog_1_method_19_code
def yX8_of : MethodName := ⟨RX8, "of", "(II)I"⟩
abbrev cX8_thingOf : ByteArray := prog_1_method_20_code
def yX8_thingOf : MethodName := ⟨RX8, "thingOf", "(II)I"⟩
abbrev cX8_isFree : ByteArray := prog_1_method_21_code
def yX8_isFree : MethodName := ⟨RX8, "isFree", "(III)I"⟩
abbrev cX8_memberOf : ByteArray := prog_1_method_22_code
def yX8_memberOf : MethodName := ⟨RX8, "memberOf", "(II)I"⟩
abbrev cX8_count : ByteArray := prog_1_method_23_code
def yX8_count : MethodName := ⟨RX8, "count", "(I)I"⟩
abbrev cX8_isWithin : ByteArray := prog_1_method_24_code
def yX8_isWithin : MethodName := ⟨RX8, "isWithin", "(III)Z"⟩
abbrev cX8_areNear : ByteArray := prog_1_method_25_code
def yX8_areNear : MethodName := ⟨RX8, "areNear", "(IIIII)Z"⟩
abbrev cX8_kindAt : ByteArray := prog_1_method_26_code
def yX8_kindAt : MethodName := ⟨RX8, "kindAt", "(I)LToolHouse$Kind;"⟩
abbrev cX8_thingAt : ByteArray := prog_1_method_27_code
def yX8_thingAt : MethodName := ⟨RX8, "thingAt", "(I)LToolHouse$Thing;"⟩
abbrev cX8_memberAt : ByteArray := prog_1_method_28_code
def yX8_memberAt : MethodName := ⟨RX8, "memberAt", "(I)LToolHouse$Member;"⟩
abbrev cX8_askAt : ByteArray := prog_1_method_29_code
def yX8_askAt : MethodName := ⟨RX8, "askAt", "(I)LToolHouse$Ask;"⟩
abbrev cX8_canBeAsked : ByteArray := prog_1_method_30_code
def yX8_canBeAsked : MethodName := ⟨RX8, "canBeAsked", "(II)Z"⟩
abbrev cX8_howManyAre : ByteArray := prog_1_method_31_code
def yX8_howManyAre : MethodName := ⟨RX8, "howManyAre", "(I)I"⟩
abbrev cX8_howManyAreBookedOn : ByteArray := prog_1_method_32_code
def yX8_howManyAreBookedOn : MethodName := ⟨RX8, "howManyAreBookedOn", "(LToolHouse$Thing;)I"⟩
abbrev cX8_isFreeBut : ByteArray := prog_1_method_33_code
def yX8_isFreeBut : MethodName := ⟨RX8, "isFreeBut", "(LToolHouse$Ask;LToolHouse$Thing;II)Z"⟩
abbrev cX8_isFreeFor : ByteArray := prog_1_method_34_code
def yX8_isFreeFor : MethodName := ⟨RX8, "isFreeFor", "(LToolHouse$Ask;LToolHouse$Thing;)Z"⟩
abbrev cX8_rowThatMayHave : ByteArray := prog_1_method_35_code
def yX8_rowThatMayHave : MethodName := ⟨RX8, "rowThatMayHave", "(LToolHouse$Thing;)I"⟩
abbrev cX8_carryOutPlan : ByteArray := prog_1_method_36_code
def yX8_carryOutPlan : MethodName := ⟨RX8, "carryOutPlan", "()I"⟩
abbrev cX8_refuse : ByteArray := prog_1_method_37_code
def yX8_refuse : MethodName := ⟨RX8, "refuse", "(LToolHouse$Ask;)V"⟩
abbrev cX8_hindranceOf : ByteArray := prog_1_method_38_code
def yX8_hindranceOf : MethodName := ⟨RX8, "hindranceOf", "(LToolHouse$Ask;LToolHouse$Thing;)I"⟩
abbrev cX8_loseWhatIsOver : ByteArray := prog_1_method_39_code
def yX8_loseWhatIsOver : MethodName := ⟨RX8, "loseWhatIsOver", "()V"⟩
abbrev cX8_moveFromLateThings : ByteArray := prog_1_method_40_code
def yX8_moveFromLateThings : MethodName := ⟨RX8, "moveFromLateThings", "()V"⟩
abbrev cX8_nextToMove : ByteArray := prog_1_method_41_code
def yX8_nextToMove : MethodName := ⟨RX8, "nextToMove", "()LToolHouse$Ask;"⟩
abbrev cX8_mustMove : ByteArray := prog_1_method_42_code
def yX8_mustMove : MethodName := ⟨RX8, "mustMove", "(LToolHouse$Ask;)Z"⟩
abbrev cX8_firstOtherThingFor : ByteArray := prog_1_method_43_code
def yX8_firstOtherThingFor : MethodName := ⟨RX8, "firstOtherThingFor", "(LToolHouse$Ask;)LToolHouse$Thing;"⟩
def RX9 : String := "ToolHouseModel"
def TX9 : u_T := fun k => match k with
  | 0 => ("ToolHouseModel", "thrown", "I", false)
  | 1 => ("ToolHouseModel", "kinds", "I", false)
  | 2 => ("ToolHouseModel", "care", "[I", true)
  | 3 => ("ToolHouseModel", "features", "[I", true)
  | 4 => ("ToolHouseModel", "fee", "[I", true)
  | 5 => ("ToolHouseModel", "things", "I", false)
  | 6 => ("ToolHouseModel", "kindOf", "[I", true)
  | 7 => ("ToolHouseModel", "looked", "[I", true)
  | 8 => ("ToolHouseModel", "members", "I", false)
  | 9 => ("ToolHouseModel", "owes", "[I", true)
  | 10 => ("ToolHouseModel", "fees", "[I", true)
  | 11 => ("ToolHouseModel", "now", "I", false)
  | 12 => ("ToolHouseModel", "tape", "[B", true)
  | 13 => ("ToolHouseModel", "taped", "I", false)
  | 14 => ("ToolHouseModel", "laws", "I", false)
  | 15 => ("ToolHouseModel", "wants", "[I", true)
  | 16 => ("ToolHouseModel", "reads", "[I", true)
  | 17 => ("ToolHouseModel", "faultKind", "I", false)
  | 18 => ("ToolHouseModel", "faultPlace", "I", false)
  | 19 => ("ToolHouseModel", "from", "I", false)
  | 20 => ("ToolHouseModel", "over", "I", false)
  | 21 => ("ToolHouseModel", "value", "I", false)
  | 22 => ("ToolHouseModel", "sort", "I", false)
  | 23 => ("ToolHouseModel", "asks", "I", false)
  | 24 => ("ToolHouseModel", "state", "[I", true)
  | 25 => ("ToolHouseModel", "on", "[I", true)
  | 26 => ("ToolHouseModel", "moved", "[I", true)
  | 27 => ("ToolHouseModel", "who", "[I", true)
  | 28 => ("ToolHouseModel", "what", "[I", true)
  | 29 => ("ToolHouseModel", "needs", "[I", true)
  | 30 => ("ToolHouseModel", "first", "[I", true)
  | 31 => ("ToolHouseModel", "last", "[I", true)
  | 32 => ("ToolHouseModel", "rank", "[I", true)
  | 33 => ("ToolHouseModel", "cameBack", "[I", true)
  | 34 => ("ToolHouseModel", "row", "[I", true)
  | 35 => ("ToolHouseModel", "many", "I", false)
  | 36 => ("ToolHouseModel", "tried", "[I", true)
  | 37 => ("ToolHouseModel", "best", "[I", true)
  | 38 => ("ToolHouseModel", "bestWorth", "I", false)
  | 39 => ("ToolHouseModel", "can", "[Z", true)
  | 40 => ("ToolHouseModel", "isDone", "[Z", true)
  | 41 => ("ToolHouseModel", "order", "[I", true)
  | _ => ("ToolHouseModel", "mostTo", "[I", true)
def tyX9 : Nat → FieldType := fun k => match k with
  | 0 => .int
  | 1 => .int
  | 2 => .array .int
  | 3 => .array .int
  | 4 => .array .int
  | 5 => .int
  | 6 => .array .int
  | 7 => .array .int
  | 8 => .int
  | 9 => .array .int
  | 10 => .array .int
  | 11 => .int
  | 12 => .array .byte
  | 13 => .int
  | 14 => .int
  | 15 => .array .int
  | 16 => .array .int
  | 17 => .int
  | 18 => .int
  | 19 => .int
  | 20 => .int
  | 21 => .int
  | 22 => .int
  | 23 => .int
  | 24 => .array .int
  | 25 => .array .int
  | 26 => .array .int
  | 27 => .array .int
  | 28 => .array .int
  | 29 => .array .int
  | 30 => .array .int
  | 31 => .array .int
  | 32 => .array .int
  | 33 => .array .int
  | 34 => .array .int
  | 35 => .int
  | 36 => .array .int
  | 37 => .array .int
  | 38 => .int
  | 39 => .array .boolean
  | 40 => .array .boolean
  | 41 => .array .int
  | _ => .array .int
abbrev wsX90 : List Cond := u_ws RX9 TX9 43
theorem nmX9 : ∀ a, a < 43 → ∀ b, b < 43 → a ≠ b → (TX9 a).2.1 ≠ (TX9 b).2.1 := by decide +kernel
theorem tyX9_ok : ∀ k, k < 43 → parseFieldDescriptor (TX9 k).2.2.1 = some (tyX9 k) := by decide +kernel
abbrev cX9_init : ByteArray := prog_11_method_1_code
def yX9_init : MethodName := ⟨RX9, "<init>", "()V"⟩
abbrev cX9_thrown : ByteArray := prog_11_method_2_code
def yX9_thrown : MethodName := ⟨RX9, "thrown", "()I"⟩
abbrev cX9_within : ByteArray := prog_11_method_3_code
def yX9_within : MethodName := ⟨RX9, "within", "(III)Z"⟩
abbrev cX9_kind : ByteArray := prog_11_method_4_code
def yX9_kind : MethodName := ⟨RX9, "kind", "(III)I"⟩
abbrev cX9_isKind : ByteArray := prog_11_method_5_code
def yX9_isKind : MethodName := ⟨RX9, "isKind", "(I)Z"⟩
abbrev cX9_isThing : ByteArray := prog_11_method_6_code
def yX9_isThing : MethodName := ⟨RX9, "isThing", "(I)Z"⟩
abbrev cX9_isMember : ByteArray := prog_11_method_7_code
def yX9_isMember : MethodName := ⟨RX9, "isMember", "(I)Z"⟩
abbrev cX9_thing : ByteArray := prog_11_method_8_code
def yX9_thing : MethodName := ⟨RX9, "thing", "(I)I"⟩
abbrev cX9_member : ByteArray := prog_11_method_9_code
def yX9_member : MethodName := ⟨RX9, "member", "()I"⟩
abbrev cX9_feed : ByteArray := prog_11_method_10_code
def yX9_feed : MethodName := ⟨RX9, "feed", "(IIIII)I"⟩
abbrev cX9_end : ByteArray := prog_11_method_11_code
def yX9_end : MethodName := ⟨RX9, "end", "(I)I"⟩
abbrev cX9_byteAt : ByteArray := prog_11_method_12_code
def yX9_byteAt : MethodName := ⟨RX9, "byteAt", "(I)I"⟩
abbrev cX9_token : ByteArray := prog_11_method_13_code
def yX9_token : MethodName := ⟨RX9, "token", "()V"⟩
abbrev cX9_wrong : ByteArray := prog_11_method_14_code
def yX9_wrong : MethodName := ⟨RX9, "wrong", "(I)Z"⟩
abbrev cX9_isEvery : ByteArray := prog_11_method_15_code
def yX9_isEvery : MethodName := ⟨RX9, "isEvery", "()Z"⟩
abbrev cX9_statement : ByteArray := prog_11_method_16_code
def yX9_statement : MethodName := ⟨RX9, "statement", "()Z"⟩
abbrev cX9_law : ByteArray := prog_11_method_17_code
def yX9_law : MethodName := ⟨RX9, "law", "()I"⟩
abbrev cX9_place : ByteArray := prog_11_method_18_code
def yX9_place : MethodName := ⟨RX9, "place", "()I"⟩
abbrev cX9_wanted : ByteArray := prog_11_method_19_code
def yX9_wanted : MethodName := ⟨RX9, "wanted", "(I)I"⟩
abbrev cX9_isLawful : ByteArray := prog_11_method_20_code
def yX9_isLawful : MethodName := ⟨RX9, "isLawful", "(II)Z"⟩
abbrev cX9_look : ByteArray := prog_11_method_21_code
def yX9_look : MethodName := ⟨RX9, "look", "(I)Z"⟩
abbrev cX9_lawful : ByteArray := prog_11_method_22_code
def yX9_lawful : MethodName := ⟨RX9, "lawful", "(II)I"⟩
abbrev cX9_counted : ByteArray := prog_11_method_23_code
def yX9_counted : MethodName := ⟨RX9, "counted", "(I)I"⟩
abbrev cX9_ask : ByteArray := prog_11_method_24_code
def yX9_ask : MethodName := ⟨RX9, "ask", "(IIIIII)I"⟩
abbrev cX9_fits : ByteArray := prog_11_method_25_code
def yX9_fits : MethodName := ⟨RX9, "fits", "(II)Z"⟩
abbrev cX9_outWith : ByteArray := prog_11_method_26_code
def yX9_outWith : MethodName := ⟨RX9, "outWith", "(I)I"⟩
abbrev cX9_endOf : ByteArray := prog_11_method_27_code
def yX9_endOf : MethodName := ⟨RX9, "endOf", "(I)I"⟩
abbrev cX9_areNear : ByteArray := prog_11_method_28_code
def yX9_areNear : MethodName := ⟨RX9, "areNear", "(JJJJI)Z"⟩
abbrev cX9_isFreeFor : ByteArray := prog_11_method_29_code
def yX9_isFreeFor : MethodName := ⟨RX9, "isFreeFor", "(IIII)Z"⟩
abbrev cX9_worth : ByteArray := prog_11_method_30_code
def yX9_worth : MethodName := ⟨RX9, "worth", "()I"⟩
abbrev cX9_stands : ByteArray := prog_11_method_31_code
def yX9_stands : MethodName := ⟨RX9, "stands", "(II)Z"⟩
abbrev cX9_tries : ByteArray := prog_11_method_32_code
def yX9_tries : MethodName := ⟨RX9, "tries", "(I)V"⟩
abbrev cX9_plan : ByteArray := prog_11_method_33_code
def yX9_plan : MethodName := ⟨RX9, "plan", "()I"⟩
abbrev cX9_off : ByteArray := prog_11_method_34_code
def yX9_off : MethodName := ⟨RX9, "off", "(I)Z"⟩
abbrev cX9_out : ByteArray := prog_11_method_35_code
def yX9_out : MethodName := ⟨RX9, "out", "(I)I"⟩
abbrev cX9_back : ByteArray := prog_11_method_36_code
def yX9_back : MethodName := ⟨RX9, "back", "(I)I"⟩
abbrev cX9_work : ByteArray := prog_11_method_37_code
def yX9_work : MethodName := ⟨RX9, "work", "(II)I"⟩
abbrev cX9_isLate : ByteArray := prog_11_method_38_code
def yX9_isLate : MethodName := ⟨RX9, "isLate", "(I)Z"⟩
abbrev cX9_days : ByteArray := prog_11_method_39_code
def yX9_days : MethodName := ⟨RX9, "days", "(I)I"⟩
abbrev cX9_moves : ByteArray := prog_11_method_40_code
def yX9_moves : MethodName := ⟨RX9, "moves", "()V"⟩
abbrev cX9_isAhead : ByteArray := prog_11_method_41_code
def yX9_isAhead : MethodName := ⟨RX9, "isAhead", "(II)Z"⟩
abbrev cX9_moves_ : ByteArray := prog_11_method_42_code
def yX9_moves_ : MethodName := ⟨RX9, "moves", "(I)V"⟩
abbrev cX9_buy : ByteArray := prog_11_method_43_code
def yX9_buy : MethodName := ⟨RX9, "buy", "(I)I"⟩
abbrev cX9_of : ByteArray := prog_11_method_44_code
def yX9_of : MethodName := ⟨RX9, "of", "(II)I"⟩
abbrev cX9_thingOf : ByteArray := prog_11_method_45_code
def yX9_thingOf : MethodName := ⟨RX9, "thingOf", "(II)I"⟩
abbrev cX9_isFree : ByteArray := prog_11_method_46_code
def yX9_isFree : MethodName := ⟨RX9, "isFree", "(III)I"⟩
abbrev cX9_memberOf : ByteArray := prog_11_method_47_code
def yX9_memberOf : MethodName := ⟨RX9, "memberOf", "(II)I"⟩
abbrev cX9_count : ByteArray := prog_11_method_48_code
def yX9_count : MethodName := ⟨RX9, "count", "(I)I"⟩
def RJx145de : String := "java/io/Serializable"
def TJx145de : u_T := fun k => match k with
  | _ => ("", "", "", false)
def tyJx145de : Nat → FieldType := fun k => match k with
  | _ => .int
abbrev wsJx145de0 : List Cond := u_ws RJx145de TJx145de 0
theorem nmJx145de : ∀ a, a < 0 → ∀ b, b < 0 → a ≠ b → (TJx145de a).2.1 ≠ (TJx145de b).2.1 := by decide +kernel
theorem tyJx145de_ok : ∀ k, k < 0 → parseFieldDescriptor (TJx145de k).2.2.1 = some (tyJx145de k) := by decide +kernel
def RJx8e188 : String := "java/lang/Cloneable"
def TJx8e188 : u_T := fun k => match k with
  | _ => ("", "", "", false)
def tyJx8e188 : Nat → FieldType := fun k => match k with
  | _ => .int
abbrev wsJx8e1880 : List Cond := u_ws RJx8e188 TJx8e188 0
theorem nmJx8e188 : ∀ a, a < 0 → ∀ b, b < 0 → a ≠ b → (TJx8e188 a).2.1 ≠ (TJx8e188 b).2.1 := by decide +kernel
theorem tyJx8e188_ok : ∀ k, k < 0 → parseFieldDescriptor (TJx8e188 k).2.2.1 = some (tyJx8e188 k) := by decide +kernel
def RJxab1ab : String := "java/lang/Iterable"
def TJxab1ab : u_T := fun k => match k with
  | _ => ("", "", "", false)
def tyJxab1ab : Nat → FieldType := fun k => match k with
  | _ => .int
abbrev wsJxab1ab0 : List Cond := u_ws RJxab1ab TJxab1ab 0
theorem nmJxab1ab : ∀ a, a < 0 → ∀ b, b < 0 → a ≠ b → (TJxab1ab a).2.1 ≠ (TJxab1ab b).2.1 := by decide +kernel
theorem tyJxab1ab_ok : ∀ k, k < 0 → parseFieldDescriptor (TJxab1ab k).2.2.1 = some (tyJxab1ab k) := by decide +kernel
def RJ9 : String := "java/lang/Math"
def TJ9 : u_T := fun k => match k with
  | _ => ("", "", "", false)
def tyJ9 : Nat → FieldType := fun k => match k with
  | _ => .int
abbrev wsJ90 : List Cond := u_ws RJ9 TJ9 0
theorem nmJ9 : ∀ a, a < 0 → ∀ b, b < 0 → a ≠ b → (TJ9 a).2.1 ≠ (TJ9 b).2.1 := by decide +kernel
theorem tyJ9_ok : ∀ k, k < 0 → parseFieldDescriptor (TJ9 k).2.2.1 = some (tyJ9 k) := by decide +kernel
abbrev cJ9_max_7cf53 : ByteArray := prog_16_method_65_code
def yJ9_max_7cf53 : MethodName := ⟨RJ9, "max", "(II)I"⟩
abbrev cJ9_min_7cf53 : ByteArray := prog_16_method_69_code
def yJ9_min_7cf53 : MethodName := ⟨RJ9, "min", "(II)I"⟩
def RJ0 : String := "java/lang/String"
def TJ0 : u_T := fun k => match k with
  | _ => ("", "", "", false)
def tyJ0 : Nat → FieldType := fun k => match k with
  | _ => .int
abbrev wsJ00 : List Cond := u_ws RJ0 TJ0 0
theorem nmJ0 : ∀ a, a < 0 → ∀ b, b < 0 → a ≠ b → (TJ0 a).2.1 ≠ (TJ0 b).2.1 := by decide +kernel
theorem tyJ0_ok : ∀ k, k < 0 → parseFieldDescriptor (TJ0 k).2.2.1 = some (tyJ0 k) := by decide +kernel
abbrev cJ0_length_8abf5 : ByteArray := prog_18_method_54_code
def yJ0_length_8abf5 : MethodName := ⟨RJ0, "length", "()I"⟩
abbrev cJ0_charAt_5068e : ByteArray := prog_18_method_56_code
def yJ0_charAt_5068e : MethodName := ⟨RJ0, "charAt", "(I)C"⟩
abbrev cJ0_coder_7d493 : ByteArray := prog_18_method_152_code
def yJ0_coder_7d493 : MethodName := ⟨RJ0, "coder", "()B"⟩
abbrev cJ0_isLatin1_aae02 : ByteArray := prog_18_method_154_code
def yJ0_isLatin1_aae02 : MethodName := ⟨RJ0, "isLatin1", "()Z"⟩
abbrev cJ0_checkIndex_df160 : ByteArray := prog_18_method_155_code
def yJ0_checkIndex_df160 : MethodName := ⟨RJ0, "checkIndex", "(II)V"⟩
def RJ1 : String := "java/lang/StringLatin1"
def TJ1 : u_T := fun k => match k with
  | _ => ("", "", "", false)
def tyJ1 : Nat → FieldType := fun k => match k with
  | _ => .int
abbrev wsJ10 : List Cond := u_ws RJ1 TJ1 0
theorem nmJ1 : ∀ a, a < 0 → ∀ b, b < 0 → a ≠ b → (TJ1 a).2.1 ≠ (TJ1 b).2.1 := by decide +kernel
theorem tyJ1_ok : ∀ k, k < 0 → parseFieldDescriptor (TJ1 k).2.2.1 = some (tyJ1 k) := by decide +kernel
abbrev cJ1_charAt_3b067 : ByteArray := prog_19_method_2_code
def yJ1_charAt_3b067 : MethodName := ⟨RJ1, "charAt", "([BI)C"⟩
def RJ2 : String := "java/lang/StringUTF16"
def TJ2 : u_T := fun k => match k with
  | _ => ("", "", "", false)
def tyJ2 : Nat → FieldType := fun k => match k with
  | _ => .int
abbrev wsJ20 : List Cond := u_ws RJ2 TJ2 0
theorem nmJ2 : ∀ a, a < 0 → ∀ b, b < 0 → a ≠ b → (TJ2 a).2.1 ≠ (TJ2 b).2.1 := by decide +kernel
theorem tyJ2_ok : ∀ k, k < 0 → parseFieldDescriptor (TJ2 k).2.2.1 = some (tyJ2 k) := by decide +kernel
abbrev cJ2_getChar_3b067 : ByteArray := prog_20_method_5_code
def yJ2_getChar_3b067 : MethodName := ⟨RJ2, "getChar", "([BI)C"⟩
abbrev cJ2_length_9d52b : ByteArray := prog_20_method_6_code
def yJ2_length_9d52b : MethodName := ⟨RJ2, "length", "([B)I"⟩
abbrev cJ2_charAt_3b067 : ByteArray := prog_20_method_83_code
def yJ2_charAt_3b067 : MethodName := ⟨RJ2, "charAt", "([BI)C"⟩
abbrev cJ2_checkIndex_2214a : ByteArray := prog_20_method_91_code
def yJ2_checkIndex_2214a : MethodName := ⟨RJ2, "checkIndex", "(I[B)V"⟩
def RJ10 : String := "java/lang/System"
def TJ10 : u_T := fun k => match k with
  | _ => ("", "", "", false)
def tyJ10 : Nat → FieldType := fun k => match k with
  | _ => .int
abbrev wsJ100 : List Cond := u_ws RJ10 TJ10 0
theorem nmJ10 : ∀ a, a < 0 → ∀ b, b < 0 → a ≠ b → (TJ10 a).2.1 ≠ (TJ10 b).2.1 := by decide +kernel
theorem tyJ10_ok : ∀ k, k < 0 → parseFieldDescriptor (TJ10 k).2.2.1 = some (tyJ10 k) := by decide +kernel
def RJxa1e45 : String := "java/util/AbstractCollection"
def TJxa1e45 : u_T := fun k => match k with
  | _ => ("", "", "", false)
def tyJxa1e45 : Nat → FieldType := fun k => match k with
  | _ => .int
abbrev wsJxa1e450 : List Cond := u_ws RJxa1e45 TJxa1e45 0
theorem nmJxa1e45 : ∀ a, a < 0 → ∀ b, b < 0 → a ≠ b → (TJxa1e45 a).2.1 ≠ (TJxa1e45 b).2.1 := by decide +kernel
theorem tyJxa1e45_ok : ∀ k, k < 0 → parseFieldDescriptor (TJxa1e45 k).2.2.1 = some (tyJxa1e45 k) := by decide +kernel
abbrev cJxa1e45_init_da8c8 : ByteArray := prog_23_method_1_code
def yJxa1e45_init_da8c8 : MethodName := ⟨RJxa1e45, "<init>", "()V"⟩
def RJxc12de : String := "java/util/AbstractList"
def TJxc12de : u_T := fun k => match k with
  | _ => ("", "", "", false)
def tyJxc12de : Nat → FieldType := fun k => match k with
  | _ => .int
abbrev wsJxc12de0 : List Cond := u_ws RJxc12de TJxc12de 0
theorem nmJxc12de : ∀ a, a < 0 → ∀ b, b < 0 → a ≠ b → (TJxc12de a).2.1 ≠ (TJxc12de b).2.1 := by decide +kernel
theorem tyJxc12de_ok : ∀ k, k < 0 → parseFieldDescriptor (TJxc12de k).2.2.1 = some (tyJxc12de k) := by decide +kernel
abbrev cJxc12de_init_da8c8 : ByteArray := prog_24_method_1_code
def yJxc12de_init_da8c8 : MethodName := ⟨RJxc12de, "<init>", "()V"⟩
def RJx4a65c : String := "java/util/ArrayList"
def TJx4a65c : u_T := fun k => match k with
  | 0 => ("java/util/AbstractList", "modCount", "I", false)
  | 1 => ("java/util/ArrayList", "elementData", "[Ljava/lang/Object;", false)
  | _ => ("java/util/ArrayList", "size", "I", false)
def tyJx4a65c : Nat → FieldType := fun k => match k with
  | 0 => .int
  | 1 => .array (.object "java/lang/Object")
  | _ => .int
abbrev wsJx4a65c0 : List Cond := u_ws RJx4a65c TJx4a65c 3
theorem nmJx4a65c : ∀ a, a < 3 → ∀ b, b < 3 → a ≠ b → (TJx4a65c a).2.1 ≠ (TJx4a65c b).2.1 := by decide +kernel
theorem tyJx4a65c_ok : ∀ k, k < 3 → parseFieldDescriptor (TJx4a65c k).2.2.1 = some (tyJx4a65c k) := by decide +kernel
abbrev cJx4a65c_init_da8c8 : ByteArray := prog_25_method_2_code
def yJx4a65c_init_da8c8 : MethodName := ⟨RJx4a65c, "<init>", "()V"⟩
abbrev cJx4a65c_grow_92f84 : ByteArray := prog_25_method_6_code
def yJx4a65c_grow_92f84 : MethodName := ⟨RJx4a65c, "grow", "(I)[Ljava/lang/Object;"⟩
abbrev cJx4a65c_grow_d5877 : ByteArray := prog_25_method_7_code
def yJx4a65c_grow_d5877 : MethodName := ⟨RJx4a65c, "grow", "()[Ljava/lang/Object;"⟩
abbrev cJx4a65c_size_8abf5 : ByteArray := prog_25_method_8_code
def yJx4a65c_size_8abf5 : MethodName := ⟨RJx4a65c, "size", "()I"⟩
abbrev cJx4a65c_elementData_915e3 : ByteArray := prog_25_method_18_code
def yJx4a65c_elementData_915e3 : MethodName := ⟨RJx4a65c, "elementData", "(I)Ljava/lang/Object;"⟩
abbrev cJx4a65c_get_915e3 : ByteArray := prog_25_method_20_code
def yJx4a65c_get_915e3 : MethodName := ⟨RJx4a65c, "get", "(I)Ljava/lang/Object;"⟩
abbrev cJx4a65c_add_72be8 : ByteArray := prog_25_method_24_code
def yJx4a65c_add_72be8 : MethodName := ⟨RJx4a65c, "add", "(Ljava/lang/Object;[Ljava/lang/Object;I)V"⟩
abbrev cJx4a65c_add_9ea2d : ByteArray := prog_25_method_25_code
def yJx4a65c_add_9ea2d : MethodName := ⟨RJx4a65c, "add", "(Ljava/lang/Object;)Z"⟩
abbrev cJx4a65c_add_7a177 : ByteArray := prog_25_method_26_code
def yJx4a65c_add_7a177 : MethodName := ⟨RJx4a65c, "add", "(ILjava/lang/Object;)V"⟩
abbrev cJx4a65c_rangeCheckForAdd_d00df : ByteArray := prog_25_method_45_code
def yJx4a65c_rangeCheckForAdd_d00df : MethodName := ⟨RJx4a65c, "rangeCheckForAdd", "(I)V"⟩
def RJ7 : String := "java/util/Arrays"
def TJ7 : u_T := fun k => match k with
  | _ => ("", "", "", false)
def tyJ7 : Nat → FieldType := fun k => match k with
  | _ => .int
abbrev wsJ70 : List Cond := u_ws RJ7 TJ7 0
theorem nmJ7 : ∀ a, a < 0 → ∀ b, b < 0 → a ≠ b → (TJ7 a).2.1 ≠ (TJ7 b).2.1 := by decide +kernel
theorem tyJ7_ok : ∀ k, k < 0 → parseFieldDescriptor (TJ7 k).2.2.1 = some (tyJ7 k) := by decide +kernel
abbrev cJ7_fill_53178 : ByteArray := prog_26_method_103_code
def yJ7_fill_53178 : MethodName := ⟨RJ7, "fill", "([II)V"⟩
abbrev cJ7_copyOf_1904c : ByteArray := prog_26_method_119_code
def yJ7_copyOf_1904c : MethodName := ⟨RJ7, "copyOf", "([Ljava/lang/Object;I)[Ljava/lang/Object;"⟩
abbrev cJ7_copyOf_6403c : ByteArray := prog_26_method_120_code
def yJ7_copyOf_6403c : MethodName := ⟨RJ7, "copyOf", "([Ljava/lang/Object;ILjava/lang/Class;)[Ljava/lang/Object;"⟩
def RJx5ef63 : String := "java/util/Collection"
def TJx5ef63 : u_T := fun k => match k with
  | _ => ("", "", "", false)
def tyJx5ef63 : Nat → FieldType := fun k => match k with
  | _ => .int
abbrev wsJx5ef630 : List Cond := u_ws RJx5ef63 TJx5ef63 0
theorem nmJx5ef63 : ∀ a, a < 0 → ∀ b, b < 0 → a ≠ b → (TJx5ef63 a).2.1 ≠ (TJx5ef63 b).2.1 := by decide +kernel
theorem tyJx5ef63_ok : ∀ k, k < 0 → parseFieldDescriptor (TJx5ef63 k).2.2.1 = some (tyJx5ef63 k) := by decide +kernel
def RJxbd725 : String := "java/util/List"
def TJxbd725 : u_T := fun k => match k with
  | _ => ("", "", "", false)
def tyJxbd725 : Nat → FieldType := fun k => match k with
  | _ => .int
abbrev wsJxbd7250 : List Cond := u_ws RJxbd725 TJxbd725 0
theorem nmJxbd725 : ∀ a, a < 0 → ∀ b, b < 0 → a ≠ b → (TJxbd725 a).2.1 ≠ (TJxbd725 b).2.1 := by decide +kernel
theorem tyJxbd725_ok : ∀ k, k < 0 → parseFieldDescriptor (TJxbd725 k).2.2.1 = some (tyJxbd725 k) := by decide +kernel
def RJ15 : String := "java/util/Objects"
def TJ15 : u_T := fun k => match k with
  | _ => ("", "", "", false)
def tyJ15 : Nat → FieldType := fun k => match k with
  | _ => .int
abbrev wsJ150 : List Cond := u_ws RJ15 TJ15 0
theorem nmJ15 : ∀ a, a < 0 → ∀ b, b < 0 → a ≠ b → (TJ15 a).2.1 ≠ (TJ15 b).2.1 := by decide +kernel
theorem tyJ15_ok : ∀ k, k < 0 → parseFieldDescriptor (TJ15 k).2.2.1 = some (tyJ15 k) := by decide +kernel
abbrev cJ15_checkIndex_7cf53 : ByteArray := prog_30_method_17_code
def yJ15_checkIndex_7cf53 : MethodName := ⟨RJ15, "checkIndex", "(II)I"⟩
def RJxf0a74 : String := "java/util/RandomAccess"
def TJxf0a74 : u_T := fun k => match k with
  | _ => ("", "", "", false)
def tyJxf0a74 : Nat → FieldType := fun k => match k with
  | _ => .int
abbrev wsJxf0a740 : List Cond := u_ws RJxf0a74 TJxf0a74 0
theorem nmJxf0a74 : ∀ a, a < 0 → ∀ b, b < 0 → a ≠ b → (TJxf0a74 a).2.1 ≠ (TJxf0a74 b).2.1 := by decide +kernel
theorem tyJxf0a74_ok : ∀ k, k < 0 → parseFieldDescriptor (TJxf0a74 k).2.2.1 = some (tyJxf0a74 k) := by decide +kernel
def RJxa66e6 : String := "java/util/SequencedCollection"
def TJxa66e6 : u_T := fun k => match k with
  | _ => ("", "", "", false)
def tyJxa66e6 : Nat → FieldType := fun k => match k with
  | _ => .int
abbrev wsJxa66e60 : List Cond := u_ws RJxa66e6 TJxa66e6 0
theorem nmJxa66e6 : ∀ a, a < 0 → ∀ b, b < 0 → a ≠ b → (TJxa66e6 a).2.1 ≠ (TJxa66e6 b).2.1 := by decide +kernel
theorem tyJxa66e6_ok : ∀ k, k < 0 → parseFieldDescriptor (TJxa66e6 k).2.2.1 = some (tyJxa66e6 k) := by decide +kernel
def RJ8 : String := "jdk/internal/util/ArraysSupport"
def TJ8 : u_T := fun k => match k with
  | _ => ("", "", "", false)
def tyJ8 : Nat → FieldType := fun k => match k with
  | _ => .int
abbrev wsJ80 : List Cond := u_ws RJ8 TJ8 0
theorem nmJ8 : ∀ a, a < 0 → ∀ b, b < 0 → a ≠ b → (TJ8 a).2.1 ≠ (TJ8 b).2.1 := by decide +kernel
theorem tyJ8_ok : ∀ k, k < 0 → parseFieldDescriptor (TJ8 k).2.2.1 = some (tyJ8 k) := by decide +kernel
abbrev cJ8_newLength_cabcc : ByteArray := prog_33_method_27_code
def yJ8_newLength_cabcc : MethodName := ⟨RJ8, "newLength", "(III)I"⟩
abbrev cJ8_hugeLength_7cf53 : ByteArray := prog_33_method_28_code
def yJ8_hugeLength_7cf53 : MethodName := ⟨RJ8, "hugeLength", "(II)I"⟩
def RJ3 : String := "jdk/internal/util/Preconditions"
def TJ3 : u_T := fun k => match k with
  | _ => ("", "", "", false)
def tyJ3 : Nat → FieldType := fun k => match k with
  | _ => .int
abbrev wsJ30 : List Cond := u_ws RJ3 TJ3 0
theorem nmJ3 : ∀ a, a < 0 → ∀ b, b < 0 → a ≠ b → (TJ3 a).2.1 ≠ (TJ3 b).2.1 := by decide +kernel
theorem tyJ3_ok : ∀ k, k < 0 → parseFieldDescriptor (TJ3 k).2.2.1 = some (tyJ3 k) := by decide +kernel
abbrev cJ3_checkIndex_8e157 : ByteArray := prog_34_method_11_code
def yJ3_checkIndex_8e157 : MethodName := ⟨RJ3, "checkIndex", "(IILjava/util/function/BiFunction;)I"⟩
def RL : String := "ToolHouseLaw"
abbrev cL_of : ByteArray := method_3_code
def yL_of : MethodName := ⟨RL, "of", "(LToolHouse;II[J)I"⟩
abbrev cL_law : ByteArray := code
def yL_law : MethodName := ⟨RL, "law", "([I)Z"⟩
/-- the words that every method of the game has -/
def TB : List Cond := lw_tbl.filter goodWord
end
section
theorem dX0_init_0 : decode cX0_init 0 = .ok (.aload_n 0, 1) := by decide +kernel
theorem dX0_init_1 : decode cX0_init 1 = .ok (.invokespecial 3, 3) := by decide +kernel
theorem dX0_init_4 : decode cX0_init 4 = .ok (.aload_n 0, 1) := by decide +kernel
theorem dX0_init_5 : decode cX0_init 5 = .ok (.iconst 0, 1) := by decide +kernel
theorem dX0_init_6 : decode cX0_init 6 = .ok (.putfield 9, 3) := by decide +kernel
theorem dX0_init_9 : decode cX0_init 9 = .ok (.aload_n 0, 1) := by decide +kernel
theorem dX0_init_10 : decode cX0_init 10 = .ok (.aconst_null, 1) := by decide +kernel
theorem dX0_init_11 : decode cX0_init 11 = .ok (.putfield 15, 3) := by decide +kernel
theorem dX0_init_14 : decode cX0_init 14 = .ok (.aload_n 0, 1) := by decide +kernel
theorem dX0_init_15 : decode cX0_init 15 = .ok (.iconst 0, 1) := by decide +kernel
theorem dX0_init_16 : decode cX0_init 16 = .ok (.putfield 19, 3) := by decide +kernel
theorem dX0_init_19 : decode cX0_init 19 = .ok (.aload_n 0, 1) := by decide +kernel
theorem dX0_init_20 : decode cX0_init 20 = .ok (.iconst (-1), 1) := by decide +kernel
theorem dX0_init_21 : decode cX0_init 21 = .ok (.putfield 22, 3) := by decide +kernel
theorem dX0_init_24 : decode cX0_init 24 = .ok (.aload_n 0, 1) := by decide +kernel
theorem dX0_init_25 : decode cX0_init 25 = .ok (.iload_n 1, 1) := by decide +kernel
theorem dX0_init_26 : decode cX0_init 26 = .ok (.putfield 25, 3) := by decide +kernel
theorem dX0_init_29 : decode cX0_init 29 = .ok (.aload_n 0, 1) := by decide +kernel
theorem dX0_init_30 : decode cX0_init 30 = .ok (.aload_n 2, 1) := by decide +kernel
theorem dX0_init_31 : decode cX0_init 31 = .ok (.putfield 28, 3) := by decide +kernel
theorem dX0_init_34 : decode cX0_init 34 = .ok (.aload_n 0, 1) := by decide +kernel
theorem dX0_init_35 : decode cX0_init 35 = .ok (.aload_n 3, 1) := by decide +kernel
theorem dX0_init_36 : decode cX0_init 36 = .ok (.putfield 32, 3) := by decide +kernel
theorem dX0_init_39 : decode cX0_init 39 = .ok (.aload_n 0, 1) := by decide +kernel
theorem dX0_init_40 : decode cX0_init 40 = .ok (.iload 4, 2) := by decide +kernel
theorem dX0_init_42 : decode cX0_init 42 = .ok (.putfield 36, 3) := by decide +kernel
theorem dX0_init_45 : decode cX0_init 45 = .ok (.aload_n 0, 1) := by decide +kernel
theorem dX0_init_46 : decode cX0_init 46 = .ok (.iload 5, 2) := by decide +kernel
theorem dX0_init_48 : decode cX0_init 48 = .ok (.putfield 39, 3) := by decide +kernel
theorem dX0_init_51 : decode cX0_init 51 = .ok (.aload_n 0, 1) := by decide +kernel
theorem dX0_init_52 : decode cX0_init 52 = .ok (.iload 6, 2) := by decide +kernel
theorem dX0_init_54 : decode cX0_init 54 = .ok (.putfield 42, 3) := by decide +kernel
theorem dX0_init_57 : decode cX0_init 57 = .ok (.aload_n 0, 1) := by decide +kernel
theorem dX0_init_58 : decode cX0_init 58 = .ok (.iload 7, 2) := by decide +kernel
theorem dX0_init_60 : decode cX0_init 60 = .ok (.putfield 45, 3) := by decide +kernel
theorem dX0_init_63 : decode cX0_init 63 = .ok (.return_, 1) := by decide +kernel
theorem dX0_isBookedOn_0 : decode cX0_isBookedOn 0 = .ok (.aload_n 0, 1) := by decide +kernel
theorem dX0_isBookedOn_1 : decode cX0_isBookedOn 1 = .ok (.getfield 15, 3) := by decide +kernel
theorem dX0_isBookedOn_4 : decode cX0_isBookedOn 4 = .ok (.aload_n 1, 1) := by decide +kernel
theorem dX0_isBookedOn_5 : decode cX0_isBookedOn 5 = .ok (.if_acmp .ne 15, 3) := by decide +kernel
theorem dX0_isBookedOn_8 : decode cX0_isBookedOn 8 = .ok (.aload_n 0, 1) := by decide +kernel
theorem dX0_isBookedOn_9 : decode cX0_isBookedOn 9 = .ok (.getfield 9, 3) := by decide +kernel
theorem dX0_isBookedOn_12 : decode cX0_isBookedOn 12 = .ok (.iconst 1, 1) := by decide +kernel
theorem dX0_isBookedOn_13 : decode cX0_isBookedOn 13 = .ok (.if_icmp .ne 7, 3) := by decide +kernel
theorem dX0_isBookedOn_16 : decode cX0_isBookedOn 16 = .ok (.iconst 1, 1) := by decide +kernel
theorem dX0_isBookedOn_17 : decode cX0_isBookedOn 17 = .ok (.goto 4, 3) := by decide +kernel
theorem dX0_isBookedOn_20 : decode cX0_isBookedOn 20 = .ok (.iconst 0, 1) := by decide +kernel
theorem dX0_isBookedOn_21 : decode cX0_isBookedOn 21 = .ok (.ireturn, 1) := by decide +kernel
theorem dX0_holds_0 : decode cX0_holds 0 = .ok (.aload_n 0, 1) := by decide +kernel
theorem dX0_holds_1 : decode cX0_holds 1 = .ok (.getfield 15, 3) := by decide +kernel
theorem dX0_holds_4 : decode cX0_holds 4 = .ok (.aload_n 1, 1) := by decide +kernel
theorem dX0_holds_5 : decode cX0_holds 5 = .ok (.if_acmp .ne 31, 3) := by decide +kernel
theorem dX0_holds_8 : decode cX0_holds 8 = .ok (.aload_n 0, 1) := by decide +kernel
theorem dX0_holds_9 : decode cX0_holds 9 = .ok (.getfield 9, 3) := by decide +kernel
theorem dX0_holds_12 : decode cX0_holds 12 = .ok (.iconst 1, 1) := by decide +kernel
theorem dX0_holds_13 : decode cX0_holds 13 = .ok (.if_icmp .eq 19, 3) := by decide +kernel
theorem dX0_holds_16 : decode cX0_holds 16 = .ok (.aload_n 0, 1) := by decide +kernel
theorem dX0_holds_17 : decode cX0_holds 17 = .ok (.getfield 9, 3) := by decide +kernel
theorem dX0_holds_20 : decode cX0_holds 20 = .ok (.iconst 3, 1) := by decide +kernel
theorem dX0_holds_21 : decode cX0_holds 21 = .ok (.if_icmp .eq 11, 3) := by decide +kernel
theorem dX0_holds_24 : decode cX0_holds 24 = .ok (.aload_n 0, 1) := by decide +kernel
theorem dX0_holds_25 : decode cX0_holds 25 = .ok (.getfield 9, 3) := by decide +kernel
theorem dX0_holds_28 : decode cX0_holds 28 = .ok (.iconst 4, 1) := by decide +kernel
theorem dX0_holds_29 : decode cX0_holds 29 = .ok (.if_icmp .ne 7, 3) := by decide +kernel
theorem dX0_holds_32 : decode cX0_holds 32 = .ok (.iconst 1, 1) := by decide +kernel
theorem dX0_holds_33 : decode cX0_holds 33 = .ok (.goto 4, 3) := by decide +kernel
theorem dX0_holds_36 : decode cX0_holds 36 = .ok (.iconst 0, 1) := by decide +kernel
theorem dX0_holds_37 : decode cX0_holds 37 = .ok (.ireturn, 1) := by decide +kernel
theorem dX0_lastDay_0 : decode cX0_lastDay 0 = .ok (.aload_n 0, 1) := by decide +kernel
theorem dX0_lastDay_1 : decode cX0_lastDay 1 = .ok (.getfield 9, 3) := by decide +kernel
theorem dX0_lastDay_4 : decode cX0_lastDay 4 = .ok (.iconst 4, 1) := by decide +kernel
theorem dX0_lastDay_5 : decode cX0_lastDay 5 = .ok (.if_icmp .ne 8, 3) := by decide +kernel
theorem dX0_lastDay_8 : decode cX0_lastDay 8 = .ok (.aload_n 0, 1) := by decide +kernel
theorem dX0_lastDay_9 : decode cX0_lastDay 9 = .ok (.getfield 22, 3) := by decide +kernel
theorem dX0_lastDay_12 : decode cX0_lastDay 12 = .ok (.ireturn, 1) := by decide +kernel
theorem dX0_lastDay_13 : decode cX0_lastDay 13 = .ok (.aload_n 0, 1) := by decide +kernel
theorem dX0_lastDay_14 : decode cX0_lastDay 14 = .ok (.getfield 9, 3) := by decide +kernel
theorem dX0_lastDay_17 : decode cX0_lastDay 17 = .ok (.iconst 3, 1) := by decide +kernel
theorem dX0_lastDay_18 : decode cX0_lastDay 18 = .ok (.if_icmp .ne 14, 3) := by decide +kernel
theorem dX0_lastDay_21 : decode cX0_lastDay 21 = .ok (.iload_n 1, 1) := by decide +kernel
theorem dX0_lastDay_22 : decode cX0_lastDay 22 = .ok (.aload_n 0, 1) := by decide +kernel
theorem dX0_lastDay_23 : decode cX0_lastDay 23 = .ok (.getfield 42, 3) := by decide +kernel
theorem dX0_lastDay_26 : decode cX0_lastDay 26 = .ok (.invokestatic 48, 3) := by decide +kernel
theorem dX0_lastDay_29 : decode cX0_lastDay 29 = .ok (.goto 7, 3) := by decide +kernel
theorem dX0_lastDay_32 : decode cX0_lastDay 32 = .ok (.aload_n 0, 1) := by decide +kernel
theorem dX0_lastDay_33 : decode cX0_lastDay 33 = .ok (.getfield 42, 3) := by decide +kernel
theorem dX0_lastDay_36 : decode cX0_lastDay 36 = .ok (.ireturn, 1) := by decide +kernel
theorem dX0_movesAheadOf_0 : decode cX0_movesAheadOf 0 = .ok (.aload_n 0, 1) := by decide +kernel
theorem dX0_movesAheadOf_1 : decode cX0_movesAheadOf 1 = .ok (.getfield 45, 3) := by decide +kernel
theorem dX0_movesAheadOf_4 : decode cX0_movesAheadOf 4 = .ok (.aload_n 1, 1) := by decide +kernel
theorem dX0_movesAheadOf_5 : decode cX0_movesAheadOf 5 = .ok (.getfield 45, 3) := by decide +kernel
theorem dX0_movesAheadOf_8 : decode cX0_movesAheadOf 8 = .ok (.if_icmp .eq 20, 3) := by decide +kernel
theorem dX0_movesAheadOf_11 : decode cX0_movesAheadOf 11 = .ok (.aload_n 0, 1) := by decide +kernel
theorem dX0_movesAheadOf_12 : decode cX0_movesAheadOf 12 = .ok (.getfield 45, 3) := by decide +kernel
theorem dX0_movesAheadOf_15 : decode cX0_movesAheadOf 15 = .ok (.aload_n 1, 1) := by decide +kernel
theorem dX0_movesAheadOf_16 : decode cX0_movesAheadOf 16 = .ok (.getfield 45, 3) := by decide +kernel
theorem dX0_movesAheadOf_19 : decode cX0_movesAheadOf 19 = .ok (.if_icmp .le 7, 3) := by decide +kernel
theorem dX0_movesAheadOf_22 : decode cX0_movesAheadOf 22 = .ok (.iconst 1, 1) := by decide +kernel
theorem dX0_movesAheadOf_23 : decode cX0_movesAheadOf 23 = .ok (.goto 4, 3) := by decide +kernel
theorem dX0_movesAheadOf_26 : decode cX0_movesAheadOf 26 = .ok (.iconst 0, 1) := by decide +kernel
theorem dX0_movesAheadOf_27 : decode cX0_movesAheadOf 27 = .ok (.ireturn, 1) := by decide +kernel
theorem dX0_movesAheadOf_28 : decode cX0_movesAheadOf 28 = .ok (.aload_n 0, 1) := by decide +kernel
theorem dX0_movesAheadOf_29 : decode cX0_movesAheadOf 29 = .ok (.getfield 39, 3) := by decide +kernel
theorem dX0_movesAheadOf_32 : decode cX0_movesAheadOf 32 = .ok (.aload_n 1, 1) := by decide +kernel
theorem dX0_movesAheadOf_33 : decode cX0_movesAheadOf 33 = .ok (.getfield 39, 3) := by decide +kernel
theorem dX0_movesAheadOf_36 : decode cX0_movesAheadOf 36 = .ok (.if_icmp .eq 22, 3) := by decide +kernel
theorem dX0_movesAheadOf_39 : decode cX0_movesAheadOf 39 = .ok (.aload_n 0, 1) := by decide +kernel
theorem dX0_movesAheadOf_40 : decode cX0_movesAheadOf 40 = .ok (.getfield 39, 3) := by decide +kernel
theorem dX0_movesAheadOf_43 : decode cX0_movesAheadOf 43 = .ok (.aload_n 1, 1) := by decide +kernel
theorem dX0_movesAheadOf_44 : decode cX0_movesAheadOf 44 = .ok (.getfield 39, 3) := by decide +kernel
theorem dX0_movesAheadOf_47 : decode cX0_movesAheadOf 47 = .ok (.if_icmp .ge 7, 3) := by decide +kernel
theorem dX0_movesAheadOf_50 : decode cX0_movesAheadOf 50 = .ok (.iconst 1, 1) := by decide +kernel
theorem dX0_movesAheadOf_51 : decode cX0_movesAheadOf 51 = .ok (.goto 23, 3) := by decide +kernel
theorem dX0_movesAheadOf_54 : decode cX0_movesAheadOf 54 = .ok (.iconst 0, 1) := by decide +kernel
theorem dX0_movesAheadOf_55 : decode cX0_movesAheadOf 55 = .ok (.goto 19, 3) := by decide +kernel
theorem dX0_movesAheadOf_58 : decode cX0_movesAheadOf 58 = .ok (.aload_n 0, 1) := by decide +kernel
theorem dX0_movesAheadOf_59 : decode cX0_movesAheadOf 59 = .ok (.getfield 25, 3) := by decide +kernel
theorem dX0_movesAheadOf_62 : decode cX0_movesAheadOf 62 = .ok (.aload_n 1, 1) := by decide +kernel
theorem dX0_movesAheadOf_63 : decode cX0_movesAheadOf 63 = .ok (.getfield 25, 3) := by decide +kernel
theorem dX0_movesAheadOf_66 : decode cX0_movesAheadOf 66 = .ok (.if_icmp .ge 7, 3) := by decide +kernel
theorem dX0_movesAheadOf_69 : decode cX0_movesAheadOf 69 = .ok (.iconst 1, 1) := by decide +kernel
theorem dX0_movesAheadOf_70 : decode cX0_movesAheadOf 70 = .ok (.goto 4, 3) := by decide +kernel
theorem dX0_movesAheadOf_73 : decode cX0_movesAheadOf 73 = .ok (.iconst 0, 1) := by decide +kernel
theorem dX0_movesAheadOf_74 : decode cX0_movesAheadOf 74 = .ok (.ireturn, 1) := by decide +kernel
theorem dX1_init_0 : decode cX1_init 0 = .ok (.aload_n 0, 1) := by decide +kernel
theorem dX1_init_1 : decode cX1_init 1 = .ok (.invokespecial 1, 3) := by decide +kernel
theorem dX1_init_4 : decode cX1_init 4 = .ok (.aload_n 0, 1) := by decide +kernel
theorem dX1_init_5 : decode cX1_init 5 = .ok (.iload_n 1, 1) := by decide +kernel
theorem dX1_init_6 : decode cX1_init 6 = .ok (.putfield 7, 3) := by decide +kernel
theorem dX1_init_9 : decode cX1_init 9 = .ok (.aload_n 0, 1) := by decide +kernel
theorem dX1_init_10 : decode cX1_init 10 = .ok (.iload_n 2, 1) := by decide +kernel
theorem dX1_init_11 : decode cX1_init 11 = .ok (.putfield 13, 3) := by decide +kernel
theorem dX1_init_14 : decode cX1_init 14 = .ok (.aload_n 0, 1) := by decide +kernel
theorem dX1_init_15 : decode cX1_init 15 = .ok (.iload_n 3, 1) := by decide +kernel
theorem dX1_init_16 : decode cX1_init 16 = .ok (.putfield 16, 3) := by decide +kernel
theorem dX1_init_19 : decode cX1_init 19 = .ok (.aload_n 0, 1) := by decide +kernel
theorem dX1_init_20 : decode cX1_init 20 = .ok (.iload 4, 2) := by decide +kernel
theorem dX1_init_22 : decode cX1_init 22 = .ok (.putfield 19, 3) := by decide +kernel
theorem dX1_init_25 : decode cX1_init 25 = .ok (.return_, 1) := by decide +kernel
theorem dX1_fits_0 : decode cX1_fits 0 = .ok (.aload_n 1, 1) := by decide +kernel
theorem dX1_fits_1 : decode cX1_fits 1 = .ok (.getfield 22, 3) := by decide +kernel
theorem dX1_fits_4 : decode cX1_fits 4 = .ok (.aload_n 0, 1) := by decide +kernel
theorem dX1_fits_5 : decode cX1_fits 5 = .ok (.if_acmp .eq 26, 3) := by decide +kernel
theorem dX1_fits_8 : decode cX1_fits 8 = .ok (.aload_n 1, 1) := by decide +kernel
theorem dX1_fits_9 : decode cX1_fits 9 = .ok (.getfield 28, 3) := by decide +kernel
theorem dX1_fits_12 : decode cX1_fits 12 = .ok (.ifCond .eq 23, 3) := by decide +kernel
theorem dX1_fits_15 : decode cX1_fits 15 = .ok (.aload_n 0, 1) := by decide +kernel
theorem dX1_fits_16 : decode cX1_fits 16 = .ok (.getfield 16, 3) := by decide +kernel
theorem dX1_fits_19 : decode cX1_fits 19 = .ok (.aload_n 1, 1) := by decide +kernel
theorem dX1_fits_20 : decode cX1_fits 20 = .ok (.getfield 28, 3) := by decide +kernel
theorem dX1_fits_23 : decode cX1_fits 23 = .ok (.iand, 1) := by decide +kernel
theorem dX1_fits_24 : decode cX1_fits 24 = .ok (.aload_n 1, 1) := by decide +kernel
theorem dX1_fits_25 : decode cX1_fits 25 = .ok (.getfield 28, 3) := by decide +kernel
theorem dX1_fits_28 : decode cX1_fits 28 = .ok (.if_icmp .ne 7, 3) := by decide +kernel
theorem dX1_fits_31 : decode cX1_fits 31 = .ok (.iconst 1, 1) := by decide +kernel
theorem dX1_fits_32 : decode cX1_fits 32 = .ok (.goto 4, 3) := by decide +kernel
theorem dX1_fits_35 : decode cX1_fits 35 = .ok (.iconst 0, 1) := by decide +kernel
theorem dX1_fits_36 : decode cX1_fits 36 = .ok (.ireturn, 1) := by decide +kernel
theorem dX2_init_0 : decode cX2_init 0 = .ok (.aload_n 0, 1) := by decide +kernel
theorem dX2_init_1 : decode cX2_init 1 = .ok (.invokespecial 3, 3) := by decide +kernel
theorem dX2_init_4 : decode cX2_init 4 = .ok (.aload_n 0, 1) := by decide +kernel
theorem dX2_init_5 : decode cX2_init 5 = .ok (.iconst 0, 1) := by decide +kernel
theorem dX2_init_6 : decode cX2_init 6 = .ok (.putfield 9, 3) := by decide +kernel
theorem dX2_init_9 : decode cX2_init 9 = .ok (.aload_n 0, 1) := by decide +kernel
theorem dX2_init_10 : decode cX2_init 10 = .ok (.iconst (-1), 1) := by decide +kernel
theorem dX2_init_11 : decode cX2_init 11 = .ok (.putfield 15, 3) := by decide +kernel
theorem dX2_init_14 : decode cX2_init 14 = .ok (.aload_n 0, 1) := by decide +kernel
theorem dX2_init_15 : decode cX2_init 15 = .ok (.bipush 8, 2) := by decide +kernel
theorem dX2_init_17 : decode cX2_init 17 = .ok (.newarray .int, 2) := by decide +kernel
theorem dX2_init_19 : decode cX2_init 19 = .ok (.putfield 18, 3) := by decide +kernel
theorem dX2_init_22 : decode cX2_init 22 = .ok (.aload_n 0, 1) := by decide +kernel
theorem dX2_init_23 : decode cX2_init 23 = .ok (.getfield 18, 3) := by decide +kernel
theorem dX2_init_26 : decode cX2_init 26 = .ok (.iconst (-1), 1) := by decide +kernel
theorem dX2_init_27 : decode cX2_init 27 = .ok (.invokestatic 22, 3) := by decide +kernel
theorem dX2_init_30 : decode cX2_init 30 = .ok (.return_, 1) := by decide +kernel
theorem dX2_tell_0 : decode cX2_tell 0 = .ok (.iconst 0, 1) := by decide +kernel
theorem dX2_tell_1 : decode cX2_tell 1 = .ok (.istore_n 2, 1) := by decide +kernel
theorem dX2_tell_2 : decode cX2_tell 2 = .ok (.iload_n 2, 1) := by decide +kernel
theorem dX2_tell_3 : decode cX2_tell 3 = .ok (.bipush 8, 2) := by decide +kernel
theorem dX2_tell_5 : decode cX2_tell 5 = .ok (.if_icmp .ge 24, 3) := by decide +kernel
theorem dX2_tell_8 : decode cX2_tell 8 = .ok (.iload_n 2, 1) := by decide +kernel
theorem dX2_tell_9 : decode cX2_tell 9 = .ok (.aload_n 1, 1) := by decide +kernel
theorem dX2_tell_10 : decode cX2_tell 10 = .ok (.arraylength, 1) := by decide +kernel
theorem dX2_tell_11 : decode cX2_tell 11 = .ok (.if_icmp .ge 18, 3) := by decide +kernel
theorem dX2_tell_14 : decode cX2_tell 14 = .ok (.aload_n 0, 1) := by decide +kernel
theorem dX2_tell_15 : decode cX2_tell 15 = .ok (.getfield 18, 3) := by decide +kernel
theorem dX2_tell_18 : decode cX2_tell 18 = .ok (.iload_n 2, 1) := by decide +kernel
theorem dX2_tell_19 : decode cX2_tell 19 = .ok (.aload_n 1, 1) := by decide +kernel
theorem dX2_tell_20 : decode cX2_tell 20 = .ok (.iload_n 2, 1) := by decide +kernel
theorem dX2_tell_21 : decode cX2_tell 21 = .ok (.iaload, 1) := by decide +kernel
theorem dX2_tell_22 : decode cX2_tell 22 = .ok (.iastore, 1) := by decide +kernel
theorem dX2_tell_23 : decode cX2_tell 23 = .ok (.iinc 2 1, 3) := by decide +kernel
theorem dX2_tell_26 : decode cX2_tell 26 = .ok (.goto (-24), 3) := by decide +kernel
theorem dX2_tell_29 : decode cX2_tell 29 = .ok (.aload_n 0, 1) := by decide +kernel
theorem dX2_tell_30 : decode cX2_tell 30 = .ok (.dup, 1) := by decide +kernel
theorem dX2_tell_31 : decode cX2_tell 31 = .ok (.getfield 9, 3) := by decide +kernel
theorem dX2_tell_34 : decode cX2_tell 34 = .ok (.iconst 1, 1) := by decide +kernel
theorem dX2_tell_35 : decode cX2_tell 35 = .ok (.iadd, 1) := by decide +kernel
theorem dX2_tell_36 : decode cX2_tell 36 = .ok (.putfield 9, 3) := by decide +kernel
theorem dX2_tell_39 : decode cX2_tell 39 = .ok (.return_, 1) := by decide +kernel
theorem dX2_daysWanted_0 : decode cX2_daysWanted 0 = .ok (.iload_n 1, 1) := by decide +kernel
theorem dX2_daysWanted_1 : decode cX2_daysWanted 1 = .ok (.ifCond .lt 18, 3) := by decide +kernel
theorem dX2_daysWanted_4 : decode cX2_daysWanted 4 = .ok (.iload_n 1, 1) := by decide +kernel
theorem dX2_daysWanted_5 : decode cX2_daysWanted 5 = .ok (.bipush 8, 2) := by decide +kernel
theorem dX2_daysWanted_7 : decode cX2_daysWanted 7 = .ok (.if_icmp .ge 12, 3) := by decide +kernel
theorem dX2_daysWanted_10 : decode cX2_daysWanted 10 = .ok (.aload_n 0, 1) := by decide +kernel
theorem dX2_daysWanted_11 : decode cX2_daysWanted 11 = .ok (.getfield 18, 3) := by decide +kernel
theorem dX2_daysWanted_14 : decode cX2_daysWanted 14 = .ok (.iload_n 1, 1) := by decide +kernel
theorem dX2_daysWanted_15 : decode cX2_daysWanted 15 = .ok (.iaload, 1) := by decide +kernel
theorem dX2_daysWanted_16 : decode cX2_daysWanted 16 = .ok (.goto 4, 3) := by decide +kernel
theorem dX2_daysWanted_19 : decode cX2_daysWanted 19 = .ok (.iconst (-1), 1) := by decide +kernel
theorem dX2_daysWanted_20 : decode cX2_daysWanted 20 = .ok (.ireturn, 1) := by decide +kernel
theorem dX2_lets_0 : decode cX2_lets 0 = .ok (.aload_n 0, 1) := by decide +kernel
theorem dX2_lets_1 : decode cX2_lets 1 = .ok (.aload_n 1, 1) := by decide +kernel
theorem dX2_lets_2 : decode cX2_lets 2 = .ok (.getfield 28, 3) := by decide +kernel
theorem dX2_lets_5 : decode cX2_lets 5 = .ok (.getfield 34, 3) := by decide +kernel
theorem dX2_lets_8 : decode cX2_lets 8 = .ok (.invokevirtual 39, 3) := by decide +kernel
theorem dX2_lets_11 : decode cX2_lets 11 = .ok (.istore_n 3, 1) := by decide +kernel
theorem dX2_lets_12 : decode cX2_lets 12 = .ok (.iload_n 3, 1) := by decide +kernel
theorem dX2_lets_13 : decode cX2_lets 13 = .ok (.iconst (-1), 1) := by decide +kernel
theorem dX2_lets_14 : decode cX2_lets 14 = .ok (.if_icmp .ne 5, 3) := by decide +kernel
theorem dX2_lets_17 : decode cX2_lets 17 = .ok (.iconst 1, 1) := by decide +kernel
theorem dX2_lets_18 : decode cX2_lets 18 = .ok (.ireturn, 1) := by decide +kernel
theorem dX2_lets_19 : decode cX2_lets 19 = .ok (.aload_n 1, 1) := by decide +kernel
theorem dX2_lets_20 : decode cX2_lets 20 = .ok (.getfield 43, 3) := by decide +kernel
theorem dX2_lets_23 : decode cX2_lets 23 = .ok (.iconst (-1), 1) := by decide +kernel
theorem dX2_lets_24 : decode cX2_lets 24 = .ok (.if_icmp .eq 17, 3) := by decide +kernel
theorem dX2_lets_27 : decode cX2_lets 27 = .ok (.iload_n 2, 1) := by decide +kernel
theorem dX2_lets_28 : decode cX2_lets 28 = .ok (.aload_n 1, 1) := by decide +kernel
theorem dX2_lets_29 : decode cX2_lets 29 = .ok (.getfield 43, 3) := by decide +kernel
theorem dX2_lets_32 : decode cX2_lets 32 = .ok (.isub, 1) := by decide +kernel
theorem dX2_lets_33 : decode cX2_lets 33 = .ok (.iload_n 3, 1) := by decide +kernel
theorem dX2_lets_34 : decode cX2_lets 34 = .ok (.if_icmp .gt 7, 3) := by decide +kernel
theorem dX2_lets_37 : decode cX2_lets 37 = .ok (.iconst 1, 1) := by decide +kernel
theorem dX2_lets_38 : decode cX2_lets 38 = .ok (.goto 4, 3) := by decide +kernel
theorem dX2_lets_41 : decode cX2_lets 41 = .ok (.iconst 0, 1) := by decide +kernel
theorem dX2_lets_42 : decode cX2_lets 42 = .ok (.ireturn, 1) := by decide +kernel
theorem dX3_init_0 : decode cX3_init 0 = .ok (.aload_n 0, 1) := by decide +kernel
theorem dX3_init_1 : decode cX3_init 1 = .ok (.invokespecial 3, 3) := by decide +kernel
theorem dX3_init_4 : decode cX3_init 4 = .ok (.aload_n 0, 1) := by decide +kernel
theorem dX3_init_5 : decode cX3_init 5 = .ok (.bipush 8, 2) := by decide +kernel
theorem dX3_init_7 : decode cX3_init 7 = .ok (.newarray .int, 2) := by decide +kernel
theorem dX3_init_9 : decode cX3_init 9 = .ok (.putfield 9, 3) := by decide +kernel
theorem dX3_init_12 : decode cX3_init 12 = .ok (.aload_n 0, 1) := by decide +kernel
theorem dX3_init_13 : decode cX3_init 13 = .ok (.iconst 0, 1) := by decide +kernel
theorem dX3_init_14 : decode cX3_init 14 = .ok (.putfield 15, 3) := by decide +kernel
theorem dX3_init_17 : decode cX3_init 17 = .ok (.aload_n 0, 1) := by decide +kernel
theorem dX3_init_18 : decode cX3_init 18 = .ok (.iconst (-1), 1) := by decide +kernel
theorem dX3_init_19 : decode cX3_init 19 = .ok (.putfield 19, 3) := by decide +kernel
theorem dX3_init_22 : decode cX3_init 22 = .ok (.aload_n 0, 1) := by decide +kernel
theorem dX3_init_23 : decode cX3_init 23 = .ok (.iconst 0, 1) := by decide +kernel
theorem dX3_init_24 : decode cX3_init 24 = .ok (.putfield 22, 3) := by decide +kernel
theorem dX3_init_27 : decode cX3_init 27 = .ok (.aload_n 0, 1) := by decide +kernel
theorem dX3_init_28 : decode cX3_init 28 = .ok (.iconst 0, 1) := by decide +kernel
theorem dX3_init_29 : decode cX3_init 29 = .ok (.putfield 25, 3) := by decide +kernel
theorem dX3_init_32 : decode cX3_init 32 = .ok (.return_, 1) := by decide +kernel
theorem dX3_read_0 : decode cX3_read 0 = .ok (.aload_n 0, 1) := by decide +kernel
theorem dX3_read_1 : decode cX3_read 1 = .ok (.getfield 9, 3) := by decide +kernel
theorem dX3_read_4 : decode cX3_read 4 = .ok (.iconst (-1), 1) := by decide +kernel
theorem dX3_read_5 : decode cX3_read 5 = .ok (.invokestatic 28, 3) := by decide +kernel
theorem dX3_read_8 : decode cX3_read 8 = .ok (.aload_n 0, 1) := by decide +kernel
theorem dX3_read_9 : decode cX3_read 9 = .ok (.iconst 0, 1) := by decide +kernel
theorem dX3_read_10 : decode cX3_read 10 = .ok (.putfield 15, 3) := by decide +kernel
theorem dX3_read_13 : decode cX3_read 13 = .ok (.aload_n 0, 1) := by decide +kernel
theorem dX3_read_14 : decode cX3_read 14 = .ok (.iconst (-1), 1) := by decide +kernel
theorem dX3_read_15 : decode cX3_read 15 = .ok (.putfield 19, 3) := by decide +kernel
theorem dX3_read_18 : decode cX3_read 18 = .ok (.aload_n 0, 1) := by decide +kernel
theorem dX3_read_19 : decode cX3_read 19 = .ok (.iconst 0, 1) := by decide +kernel
theorem dX3_read_20 : decode cX3_read 20 = .ok (.putfield 22, 3) := by decide +kernel
theorem dX3_read_23 : decode cX3_read 23 = .ok (.iconst 0, 1) := by decide +kernel
theorem dX3_read_24 : decode cX3_read 24 = .ok (.istore_n 3, 1) := by decide +kernel
theorem dX3_read_25 : decode cX3_read 25 = .ok (.iload_n 3, 1) := by decide +kernel
theorem dX3_read_26 : decode cX3_read 26 = .ok (.aload_n 1, 1) := by decide +kernel
theorem dX3_read_27 : decode cX3_read 27 = .ok (.getfield 34, 3) := by decide +kernel
theorem dX3_read_30 : decode cX3_read 30 = .ok (.if_icmp .ge 48, 3) := by decide +kernel
theorem dX3_read_33 : decode cX3_read 33 = .ok (.aload_n 0, 1) := by decide +kernel
theorem dX3_read_34 : decode cX3_read 34 = .ok (.getfield 15, 3) := by decide +kernel
theorem dX3_read_37 : decode cX3_read 37 = .ok (.ifCond .ne 41, 3) := by decide +kernel
theorem dX3_read_40 : decode cX3_read 40 = .ok (.aload_n 1, 1) := by decide +kernel
theorem dX3_read_41 : decode cX3_read 41 = .ok (.iload_n 3, 1) := by decide +kernel
theorem dX3_read_42 : decode cX3_read 42 = .ok (.invokevirtual 39, 3) := by decide +kernel
theorem dX3_read_45 : decode cX3_read 45 = .ok (.invokestatic 43, 3) := by decide +kernel
theorem dX3_read_48 : decode cX3_read 48 = .ok (.ifCond .ne 24, 3) := by decide +kernel
theorem dX3_read_51 : decode cX3_read 51 = .ok (.aload_n 1, 1) := by decide +kernel
theorem dX3_read_52 : decode cX3_read 52 = .ok (.iload_n 3, 1) := by decide +kernel
theorem dX3_read_53 : decode cX3_read 53 = .ok (.invokestatic 47, 3) := by decide +kernel
theorem dX3_read_56 : decode cX3_read 56 = .ok (.istore 4, 2) := by decide +kernel
theorem dX3_read_58 : decode cX3_read 58 = .ok (.aload_n 0, 1) := by decide +kernel
theorem dX3_read_59 : decode cX3_read 59 = .ok (.aload_n 1, 1) := by decide +kernel
theorem dX3_read_60 : decode cX3_read 60 = .ok (.iload_n 3, 1) := by decide +kernel
theorem dX3_read_61 : decode cX3_read 61 = .ok (.iload 4, 2) := by decide +kernel
theorem dX3_read_63 : decode cX3_read 63 = .ok (.iload_n 2, 1) := by decide +kernel
theorem dX3_read_64 : decode cX3_read 64 = .ok (.invokevirtual 51, 3) := by decide +kernel
theorem dX3_read_67 : decode cX3_read 67 = .ok (.iload 4, 2) := by decide +kernel
theorem dX3_read_69 : decode cX3_read 69 = .ok (.iconst 1, 1) := by decide +kernel
theorem dX3_read_70 : decode cX3_read 70 = .ok (.isub, 1) := by decide +kernel
theorem dX3_read_71 : decode cX3_read 71 = .ok (.istore_n 3, 1) := by decide +kernel
theorem dX3_read_72 : decode cX3_read 72 = .ok (.iinc 3 1, 3) := by decide +kernel
theorem dX3_read_75 : decode cX3_read 75 = .ok (.goto (-50), 3) := by decide +kernel
theorem dX3_read_78 : decode cX3_read 78 = .ok (.aload_n 0, 1) := by decide +kernel
theorem dX3_read_79 : decode cX3_read 79 = .ok (.getfield 15, 3) := by decide +kernel
theorem dX3_read_82 : decode cX3_read 82 = .ok (.ifCond .ne 19, 3) := by decide +kernel
theorem dX3_read_85 : decode cX3_read 85 = .ok (.aload_n 0, 1) := by decide +kernel
theorem dX3_read_86 : decode cX3_read 86 = .ok (.getfield 22, 3) := by decide +kernel
theorem dX3_read_89 : decode cX3_read 89 = .ok (.ifCond .eq 12, 3) := by decide +kernel
theorem dX3_read_92 : decode cX3_read 92 = .ok (.aload_n 0, 1) := by decide +kernel
theorem dX3_read_93 : decode cX3_read 93 = .ok (.iconst 1, 1) := by decide +kernel
theorem dX3_read_94 : decode cX3_read 94 = .ok (.aload_n 1, 1) := by decide +kernel
theorem dX3_read_95 : decode cX3_read 95 = .ok (.getfield 34, 3) := by decide +kernel
theorem dX3_read_98 : decode cX3_read 98 = .ok (.invokevirtual 55, 3) := by decide +kernel
theorem dX3_read_101 : decode cX3_read 101 = .ok (.return_, 1) := by decide +kernel
theorem dX3_take_0 : decode cX3_take 0 = .ok (.aload_n 1, 1) := by decide +kernel
theorem dX3_take_1 : decode cX3_take 1 = .ok (.iload_n 2, 1) := by decide +kernel
theorem dX3_take_2 : decode cX3_take 2 = .ok (.iload_n 3, 1) := by decide +kernel
theorem dX3_take_3 : decode cX3_take 3 = .ok (.invokestatic 59, 3) := by decide +kernel
theorem dX3_take_6 : decode cX3_take 6 = .ok (.istore 5, 2) := by decide +kernel
theorem dX3_take_8 : decode cX3_take 8 = .ok (.aload_n 0, 1) := by decide +kernel
theorem dX3_take_9 : decode cX3_take 9 = .ok (.getfield 22, 3) := by decide +kernel
theorem dX3_take_12 : decode cX3_take 12 = .ok (.ifCond .ne 20, 3) := by decide +kernel
theorem dX3_take_15 : decode cX3_take 15 = .ok (.aload_n 1, 1) := by decide +kernel
theorem dX3_take_16 : decode cX3_take 16 = .ok (.iload_n 2, 1) := by decide +kernel
theorem dX3_take_17 : decode cX3_take 17 = .ok (.iload_n 3, 1) := by decide +kernel
theorem dX3_take_18 : decode cX3_take 18 = .ok (.invokestatic 63, 3) := by decide +kernel
theorem dX3_take_21 : decode cX3_take 21 = .ok (.ifCond .eq 11, 3) := by decide +kernel
theorem dX3_take_24 : decode cX3_take 24 = .ok (.aload_n 0, 1) := by decide +kernel
theorem dX3_take_25 : decode cX3_take 25 = .ok (.iconst 1, 1) := by decide +kernel
theorem dX3_take_26 : decode cX3_take 26 = .ok (.putfield 22, 3) := by decide +kernel
theorem dX3_take_29 : decode cX3_take 29 = .ok (.goto 84, 3) := by decide +kernel
theorem dX3_take_32 : decode cX3_take 32 = .ok (.aload_n 0, 1) := by decide +kernel
theorem dX3_take_33 : decode cX3_take 33 = .ok (.getfield 22, 3) := by decide +kernel
theorem dX3_take_36 : decode cX3_take 36 = .ok (.iconst 1, 1) := by decide +kernel
theorem dX3_take_37 : decode cX3_take 37 = .ok (.if_icmp .ne 21, 3) := by decide +kernel
theorem dX3_take_40 : decode cX3_take 40 = .ok (.iload 5, 2) := by decide +kernel
theorem dX3_take_42 : decode cX3_take 42 = .ok (.iconst (-1), 1) := by decide +kernel
theorem dX3_take_43 : decode cX3_take 43 = .ok (.if_icmp .eq 15, 3) := by decide +kernel
theorem dX3_take_46 : decode cX3_take 46 = .ok (.aload_n 0, 1) := by decide +kernel
theorem dX3_take_47 : decode cX3_take 47 = .ok (.iload 5, 2) := by decide +kernel
theorem dX3_take_49 : decode cX3_take 49 = .ok (.iload_n 2, 1) := by decide +kernel
theorem dX3_take_50 : decode cX3_take 50 = .ok (.iload 4, 2) := by decide +kernel
theorem dX3_take_52 : decode cX3_take 52 = .ok (.invokevirtual 67, 3) := by decide +kernel
theorem dX3_take_55 : decode cX3_take 55 = .ok (.goto 58, 3) := by decide +kernel
theorem dX3_take_58 : decode cX3_take 58 = .ok (.aload_n 0, 1) := by decide +kernel
theorem dX3_take_59 : decode cX3_take 59 = .ok (.getfield 22, 3) := by decide +kernel
theorem dX3_take_62 : decode cX3_take 62 = .ok (.iconst 2, 1) := by decide +kernel
theorem dX3_take_63 : decode cX3_take 63 = .ok (.if_icmp .ne 18, 3) := by decide +kernel
theorem dX3_take_66 : decode cX3_take 66 = .ok (.iload 5, 2) := by decide +kernel
theorem dX3_take_68 : decode cX3_take 68 = .ok (.iconst (-1), 1) := by decide +kernel
theorem dX3_take_69 : decode cX3_take 69 = .ok (.if_icmp .eq 12, 3) := by decide +kernel
theorem dX3_take_72 : decode cX3_take 72 = .ok (.aload_n 0, 1) := by decide +kernel
theorem dX3_take_73 : decode cX3_take 73 = .ok (.iload 5, 2) := by decide +kernel
theorem dX3_take_75 : decode cX3_take 75 = .ok (.invokevirtual 71, 3) := by decide +kernel
theorem dX3_take_78 : decode cX3_take 78 = .ok (.goto 35, 3) := by decide +kernel
theorem dX3_take_81 : decode cX3_take 81 = .ok (.aload_n 0, 1) := by decide +kernel
theorem dX3_take_82 : decode cX3_take 82 = .ok (.getfield 22, 3) := by decide +kernel
theorem dX3_take_85 : decode cX3_take 85 = .ok (.iconst 3, 1) := by decide +kernel
theorem dX3_take_86 : decode cX3_take 86 = .ok (.if_icmp .ne 21, 3) := by decide +kernel
theorem dX3_take_89 : decode cX3_take 89 = .ok (.aload_n 1, 1) := by decide +kernel
theorem dX3_take_90 : decode cX3_take 90 = .ok (.iload_n 2, 1) := by decide +kernel
theorem dX3_take_91 : decode cX3_take 91 = .ok (.invokevirtual 39, 3) := by decide +kernel
theorem dX3_take_94 : decode cX3_take 94 = .ok (.bipush 59, 2) := by decide +kernel
theorem dX3_take_96 : decode cX3_take 96 = .ok (.if_icmp .ne 11, 3) := by decide +kernel
theorem dX3_take_99 : decode cX3_take 99 = .ok (.aload_n 0, 1) := by decide +kernel
theorem dX3_take_100 : decode cX3_take 100 = .ok (.iconst 0, 1) := by decide +kernel
theorem dX3_take_101 : decode cX3_take 101 = .ok (.putfield 22, 3) := by decide +kernel
theorem dX3_take_104 : decode cX3_take 104 = .ok (.goto 9, 3) := by decide +kernel
theorem dX3_take_107 : decode cX3_take 107 = .ok (.aload_n 0, 1) := by decide +kernel
theorem dX3_take_108 : decode cX3_take 108 = .ok (.iconst 1, 1) := by decide +kernel
theorem dX3_take_109 : decode cX3_take 109 = .ok (.iload_n 2, 1) := by decide +kernel
theorem dX3_take_110 : decode cX3_take 110 = .ok (.invokevirtual 55, 3) := by decide +kernel
theorem dX3_take_113 : decode cX3_take 113 = .ok (.return_, 1) := by decide +kernel
theorem dX3_takeKind_0 : decode cX3_takeKind 0 = .ok (.iload_n 1, 1) := by decide +kernel
theorem dX3_takeKind_1 : decode cX3_takeKind 1 = .ok (.iload_n 3, 1) := by decide +kernel
theorem dX3_takeKind_2 : decode cX3_takeKind 2 = .ok (.if_icmp .lt 10, 3) := by decide +kernel
theorem dX3_takeKind_5 : decode cX3_takeKind 5 = .ok (.aload_n 0, 1) := by decide +kernel
theorem dX3_takeKind_6 : decode cX3_takeKind 6 = .ok (.iconst 2, 1) := by decide +kernel
theorem dX3_takeKind_7 : decode cX3_takeKind 7 = .ok (.iload_n 2, 1) := by decide +kernel
theorem dX3_takeKind_8 : decode cX3_takeKind 8 = .ok (.invokevirtual 55, 3) := by decide +kernel
theorem dX3_takeKind_11 : decode cX3_takeKind 11 = .ok (.return_, 1) := by decide +kernel
theorem dX3_takeKind_12 : decode cX3_takeKind 12 = .ok (.aload_n 0, 1) := by decide +kernel
theorem dX3_takeKind_13 : decode cX3_takeKind 13 = .ok (.iload_n 1, 1) := by decide +kernel
theorem dX3_takeKind_14 : decode cX3_takeKind 14 = .ok (.putfield 25, 3) := by decide +kernel
theorem dX3_takeKind_17 : decode cX3_takeKind 17 = .ok (.aload_n 0, 1) := by decide +kernel
theorem dX3_takeKind_18 : decode cX3_takeKind 18 = .ok (.iconst 2, 1) := by decide +kernel
theorem dX3_takeKind_19 : decode cX3_takeKind 19 = .ok (.putfield 22, 3) := by decide +kernel
theorem dX3_takeKind_22 : decode cX3_takeKind 22 = .ok (.return_, 1) := by decide +kernel
theorem dX3_takeDays_0 : decode cX3_takeDays 0 = .ok (.aload_n 0, 1) := by decide +kernel
theorem dX3_takeDays_1 : decode cX3_takeDays 1 = .ok (.getfield 25, 3) := by decide +kernel
theorem dX3_takeDays_4 : decode cX3_takeDays 4 = .ok (.ifCond .lt 22, 3) := by decide +kernel
theorem dX3_takeDays_7 : decode cX3_takeDays 7 = .ok (.aload_n 0, 1) := by decide +kernel
theorem dX3_takeDays_8 : decode cX3_takeDays 8 = .ok (.getfield 25, 3) := by decide +kernel
theorem dX3_takeDays_11 : decode cX3_takeDays 11 = .ok (.bipush 8, 2) := by decide +kernel
theorem dX3_takeDays_13 : decode cX3_takeDays 13 = .ok (.if_icmp .ge 13, 3) := by decide +kernel
theorem dX3_takeDays_16 : decode cX3_takeDays 16 = .ok (.aload_n 0, 1) := by decide +kernel
theorem dX3_takeDays_17 : decode cX3_takeDays 17 = .ok (.getfield 9, 3) := by decide +kernel
theorem dX3_takeDays_20 : decode cX3_takeDays 20 = .ok (.aload_n 0, 1) := by decide +kernel
theorem dX3_takeDays_21 : decode cX3_takeDays 21 = .ok (.getfield 25, 3) := by decide +kernel
theorem dX3_takeDays_24 : decode cX3_takeDays 24 = .ok (.iload_n 1, 1) := by decide +kernel
theorem dX3_takeDays_25 : decode cX3_takeDays 25 = .ok (.iastore, 1) := by decide +kernel
theorem dX3_takeDays_26 : decode cX3_takeDays 26 = .ok (.aload_n 0, 1) := by decide +kernel
theorem dX3_takeDays_27 : decode cX3_takeDays 27 = .ok (.iconst 3, 1) := by decide +kernel
theorem dX3_takeDays_28 : decode cX3_takeDays 28 = .ok (.putfield 22, 3) := by decide +kernel
theorem dX3_takeDays_31 : decode cX3_takeDays 31 = .ok (.return_, 1) := by decide +kernel
theorem dX3_blame_0 : decode cX3_blame 0 = .ok (.aload_n 0, 1) := by decide +kernel
theorem dX3_blame_1 : decode cX3_blame 1 = .ok (.iload_n 1, 1) := by decide +kernel
theorem dX3_blame_2 : decode cX3_blame 2 = .ok (.putfield 15, 3) := by decide +kernel
theorem dX3_blame_5 : decode cX3_blame 5 = .ok (.aload_n 0, 1) := by decide +kernel
theorem dX3_blame_6 : decode cX3_blame 6 = .ok (.iload_n 2, 1) := by decide +kernel
theorem dX3_blame_7 : decode cX3_blame 7 = .ok (.putfield 19, 3) := by decide +kernel
theorem dX3_blame_10 : decode cX3_blame 10 = .ok (.return_, 1) := by decide +kernel
theorem dX3_endOfToken_0 : decode cX3_endOfToken 0 = .ok (.aload_n 0, 1) := by decide +kernel
theorem dX3_endOfToken_1 : decode cX3_endOfToken 1 = .ok (.iload_n 1, 1) := by decide +kernel
theorem dX3_endOfToken_2 : decode cX3_endOfToken 2 = .ok (.invokevirtual 39, 3) := by decide +kernel
theorem dX3_endOfToken_5 : decode cX3_endOfToken 5 = .ok (.invokestatic 75, 3) := by decide +kernel
theorem dX3_endOfToken_8 : decode cX3_endOfToken 8 = .ok (.istore_n 2, 1) := by decide +kernel
theorem dX3_endOfToken_9 : decode cX3_endOfToken 9 = .ok (.aload_n 0, 1) := by decide +kernel
theorem dX3_endOfToken_10 : decode cX3_endOfToken 10 = .ok (.iload_n 1, 1) := by decide +kernel
theorem dX3_endOfToken_11 : decode cX3_endOfToken 11 = .ok (.invokevirtual 39, 3) := by decide +kernel
theorem dX3_endOfToken_14 : decode cX3_endOfToken 14 = .ok (.invokestatic 78, 3) := by decide +kernel
theorem dX3_endOfToken_17 : decode cX3_endOfToken 17 = .ok (.istore_n 3, 1) := by decide +kernel
theorem dX3_endOfToken_18 : decode cX3_endOfToken 18 = .ok (.iload_n 1, 1) := by decide +kernel
theorem dX3_endOfToken_19 : decode cX3_endOfToken 19 = .ok (.iconst 1, 1) := by decide +kernel
theorem dX3_endOfToken_20 : decode cX3_endOfToken 20 = .ok (.iadd, 1) := by decide +kernel
theorem dX3_endOfToken_21 : decode cX3_endOfToken 21 = .ok (.istore 4, 2) := by decide +kernel
theorem dX3_endOfToken_23 : decode cX3_endOfToken 23 = .ok (.iload 4, 2) := by decide +kernel
theorem dX3_endOfToken_25 : decode cX3_endOfToken 25 = .ok (.aload_n 0, 1) := by decide +kernel
theorem dX3_endOfToken_26 : decode cX3_endOfToken 26 = .ok (.getfield 34, 3) := by decide +kernel
theorem dX3_endOfToken_29 : decode cX3_endOfToken 29 = .ok (.if_icmp .ge 41, 3) := by decide +kernel
theorem dX3_endOfToken_32 : decode cX3_endOfToken 32 = .ok (.iload_n 2, 1) := by decide +kernel
theorem dX3_endOfToken_33 : decode cX3_endOfToken 33 = .ok (.ifCond .eq 15, 3) := by decide +kernel
theorem dX3_endOfToken_36 : decode cX3_endOfToken 36 = .ok (.aload_n 0, 1) := by decide +kernel
theorem dX3_endOfToken_37 : decode cX3_endOfToken 37 = .ok (.iload 4, 2) := by decide +kernel
theorem dX3_endOfToken_39 : decode cX3_endOfToken 39 = .ok (.invokevirtual 39, 3) := by decide +kernel
theorem dX3_endOfToken_42 : decode cX3_endOfToken 42 = .ok (.invokestatic 75, 3) := by decide +kernel
theorem dX3_endOfToken_45 : decode cX3_endOfToken 45 = .ok (.ifCond .ne 19, 3) := by decide +kernel
theorem dX3_endOfToken_48 : decode cX3_endOfToken 48 = .ok (.iload_n 3, 1) := by decide +kernel
theorem dX3_endOfToken_49 : decode cX3_endOfToken 49 = .ok (.ifCond .eq 21, 3) := by decide +kernel
theorem dX3_endOfToken_52 : decode cX3_endOfToken 52 = .ok (.aload_n 0, 1) := by decide +kernel
theorem dX3_endOfToken_53 : decode cX3_endOfToken 53 = .ok (.iload 4, 2) := by decide +kernel
theorem dX3_endOfToken_55 : decode cX3_endOfToken 55 = .ok (.invokevirtual 39, 3) := by decide +kernel
theorem dX3_endOfToken_58 : decode cX3_endOfToken 58 = .ok (.invokestatic 78, 3) := by decide +kernel
theorem dX3_endOfToken_61 : decode cX3_endOfToken 61 = .ok (.ifCond .eq 9, 3) := by decide +kernel
theorem dX3_endOfToken_64 : decode cX3_endOfToken 64 = .ok (.iinc 4 1, 3) := by decide +kernel
theorem dX3_endOfToken_67 : decode cX3_endOfToken 67 = .ok (.goto (-44), 3) := by decide +kernel
theorem dX3_endOfToken_70 : decode cX3_endOfToken 70 = .ok (.iload 4, 2) := by decide +kernel
theorem dX3_endOfToken_72 : decode cX3_endOfToken 72 = .ok (.ireturn, 1) := by decide +kernel
theorem dX3_isEvery_0 : decode cX3_isEvery 0 = .ok (.iload_n 2, 1) := by decide +kernel
theorem dX3_isEvery_1 : decode cX3_isEvery 1 = .ok (.iload_n 1, 1) := by decide +kernel
theorem dX3_isEvery_2 : decode cX3_isEvery 2 = .ok (.isub, 1) := by decide +kernel
theorem dX3_isEvery_3 : decode cX3_isEvery 3 = .ok (.ldc 81, 2) := by decide +kernel
theorem dX3_isEvery_5 : decode cX3_isEvery 5 = .ok (.invokevirtual 83, 3) := by decide +kernel
theorem dX3_isEvery_8 : decode cX3_isEvery 8 = .ok (.if_icmp .eq 5, 3) := by decide +kernel
theorem dX3_isEvery_11 : decode cX3_isEvery 11 = .ok (.iconst 0, 1) := by decide +kernel
theorem dX3_isEvery_12 : decode cX3_isEvery 12 = .ok (.ireturn, 1) := by decide +kernel
theorem dX3_isEvery_13 : decode cX3_isEvery 13 = .ok (.iconst 0, 1) := by decide +kernel
theorem dX3_isEvery_14 : decode cX3_isEvery 14 = .ok (.istore_n 3, 1) := by decide +kernel
theorem dX3_isEvery_15 : decode cX3_isEvery 15 = .ok (.iload_n 3, 1) := by decide +kernel
theorem dX3_isEvery_16 : decode cX3_isEvery 16 = .ok (.ldc 81, 2) := by decide +kernel
theorem dX3_isEvery_18 : decode cX3_isEvery 18 = .ok (.invokevirtual 83, 3) := by decide +kernel
theorem dX3_isEvery_21 : decode cX3_isEvery 21 = .ok (.if_icmp .ge 27, 3) := by decide +kernel
theorem dX3_isEvery_24 : decode cX3_isEvery 24 = .ok (.aload_n 0, 1) := by decide +kernel
theorem dX3_isEvery_25 : decode cX3_isEvery 25 = .ok (.iload_n 1, 1) := by decide +kernel
theorem dX3_isEvery_26 : decode cX3_isEvery 26 = .ok (.iload_n 3, 1) := by decide +kernel
theorem dX3_isEvery_27 : decode cX3_isEvery 27 = .ok (.iadd, 1) := by decide +kernel
theorem dX3_isEvery_28 : decode cX3_isEvery 28 = .ok (.invokevirtual 39, 3) := by decide +kernel
theorem dX3_isEvery_31 : decode cX3_isEvery 31 = .ok (.ldc 81, 2) := by decide +kernel
theorem dX3_isEvery_33 : decode cX3_isEvery 33 = .ok (.iload_n 3, 1) := by decide +kernel
theorem dX3_isEvery_34 : decode cX3_isEvery 34 = .ok (.invokevirtual 88, 3) := by decide +kernel
theorem dX3_isEvery_37 : decode cX3_isEvery 37 = .ok (.if_icmp .eq 5, 3) := by decide +kernel
theorem dX3_isEvery_40 : decode cX3_isEvery 40 = .ok (.iconst 0, 1) := by decide +kernel
theorem dX3_isEvery_41 : decode cX3_isEvery 41 = .ok (.ireturn, 1) := by decide +kernel
theorem dX3_isEvery_42 : decode cX3_isEvery 42 = .ok (.iinc 3 1, 3) := by decide +kernel
theorem dX3_isEvery_45 : decode cX3_isEvery 45 = .ok (.goto (-30), 3) := by decide +kernel
theorem dX3_isEvery_48 : decode cX3_isEvery 48 = .ok (.iconst 1, 1) := by decide +kernel
theorem dX3_isEvery_49 : decode cX3_isEvery 49 = .ok (.ireturn, 1) := by decide +kernel
theorem dX3_numberOf_0 : decode cX3_numberOf 0 = .ok (.aload_n 0, 1) := by decide +kernel
theorem dX3_numberOf_1 : decode cX3_numberOf 1 = .ok (.iload_n 1, 1) := by decide +kernel
theorem dX3_numberOf_2 : decode cX3_numberOf 2 = .ok (.invokevirtual 39, 3) := by decide +kernel
theorem dX3_numberOf_5 : decode cX3_numberOf 5 = .ok (.invokestatic 78, 3) := by decide +kernel
theorem dX3_numberOf_8 : decode cX3_numberOf 8 = .ok (.ifCond .eq 10, 3) := by decide +kernel
theorem dX3_numberOf_11 : decode cX3_numberOf 11 = .ok (.iload_n 2, 1) := by decide +kernel
theorem dX3_numberOf_12 : decode cX3_numberOf 12 = .ok (.iload_n 1, 1) := by decide +kernel
theorem dX3_numberOf_13 : decode cX3_numberOf 13 = .ok (.isub, 1) := by decide +kernel
theorem dX3_numberOf_14 : decode cX3_numberOf 14 = .ok (.iconst 3, 1) := by decide +kernel
theorem dX3_numberOf_15 : decode cX3_numberOf 15 = .ok (.if_icmp .le 5, 3) := by decide +kernel
theorem dX3_numberOf_18 : decode cX3_numberOf 18 = .ok (.iconst (-1), 1) := by decide +kernel
theorem dX3_numberOf_19 : decode cX3_numberOf 19 = .ok (.ireturn, 1) := by decide +kernel
theorem dX3_numberOf_20 : decode cX3_numberOf 20 = .ok (.iconst 0, 1) := by decide +kernel
theorem dX3_numberOf_21 : decode cX3_numberOf 21 = .ok (.istore_n 3, 1) := by decide +kernel
theorem dX3_numberOf_22 : decode cX3_numberOf 22 = .ok (.iload_n 1, 1) := by decide +kernel
theorem dX3_numberOf_23 : decode cX3_numberOf 23 = .ok (.istore 4, 2) := by decide +kernel
theorem dX3_numberOf_25 : decode cX3_numberOf 25 = .ok (.iload 4, 2) := by decide +kernel
theorem dX3_numberOf_27 : decode cX3_numberOf 27 = .ok (.iload_n 2, 1) := by decide +kernel
theorem dX3_numberOf_28 : decode cX3_numberOf 28 = .ok (.if_icmp .ge 24, 3) := by decide +kernel
theorem dX3_numberOf_31 : decode cX3_numberOf 31 = .ok (.iload_n 3, 1) := by decide +kernel
theorem dX3_numberOf_32 : decode cX3_numberOf 32 = .ok (.bipush 10, 2) := by decide +kernel
theorem dX3_numberOf_34 : decode cX3_numberOf 34 = .ok (.imul, 1) := by decide +kernel
theorem dX3_numberOf_35 : decode cX3_numberOf 35 = .ok (.aload_n 0, 1) := by decide +kernel
theorem dX3_numberOf_36 : decode cX3_numberOf 36 = .ok (.iload 4, 2) := by decide +kernel
theorem dX3_numberOf_38 : decode cX3_numberOf 38 = .ok (.invokevirtual 39, 3) := by decide +kernel
theorem dX3_numberOf_41 : decode cX3_numberOf 41 = .ok (.iadd, 1) := by decide +kernel
theorem dX3_numberOf_42 : decode cX3_numberOf 42 = .ok (.bipush 48, 2) := by decide +kernel
theorem dX3_numberOf_44 : decode cX3_numberOf 44 = .ok (.isub, 1) := by decide +kernel
theorem dX3_numberOf_45 : decode cX3_numberOf 45 = .ok (.istore_n 3, 1) := by decide +kernel
theorem dX3_numberOf_46 : decode cX3_numberOf 46 = .ok (.iinc 4 1, 3) := by decide +kernel
theorem dX3_numberOf_49 : decode cX3_numberOf 49 = .ok (.goto (-24), 3) := by decide +kernel
theorem dX3_numberOf_52 : decode cX3_numberOf 52 = .ok (.iload_n 3, 1) := by decide +kernel
theorem dX3_numberOf_53 : decode cX3_numberOf 53 = .ok (.ireturn, 1) := by decide +kernel
theorem dX3_isBlank_0 : decode cX3_isBlank 0 = .ok (.iload_n 0, 1) := by decide +kernel
theorem dX3_isBlank_1 : decode cX3_isBlank 1 = .ok (.bipush 32, 2) := by decide +kernel
theorem dX3_isBlank_3 : decode cX3_isBlank 3 = .ok (.if_icmp .eq 9, 3) := by decide +kernel
theorem dX3_isBlank_6 : decode cX3_isBlank 6 = .ok (.iload_n 0, 1) := by decide +kernel
theorem dX3_isBlank_7 : decode cX3_isBlank 7 = .ok (.bipush 10, 2) := by decide +kernel
theorem dX3_isBlank_9 : decode cX3_isBlank 9 = .ok (.if_icmp .ne 7, 3) := by decide +kernel
theorem dX3_isBlank_12 : decode cX3_isBlank 12 = .ok (.iconst 1, 1) := by decide +kernel
theorem dX3_isBlank_13 : decode cX3_isBlank 13 = .ok (.goto 4, 3) := by decide +kernel
theorem dX3_isBlank_16 : decode cX3_isBlank 16 = .ok (.iconst 0, 1) := by decide +kernel
theorem dX3_isBlank_17 : decode cX3_isBlank 17 = .ok (.ireturn, 1) := by decide +kernel
theorem dX3_isLetter_0 : decode cX3_isLetter 0 = .ok (.iload_n 0, 1) := by decide +kernel
theorem dX3_isLetter_1 : decode cX3_isLetter 1 = .ok (.bipush 97, 2) := by decide +kernel
theorem dX3_isLetter_3 : decode cX3_isLetter 3 = .ok (.if_icmp .lt 13, 3) := by decide +kernel
theorem dX3_isLetter_6 : decode cX3_isLetter 6 = .ok (.iload_n 0, 1) := by decide +kernel
theorem dX3_isLetter_7 : decode cX3_isLetter 7 = .ok (.bipush 122, 2) := by decide +kernel
theorem dX3_isLetter_9 : decode cX3_isLetter 9 = .ok (.if_icmp .gt 7, 3) := by decide +kernel
theorem dX3_isLetter_12 : decode cX3_isLetter 12 = .ok (.iconst 1, 1) := by decide +kernel
theorem dX3_isLetter_13 : decode cX3_isLetter 13 = .ok (.goto 4, 3) := by decide +kernel
theorem dX3_isLetter_16 : decode cX3_isLetter 16 = .ok (.iconst 0, 1) := by decide +kernel
theorem dX3_isLetter_17 : decode cX3_isLetter 17 = .ok (.ireturn, 1) := by decide +kernel
theorem dX3_isDigit_0 : decode cX3_isDigit 0 = .ok (.iload_n 0, 1) := by decide +kernel
theorem dX3_isDigit_1 : decode cX3_isDigit 1 = .ok (.bipush 48, 2) := by decide +kernel
theorem dX3_isDigit_3 : decode cX3_isDigit 3 = .ok (.if_icmp .lt 13, 3) := by decide +kernel
theorem dX3_isDigit_6 : decode cX3_isDigit 6 = .ok (.iload_n 0, 1) := by decide +kernel
theorem dX3_isDigit_7 : decode cX3_isDigit 7 = .ok (.bipush 57, 2) := by decide +kernel
theorem dX3_isDigit_9 : decode cX3_isDigit 9 = .ok (.if_icmp .gt 7, 3) := by decide +kernel
theorem dX3_isDigit_12 : decode cX3_isDigit 12 = .ok (.iconst 1, 1) := by decide +kernel
theorem dX3_isDigit_13 : decode cX3_isDigit 13 = .ok (.goto 4, 3) := by decide +kernel
theorem dX3_isDigit_16 : decode cX3_isDigit 16 = .ok (.iconst 0, 1) := by decide +kernel
theorem dX3_isDigit_17 : decode cX3_isDigit 17 = .ok (.ireturn, 1) := by decide +kernel
theorem dX4_init_0 : decode cX4_init 0 = .ok (.aload_n 0, 1) := by decide +kernel
theorem dX4_init_1 : decode cX4_init 1 = .ok (.invokespecial 1, 3) := by decide +kernel
theorem dX4_init_4 : decode cX4_init 4 = .ok (.aload_n 0, 1) := by decide +kernel
theorem dX4_init_5 : decode cX4_init 5 = .ok (.iconst 0, 1) := by decide +kernel
theorem dX4_init_6 : decode cX4_init 6 = .ok (.putfield 7, 3) := by decide +kernel
theorem dX4_init_9 : decode cX4_init 9 = .ok (.aload_n 0, 1) := by decide +kernel
theorem dX4_init_10 : decode cX4_init 10 = .ok (.iconst 0, 1) := by decide +kernel
theorem dX4_init_11 : decode cX4_init 11 = .ok (.putfield 13, 3) := by decide +kernel
theorem dX4_init_14 : decode cX4_init 14 = .ok (.aload_n 0, 1) := by decide +kernel
theorem dX4_init_15 : decode cX4_init 15 = .ok (.iconst 0, 1) := by decide +kernel
theorem dX4_init_16 : decode cX4_init 16 = .ok (.putfield 16, 3) := by decide +kernel
theorem dX4_init_19 : decode cX4_init 19 = .ok (.aload_n 0, 1) := by decide +kernel
theorem dX4_init_20 : decode cX4_init 20 = .ok (.iload_n 1, 1) := by decide +kernel
theorem dX4_init_21 : decode cX4_init 21 = .ok (.putfield 19, 3) := by decide +kernel
theorem dX4_init_24 : decode cX4_init 24 = .ok (.return_, 1) := by decide +kernel
theorem dX4_owe_0 : decode cX4_owe 0 = .ok (.aload_n 0, 1) := by decide +kernel
theorem dX4_owe_1 : decode cX4_owe 1 = .ok (.dup, 1) := by decide +kernel
theorem dX4_owe_2 : decode cX4_owe 2 = .ok (.getfield 7, 3) := by decide +kernel
theorem dX4_owe_5 : decode cX4_owe 5 = .ok (.iload_n 1, 1) := by decide +kernel
theorem dX4_owe_6 : decode cX4_owe 6 = .ok (.iadd, 1) := by decide +kernel
theorem dX4_owe_7 : decode cX4_owe 7 = .ok (.putfield 7, 3) := by decide +kernel
theorem dX4_owe_10 : decode cX4_owe 10 = .ok (.aload_n 0, 1) := by decide +kernel
theorem dX4_owe_11 : decode cX4_owe 11 = .ok (.dup, 1) := by decide +kernel
theorem dX4_owe_12 : decode cX4_owe 12 = .ok (.getfield 13, 3) := by decide +kernel
theorem dX4_owe_15 : decode cX4_owe 15 = .ok (.iload_n 1, 1) := by decide +kernel
theorem dX4_owe_16 : decode cX4_owe 16 = .ok (.iload_n 2, 1) := by decide +kernel
theorem dX4_owe_17 : decode cX4_owe 17 = .ok (.imul, 1) := by decide +kernel
theorem dX4_owe_18 : decode cX4_owe 18 = .ok (.iadd, 1) := by decide +kernel
theorem dX4_owe_19 : decode cX4_owe 19 = .ok (.putfield 13, 3) := by decide +kernel
theorem dX4_owe_22 : decode cX4_owe 22 = .ok (.return_, 1) := by decide +kernel
theorem dX5_init_0 : decode cX5_init 0 = .ok (.aload_n 0, 1) := by decide +kernel
theorem dX5_init_1 : decode cX5_init 1 = .ok (.invokespecial 5, 3) := by decide +kernel
theorem dX5_init_4 : decode cX5_init 4 = .ok (.aload_n 0, 1) := by decide +kernel
theorem dX5_init_5 : decode cX5_init 5 = .ok (.iconst 5, 1) := by decide +kernel
theorem dX5_init_6 : decode cX5_init 6 = .ok (.anewarray 11, 3) := by decide +kernel
theorem dX5_init_9 : decode cX5_init 9 = .ok (.putfield 13, 3) := by decide +kernel
theorem dX5_init_12 : decode cX5_init 12 = .ok (.aload_n 0, 1) := by decide +kernel
theorem dX5_init_13 : decode cX5_init 13 = .ok (.iconst 0, 1) := by decide +kernel
theorem dX5_init_14 : decode cX5_init 14 = .ok (.putfield 17, 3) := by decide +kernel
theorem dX5_init_17 : decode cX5_init 17 = .ok (.aload_n 0, 1) := by decide +kernel
theorem dX5_init_18 : decode cX5_init 18 = .ok (.bipush 32, 2) := by decide +kernel
theorem dX5_init_20 : decode cX5_init 20 = .ok (.newarray .int, 2) := by decide +kernel
theorem dX5_init_22 : decode cX5_init 22 = .ok (.putfield 21, 3) := by decide +kernel
theorem dX5_init_25 : decode cX5_init 25 = .ok (.aload_n 0, 1) := by decide +kernel
theorem dX5_init_26 : decode cX5_init 26 = .ok (.bipush 32, 2) := by decide +kernel
theorem dX5_init_28 : decode cX5_init 28 = .ok (.newarray .int, 2) := by decide +kernel
theorem dX5_init_30 : decode cX5_init 30 = .ok (.putfield 25, 3) := by decide +kernel
theorem dX5_init_33 : decode cX5_init 33 = .ok (.return_, 1) := by decide +kernel
theorem dX5_begin_0 : decode cX5_begin 0 = .ok (.aload_n 0, 1) := by decide +kernel
theorem dX5_begin_1 : decode cX5_begin 1 = .ok (.iconst 0, 1) := by decide +kernel
theorem dX5_begin_2 : decode cX5_begin 2 = .ok (.putfield 17, 3) := by decide +kernel
theorem dX5_begin_5 : decode cX5_begin 5 = .ok (.aload_n 0, 1) := by decide +kernel
theorem dX5_begin_6 : decode cX5_begin 6 = .ok (.getfield 21, 3) := by decide +kernel
theorem dX5_begin_9 : decode cX5_begin 9 = .ok (.iconst 0, 1) := by decide +kernel
theorem dX5_begin_10 : decode cX5_begin 10 = .ok (.invokestatic 28, 3) := by decide +kernel
theorem dX5_begin_13 : decode cX5_begin 13 = .ok (.return_, 1) := by decide +kernel
theorem dX5_add_0 : decode cX5_add 0 = .ok (.aload_n 0, 1) := by decide +kernel
theorem dX5_add_1 : decode cX5_add 1 = .ok (.getfield 17, 3) := by decide +kernel
theorem dX5_add_4 : decode cX5_add 4 = .ok (.iconst 5, 1) := by decide +kernel
theorem dX5_add_5 : decode cX5_add 5 = .ok (.if_icmp .ge 23, 3) := by decide +kernel
theorem dX5_add_8 : decode cX5_add 8 = .ok (.aload_n 0, 1) := by decide +kernel
theorem dX5_add_9 : decode cX5_add 9 = .ok (.getfield 13, 3) := by decide +kernel
theorem dX5_add_12 : decode cX5_add 12 = .ok (.aload_n 0, 1) := by decide +kernel
theorem dX5_add_13 : decode cX5_add 13 = .ok (.getfield 17, 3) := by decide +kernel
theorem dX5_add_16 : decode cX5_add 16 = .ok (.aload_n 1, 1) := by decide +kernel
theorem dX5_add_17 : decode cX5_add 17 = .ok (.aastore, 1) := by decide +kernel
theorem dX5_add_18 : decode cX5_add 18 = .ok (.aload_n 0, 1) := by decide +kernel
theorem dX5_add_19 : decode cX5_add 19 = .ok (.dup, 1) := by decide +kernel
theorem dX5_add_20 : decode cX5_add 20 = .ok (.getfield 17, 3) := by decide +kernel
theorem dX5_add_23 : decode cX5_add 23 = .ok (.iconst 1, 1) := by decide +kernel
theorem dX5_add_24 : decode cX5_add 24 = .ok (.iadd, 1) := by decide +kernel
theorem dX5_add_25 : decode cX5_add 25 = .ok (.putfield 17, 3) := by decide +kernel
theorem dX5_add_28 : decode cX5_add 28 = .ok (.return_, 1) := by decide +kernel
theorem dX5_askAtRow_0 : decode cX5_askAtRow 0 = .ok (.iload_n 1, 1) := by decide +kernel
theorem dX5_askAtRow_1 : decode cX5_askAtRow 1 = .ok (.ifCond .lt 25, 3) := by decide +kernel
theorem dX5_askAtRow_4 : decode cX5_askAtRow 4 = .ok (.iload_n 1, 1) := by decide +kernel
theorem dX5_askAtRow_5 : decode cX5_askAtRow 5 = .ok (.aload_n 0, 1) := by decide +kernel
theorem dX5_askAtRow_6 : decode cX5_askAtRow 6 = .ok (.getfield 17, 3) := by decide +kernel
theorem dX5_askAtRow_9 : decode cX5_askAtRow 9 = .ok (.if_icmp .ge 17, 3) := by decide +kernel
theorem dX5_askAtRow_12 : decode cX5_askAtRow 12 = .ok (.iload_n 1, 1) := by decide +kernel
theorem dX5_askAtRow_13 : decode cX5_askAtRow 13 = .ok (.iconst 5, 1) := by decide +kernel
theorem dX5_askAtRow_14 : decode cX5_askAtRow 14 = .ok (.if_icmp .ge 12, 3) := by decide +kernel
theorem dX5_askAtRow_17 : decode cX5_askAtRow 17 = .ok (.aload_n 0, 1) := by decide +kernel
theorem dX5_askAtRow_18 : decode cX5_askAtRow 18 = .ok (.getfield 13, 3) := by decide +kernel
theorem dX5_askAtRow_21 : decode cX5_askAtRow 21 = .ok (.iload_n 1, 1) := by decide +kernel
theorem dX5_askAtRow_22 : decode cX5_askAtRow 22 = .ok (.aaload, 1) := by decide +kernel
theorem dX5_askAtRow_23 : decode cX5_askAtRow 23 = .ok (.goto 4, 3) := by decide +kernel
theorem dX5_askAtRow_26 : decode cX5_askAtRow 26 = .ok (.aconst_null, 1) := by decide +kernel
theorem dX5_askAtRow_27 : decode cX5_askAtRow 27 = .ok (.areturn, 1) := by decide +kernel
theorem dX5_offer_0 : decode cX5_offer 0 = .ok (.iload_n 2, 1) := by decide +kernel
theorem dX5_offer_1 : decode cX5_offer 1 = .ok (.ifCond .ne 4, 3) := by decide +kernel
theorem dX5_offer_4 : decode cX5_offer 4 = .ok (.return_, 1) := by decide +kernel
theorem dX5_offer_5 : decode cX5_offer 5 = .ok (.aload_n 0, 1) := by decide +kernel
theorem dX5_offer_6 : decode cX5_offer 6 = .ok (.aload_n 1, 1) := by decide +kernel
theorem dX5_offer_7 : decode cX5_offer 7 = .ok (.iload_n 2, 1) := by decide +kernel
theorem dX5_offer_8 : decode cX5_offer 8 = .ok (.invokevirtual 34, 3) := by decide +kernel
theorem dX5_offer_11 : decode cX5_offer 11 = .ok (.aload_n 0, 1) := by decide +kernel
theorem dX5_offer_12 : decode cX5_offer 12 = .ok (.invokevirtual 38, 3) := by decide +kernel
theorem dX5_offer_15 : decode cX5_offer 15 = .ok (.istore_n 3, 1) := by decide +kernel
theorem dX5_offer_16 : decode cX5_offer 16 = .ok (.iload_n 3, 1) := by decide +kernel
theorem dX5_offer_17 : decode cX5_offer 17 = .ok (.ifCond .le 77, 3) := by decide +kernel
theorem dX5_offer_20 : decode cX5_offer 20 = .ok (.iload_n 3, 1) := by decide +kernel
theorem dX5_offer_21 : decode cX5_offer 21 = .ok (.iload_n 2, 1) := by decide +kernel
theorem dX5_offer_22 : decode cX5_offer 22 = .ok (.iand, 1) := by decide +kernel
theorem dX5_offer_23 : decode cX5_offer 23 = .ok (.istore 4, 2) := by decide +kernel
theorem dX5_offer_25 : decode cX5_offer 25 = .ok (.iload 4, 2) := by decide +kernel
theorem dX5_offer_27 : decode cX5_offer 27 = .ok (.istore 5, 2) := by decide +kernel
theorem dX5_offer_29 : decode cX5_offer 29 = .ok (.iload 5, 2) := by decide +kernel
theorem dX5_offer_31 : decode cX5_offer 31 = .ok (.ifCond .le 57, 3) := by decide +kernel
theorem dX5_offer_34 : decode cX5_offer 34 = .ok (.aload_n 0, 1) := by decide +kernel
theorem dX5_offer_35 : decode cX5_offer 35 = .ok (.getfield 25, 3) := by decide +kernel
theorem dX5_offer_38 : decode cX5_offer 38 = .ok (.iload 5, 2) := by decide +kernel
theorem dX5_offer_40 : decode cX5_offer 40 = .ok (.iaload, 1) := by decide +kernel
theorem dX5_offer_41 : decode cX5_offer 41 = .ok (.ifCond .le 35, 3) := by decide +kernel
theorem dX5_offer_44 : decode cX5_offer 44 = .ok (.aload_n 0, 1) := by decide +kernel
theorem dX5_offer_45 : decode cX5_offer 45 = .ok (.getfield 21, 3) := by decide +kernel
theorem dX5_offer_48 : decode cX5_offer 48 = .ok (.iload_n 3, 1) := by decide +kernel
theorem dX5_offer_49 : decode cX5_offer 49 = .ok (.aload_n 0, 1) := by decide +kernel
theorem dX5_offer_50 : decode cX5_offer 50 = .ok (.getfield 21, 3) := by decide +kernel
theorem dX5_offer_53 : decode cX5_offer 53 = .ok (.iload_n 3, 1) := by decide +kernel
theorem dX5_offer_54 : decode cX5_offer 54 = .ok (.iaload, 1) := by decide +kernel
theorem dX5_offer_55 : decode cX5_offer 55 = .ok (.aload_n 0, 1) := by decide +kernel
theorem dX5_offer_56 : decode cX5_offer 56 = .ok (.getfield 21, 3) := by decide +kernel
theorem dX5_offer_59 : decode cX5_offer 59 = .ok (.iload_n 3, 1) := by decide +kernel
theorem dX5_offer_60 : decode cX5_offer 60 = .ok (.iload 5, 2) := by decide +kernel
theorem dX5_offer_62 : decode cX5_offer 62 = .ok (.ixor, 1) := by decide +kernel
theorem dX5_offer_63 : decode cX5_offer 63 = .ok (.iaload, 1) := by decide +kernel
theorem dX5_offer_64 : decode cX5_offer 64 = .ok (.aload_n 0, 1) := by decide +kernel
theorem dX5_offer_65 : decode cX5_offer 65 = .ok (.getfield 25, 3) := by decide +kernel
theorem dX5_offer_68 : decode cX5_offer 68 = .ok (.iload 5, 2) := by decide +kernel
theorem dX5_offer_70 : decode cX5_offer 70 = .ok (.iaload, 1) := by decide +kernel
theorem dX5_offer_71 : decode cX5_offer 71 = .ok (.iadd, 1) := by decide +kernel
theorem dX5_offer_72 : decode cX5_offer 72 = .ok (.invokestatic 42, 3) := by decide +kernel
theorem dX5_offer_75 : decode cX5_offer 75 = .ok (.iastore, 1) := by decide +kernel
theorem dX5_offer_76 : decode cX5_offer 76 = .ok (.iload 5, 2) := by decide +kernel
theorem dX5_offer_78 : decode cX5_offer 78 = .ok (.iconst 1, 1) := by decide +kernel
theorem dX5_offer_79 : decode cX5_offer 79 = .ok (.isub, 1) := by decide +kernel
theorem dX5_offer_80 : decode cX5_offer 80 = .ok (.iload 4, 2) := by decide +kernel
theorem dX5_offer_82 : decode cX5_offer 82 = .ok (.iand, 1) := by decide +kernel
theorem dX5_offer_83 : decode cX5_offer 83 = .ok (.istore 5, 2) := by decide +kernel
theorem dX5_offer_85 : decode cX5_offer 85 = .ok (.goto (-56), 3) := by decide +kernel
theorem dX5_offer_88 : decode cX5_offer 88 = .ok (.iinc 3 (-1), 3) := by decide +kernel
theorem dX5_offer_91 : decode cX5_offer 91 = .ok (.goto (-75), 3) := by decide +kernel
theorem dX5_offer_94 : decode cX5_offer 94 = .ok (.return_, 1) := by decide +kernel
theorem dX5_thingAtRow_0 : decode cX5_thingAtRow 0 = .ok (.aload_n 0, 1) := by decide +kernel
theorem dX5_thingAtRow_1 : decode cX5_thingAtRow 1 = .ok (.getfield 21, 3) := by decide +kernel
theorem dX5_thingAtRow_4 : decode cX5_thingAtRow 4 = .ok (.aload_n 0, 1) := by decide +kernel
theorem dX5_thingAtRow_5 : decode cX5_thingAtRow 5 = .ok (.invokevirtual 38, 3) := by decide +kernel
theorem dX5_thingAtRow_8 : decode cX5_thingAtRow 8 = .ok (.iaload, 1) := by decide +kernel
theorem dX5_thingAtRow_9 : decode cX5_thingAtRow 9 = .ok (.istore_n 2, 1) := by decide +kernel
theorem dX5_thingAtRow_10 : decode cX5_thingAtRow 10 = .ok (.iload_n 1, 1) := by decide +kernel
theorem dX5_thingAtRow_11 : decode cX5_thingAtRow 11 = .ok (.istore_n 3, 1) := by decide +kernel
theorem dX5_thingAtRow_12 : decode cX5_thingAtRow 12 = .ok (.iload_n 3, 1) := by decide +kernel
theorem dX5_thingAtRow_13 : decode cX5_thingAtRow 13 = .ok (.iconst 4, 1) := by decide +kernel
theorem dX5_thingAtRow_14 : decode cX5_thingAtRow 14 = .ok (.if_icmp .ge 14, 3) := by decide +kernel
theorem dX5_thingAtRow_17 : decode cX5_thingAtRow 17 = .ok (.iload_n 2, 1) := by decide +kernel
theorem dX5_thingAtRow_18 : decode cX5_thingAtRow 18 = .ok (.bipush 13, 2) := by decide +kernel
theorem dX5_thingAtRow_20 : decode cX5_thingAtRow 20 = .ok (.idiv, 1) := by decide +kernel
theorem dX5_thingAtRow_21 : decode cX5_thingAtRow 21 = .ok (.istore_n 2, 1) := by decide +kernel
theorem dX5_thingAtRow_22 : decode cX5_thingAtRow 22 = .ok (.iinc 3 1, 3) := by decide +kernel
theorem dX5_thingAtRow_25 : decode cX5_thingAtRow 25 = .ok (.goto (-13), 3) := by decide +kernel
theorem dX5_thingAtRow_28 : decode cX5_thingAtRow 28 = .ok (.iload_n 2, 1) := by decide +kernel
theorem dX5_thingAtRow_29 : decode cX5_thingAtRow 29 = .ok (.bipush 13, 2) := by decide +kernel
theorem dX5_thingAtRow_31 : decode cX5_thingAtRow 31 = .ok (.irem, 1) := by decide +kernel
theorem dX5_thingAtRow_32 : decode cX5_thingAtRow 32 = .ok (.istore_n 3, 1) := by decide +kernel
theorem dX5_thingAtRow_33 : decode cX5_thingAtRow 33 = .ok (.iload_n 3, 1) := by decide +kernel
theorem dX5_thingAtRow_34 : decode cX5_thingAtRow 34 = .ok (.ifCond .ne 7, 3) := by decide +kernel
theorem dX5_thingAtRow_37 : decode cX5_thingAtRow 37 = .ok (.iconst (-1), 1) := by decide +kernel
theorem dX5_thingAtRow_38 : decode cX5_thingAtRow 38 = .ok (.goto 7, 3) := by decide +kernel
theorem dX5_thingAtRow_41 : decode cX5_thingAtRow 41 = .ok (.bipush 12, 2) := by decide +kernel
theorem dX5_thingAtRow_43 : decode cX5_thingAtRow 43 = .ok (.iload_n 3, 1) := by decide +kernel
theorem dX5_thingAtRow_44 : decode cX5_thingAtRow 44 = .ok (.isub, 1) := by decide +kernel
theorem dX5_thingAtRow_45 : decode cX5_thingAtRow 45 = .ok (.ireturn, 1) := by decide +kernel
theorem dX5_wholeRow_0 : decode cX5_wholeRow 0 = .ok (.aload_n 0, 1) := by decide +kernel
theorem dX5_wholeRow_1 : decode cX5_wholeRow 1 = .ok (.getfield 17, 3) := by decide +kernel
theorem dX5_wholeRow_4 : decode cX5_wholeRow 4 = .ok (.ifCond .lt 22, 3) := by decide +kernel
theorem dX5_wholeRow_7 : decode cX5_wholeRow 7 = .ok (.aload_n 0, 1) := by decide +kernel
theorem dX5_wholeRow_8 : decode cX5_wholeRow 8 = .ok (.getfield 17, 3) := by decide +kernel
theorem dX5_wholeRow_11 : decode cX5_wholeRow 11 = .ok (.iconst 5, 1) := by decide +kernel
theorem dX5_wholeRow_12 : decode cX5_wholeRow 12 = .ok (.if_icmp .gt 14, 3) := by decide +kernel
theorem dX5_wholeRow_15 : decode cX5_wholeRow 15 = .ok (.iconst 1, 1) := by decide +kernel
theorem dX5_wholeRow_16 : decode cX5_wholeRow 16 = .ok (.aload_n 0, 1) := by decide +kernel
theorem dX5_wholeRow_17 : decode cX5_wholeRow 17 = .ok (.getfield 17, 3) := by decide +kernel
theorem dX5_wholeRow_20 : decode cX5_wholeRow 20 = .ok (.ishl, 1) := by decide +kernel
theorem dX5_wholeRow_21 : decode cX5_wholeRow 21 = .ok (.iconst 1, 1) := by decide +kernel
theorem dX5_wholeRow_22 : decode cX5_wholeRow 22 = .ok (.isub, 1) := by decide +kernel
theorem dX5_wholeRow_23 : decode cX5_wholeRow 23 = .ok (.goto 4, 3) := by decide +kernel
theorem dX5_wholeRow_26 : decode cX5_wholeRow 26 = .ok (.iconst 0, 1) := by decide +kernel
theorem dX5_wholeRow_27 : decode cX5_wholeRow 27 = .ok (.ireturn, 1) := by decide +kernel
theorem dX5_weigh_0 : decode cX5_weigh 0 = .ok (.aload_n 0, 1) := by decide +kernel
theorem dX5_weigh_1 : decode cX5_weigh 1 = .ok (.getfield 25, 3) := by decide +kernel
theorem dX5_weigh_4 : decode cX5_weigh 4 = .ok (.iconst 0, 1) := by decide +kernel
theorem dX5_weigh_5 : decode cX5_weigh 5 = .ok (.iconst 0, 1) := by decide +kernel
theorem dX5_weigh_6 : decode cX5_weigh 6 = .ok (.iastore, 1) := by decide +kernel
theorem dX5_weigh_7 : decode cX5_weigh 7 = .ok (.iconst 0, 1) := by decide +kernel
theorem dX5_weigh_8 : decode cX5_weigh 8 = .ok (.istore_n 3, 1) := by decide +kernel
theorem dX5_weigh_9 : decode cX5_weigh 9 = .ok (.iload_n 3, 1) := by decide +kernel
theorem dX5_weigh_10 : decode cX5_weigh 10 = .ok (.aload_n 0, 1) := by decide +kernel
theorem dX5_weigh_11 : decode cX5_weigh 11 = .ok (.getfield 17, 3) := by decide +kernel
theorem dX5_weigh_14 : decode cX5_weigh 14 = .ok (.if_icmp .ge 156, 3) := by decide +kernel
theorem dX5_weigh_17 : decode cX5_weigh 17 = .ok (.iload_n 3, 1) := by decide +kernel
theorem dX5_weigh_18 : decode cX5_weigh 18 = .ok (.iconst 5, 1) := by decide +kernel
theorem dX5_weigh_19 : decode cX5_weigh 19 = .ok (.if_icmp .ge 151, 3) := by decide +kernel
theorem dX5_weigh_22 : decode cX5_weigh 22 = .ok (.iconst 1, 1) := by decide +kernel
theorem dX5_weigh_23 : decode cX5_weigh 23 = .ok (.iload_n 3, 1) := by decide +kernel
theorem dX5_weigh_24 : decode cX5_weigh 24 = .ok (.ishl, 1) := by decide +kernel
theorem dX5_weigh_25 : decode cX5_weigh 25 = .ok (.istore 4, 2) := by decide +kernel
theorem dX5_weigh_27 : decode cX5_weigh 27 = .ok (.iload_n 2, 1) := by decide +kernel
theorem dX5_weigh_28 : decode cX5_weigh 28 = .ok (.iload 4, 2) := by decide +kernel
theorem dX5_weigh_30 : decode cX5_weigh 30 = .ok (.iand, 1) := by decide +kernel
theorem dX5_weigh_31 : decode cX5_weigh 31 = .ok (.ifCond .ne 7, 3) := by decide +kernel
theorem dX5_weigh_34 : decode cX5_weigh 34 = .ok (.aconst_null, 1) := by decide +kernel
theorem dX5_weigh_35 : decode cX5_weigh 35 = .ok (.goto 8, 3) := by decide +kernel
theorem dX5_weigh_38 : decode cX5_weigh 38 = .ok (.aload_n 0, 1) := by decide +kernel
theorem dX5_weigh_39 : decode cX5_weigh 39 = .ok (.iload_n 3, 1) := by decide +kernel
theorem dX5_weigh_40 : decode cX5_weigh 40 = .ok (.invokevirtual 48, 3) := by decide +kernel
theorem dX5_weigh_43 : decode cX5_weigh 43 = .ok (.astore 5, 2) := by decide +kernel
theorem dX5_weigh_45 : decode cX5_weigh 45 = .ok (.aload 5, 2) := by decide +kernel
theorem dX5_weigh_47 : decode cX5_weigh 47 = .ok (.ifnonnull 7, 3) := by decide +kernel
theorem dX5_weigh_50 : decode cX5_weigh 50 = .ok (.iconst 0, 1) := by decide +kernel
theorem dX5_weigh_51 : decode cX5_weigh 51 = .ok (.goto 10, 3) := by decide +kernel
theorem dX5_weigh_54 : decode cX5_weigh 54 = .ok (.aload 5, 2) := by decide +kernel
theorem dX5_weigh_56 : decode cX5_weigh 56 = .ok (.aload_n 1, 1) := by decide +kernel
theorem dX5_weigh_57 : decode cX5_weigh 57 = .ok (.iload_n 3, 1) := by decide +kernel
theorem dX5_weigh_58 : decode cX5_weigh 58 = .ok (.invokestatic 52, 3) := by decide +kernel
theorem dX5_weigh_61 : decode cX5_weigh 61 = .ok (.istore 6, 2) := by decide +kernel
theorem dX5_weigh_63 : decode cX5_weigh 63 = .ok (.aload 5, 2) := by decide +kernel
theorem dX5_weigh_65 : decode cX5_weigh 65 = .ok (.ifnonnull 7, 3) := by decide +kernel
theorem dX5_weigh_68 : decode cX5_weigh 68 = .ok (.iconst 0, 1) := by decide +kernel
theorem dX5_weigh_69 : decode cX5_weigh 69 = .ok (.goto 17, 3) := by decide +kernel
theorem dX5_weigh_72 : decode cX5_weigh 72 = .ok (.aload_n 0, 1) := by decide +kernel
theorem dX5_weigh_73 : decode cX5_weigh 73 = .ok (.aload 5, 2) := by decide +kernel
theorem dX5_weigh_75 : decode cX5_weigh 75 = .ok (.aload_n 1, 1) := by decide +kernel
theorem dX5_weigh_76 : decode cX5_weigh 76 = .ok (.getfield 56, 3) := by decide +kernel
theorem dX5_weigh_79 : decode cX5_weigh 79 = .ok (.getfield 62, 3) := by decide +kernel
theorem dX5_weigh_82 : decode cX5_weigh 82 = .ok (.iload_n 3, 1) := by decide +kernel
theorem dX5_weigh_83 : decode cX5_weigh 83 = .ok (.invokevirtual 67, 3) := by decide +kernel
theorem dX5_weigh_86 : decode cX5_weigh 86 = .ok (.istore 7, 2) := by decide +kernel
theorem dX5_weigh_88 : decode cX5_weigh 88 = .ok (.iconst 0, 1) := by decide +kernel
theorem dX5_weigh_89 : decode cX5_weigh 89 = .ok (.istore 8, 2) := by decide +kernel
theorem dX5_weigh_91 : decode cX5_weigh 91 = .ok (.iload 8, 2) := by decide +kernel
theorem dX5_weigh_93 : decode cX5_weigh 93 = .ok (.iload 4, 2) := by decide +kernel
theorem dX5_weigh_95 : decode cX5_weigh 95 = .ok (.if_icmp .ge 69, 3) := by decide +kernel
theorem dX5_weigh_98 : decode cX5_weigh 98 = .ok (.aload 5, 2) := by decide +kernel
theorem dX5_weigh_100 : decode cX5_weigh 100 = .ok (.ifnull 26, 3) := by decide +kernel
theorem dX5_weigh_103 : decode cX5_weigh 103 = .ok (.aload_n 0, 1) := by decide +kernel
theorem dX5_weigh_104 : decode cX5_weigh 104 = .ok (.getfield 25, 3) := by decide +kernel
theorem dX5_weigh_107 : decode cX5_weigh 107 = .ok (.iload 8, 2) := by decide +kernel
theorem dX5_weigh_109 : decode cX5_weigh 109 = .ok (.iaload, 1) := by decide +kernel
theorem dX5_weigh_110 : decode cX5_weigh 110 = .ok (.iconst (-1), 1) := by decide +kernel
theorem dX5_weigh_111 : decode cX5_weigh 111 = .ok (.if_icmp .eq 15, 3) := by decide +kernel
theorem dX5_weigh_114 : decode cX5_weigh 114 = .ok (.iload 7, 2) := by decide +kernel
theorem dX5_weigh_116 : decode cX5_weigh 116 = .ok (.iload 8, 2) := by decide +kernel
theorem dX5_weigh_118 : decode cX5_weigh 118 = .ok (.iand, 1) := by decide +kernel
theorem dX5_weigh_119 : decode cX5_weigh 119 = .ok (.ifCond .ne 7, 3) := by decide +kernel
theorem dX5_weigh_122 : decode cX5_weigh 122 = .ok (.iconst 1, 1) := by decide +kernel
theorem dX5_weigh_123 : decode cX5_weigh 123 = .ok (.goto 4, 3) := by decide +kernel
theorem dX5_weigh_126 : decode cX5_weigh 126 = .ok (.iconst 0, 1) := by decide +kernel
theorem dX5_weigh_127 : decode cX5_weigh 127 = .ok (.istore 9, 2) := by decide +kernel
theorem dX5_weigh_129 : decode cX5_weigh 129 = .ok (.aload_n 0, 1) := by decide +kernel
theorem dX5_weigh_130 : decode cX5_weigh 130 = .ok (.getfield 25, 3) := by decide +kernel
theorem dX5_weigh_133 : decode cX5_weigh 133 = .ok (.iload 4, 2) := by decide +kernel
theorem dX5_weigh_135 : decode cX5_weigh 135 = .ok (.iload 8, 2) := by decide +kernel
theorem dX5_weigh_137 : decode cX5_weigh 137 = .ok (.ior, 1) := by decide +kernel
theorem dX5_weigh_138 : decode cX5_weigh 138 = .ok (.iload 9, 2) := by decide +kernel
theorem dX5_weigh_140 : decode cX5_weigh 140 = .ok (.ifCond .eq 16, 3) := by decide +kernel
theorem dX5_weigh_143 : decode cX5_weigh 143 = .ok (.aload_n 0, 1) := by decide +kernel
theorem dX5_weigh_144 : decode cX5_weigh 144 = .ok (.getfield 25, 3) := by decide +kernel
theorem dX5_weigh_147 : decode cX5_weigh 147 = .ok (.iload 8, 2) := by decide +kernel
theorem dX5_weigh_149 : decode cX5_weigh 149 = .ok (.iaload, 1) := by decide +kernel
theorem dX5_weigh_150 : decode cX5_weigh 150 = .ok (.iload 6, 2) := by decide +kernel
theorem dX5_weigh_152 : decode cX5_weigh 152 = .ok (.iadd, 1) := by decide +kernel
theorem dX5_weigh_153 : decode cX5_weigh 153 = .ok (.goto 4, 3) := by decide +kernel
theorem dX5_weigh_156 : decode cX5_weigh 156 = .ok (.iconst (-1), 1) := by decide +kernel
theorem dX5_weigh_157 : decode cX5_weigh 157 = .ok (.iastore, 1) := by decide +kernel
theorem dX5_weigh_158 : decode cX5_weigh 158 = .ok (.iinc 8 1, 3) := by decide +kernel
theorem dX5_weigh_161 : decode cX5_weigh 161 = .ok (.goto (-70), 3) := by decide +kernel
theorem dX5_weigh_164 : decode cX5_weigh 164 = .ok (.iinc 3 1, 3) := by decide +kernel
theorem dX5_weigh_167 : decode cX5_weigh 167 = .ok (.goto (-158), 3) := by decide +kernel
theorem dX5_weigh_170 : decode cX5_weigh 170 = .ok (.return_, 1) := by decide +kernel
theorem dX5_worthOf_0 : decode cX5_worthOf 0 = .ok (.bipush 12, 2) := by decide +kernel
theorem dX5_worthOf_2 : decode cX5_worthOf 2 = .ok (.aload_n 1, 1) := by decide +kernel
theorem dX5_worthOf_3 : decode cX5_worthOf 3 = .ok (.getfield 71, 3) := by decide +kernel
theorem dX5_worthOf_6 : decode cX5_worthOf 6 = .ok (.isub, 1) := by decide +kernel
theorem dX5_worthOf_7 : decode cX5_worthOf 7 = .ok (.istore_n 3, 1) := by decide +kernel
theorem dX5_worthOf_8 : decode cX5_worthOf 8 = .ok (.iload_n 2, 1) := by decide +kernel
theorem dX5_worthOf_9 : decode cX5_worthOf 9 = .ok (.istore 4, 2) := by decide +kernel
theorem dX5_worthOf_11 : decode cX5_worthOf 11 = .ok (.iload 4, 2) := by decide +kernel
theorem dX5_worthOf_13 : decode cX5_worthOf 13 = .ok (.iconst 4, 1) := by decide +kernel
theorem dX5_worthOf_14 : decode cX5_worthOf 14 = .ok (.if_icmp .ge 14, 3) := by decide +kernel
theorem dX5_worthOf_17 : decode cX5_worthOf 17 = .ok (.iload_n 3, 1) := by decide +kernel
theorem dX5_worthOf_18 : decode cX5_worthOf 18 = .ok (.bipush 13, 2) := by decide +kernel
theorem dX5_worthOf_20 : decode cX5_worthOf 20 = .ok (.imul, 1) := by decide +kernel
theorem dX5_worthOf_21 : decode cX5_worthOf 21 = .ok (.istore_n 3, 1) := by decide +kernel
theorem dX5_worthOf_22 : decode cX5_worthOf 22 = .ok (.iinc 4 1, 3) := by decide +kernel
theorem dX5_worthOf_25 : decode cX5_worthOf 25 = .ok (.goto (-14), 3) := by decide +kernel
theorem dX5_worthOf_28 : decode cX5_worthOf 28 = .ok (.aload_n 0, 1) := by decide +kernel
theorem dX5_worthOf_29 : decode cX5_worthOf 29 = .ok (.getfield 74, 3) := by decide +kernel
theorem dX5_worthOf_32 : decode cX5_worthOf 32 = .ok (.iconst 2, 1) := by decide +kernel
theorem dX5_worthOf_33 : decode cX5_worthOf 33 = .ok (.if_icmp .ne 8, 3) := by decide +kernel
theorem dX5_worthOf_36 : decode cX5_worthOf 36 = .ok (.ldc 77, 2) := by decide +kernel
theorem dX5_worthOf_38 : decode cX5_worthOf 38 = .ok (.goto 18, 3) := by decide +kernel
theorem dX5_worthOf_41 : decode cX5_worthOf 41 = .ok (.aload_n 0, 1) := by decide +kernel
theorem dX5_worthOf_42 : decode cX5_worthOf 42 = .ok (.getfield 74, 3) := by decide +kernel
theorem dX5_worthOf_45 : decode cX5_worthOf 45 = .ok (.iconst 1, 1) := by decide +kernel
theorem dX5_worthOf_46 : decode cX5_worthOf 46 = .ok (.if_icmp .ne 8, 3) := by decide +kernel
theorem dX5_worthOf_49 : decode cX5_worthOf 49 = .ok (.ldc 78, 2) := by decide +kernel
theorem dX5_worthOf_51 : decode cX5_worthOf 51 = .ok (.goto 5, 3) := by decide +kernel
theorem dX5_worthOf_54 : decode cX5_worthOf 54 = .ok (.ldc 79, 2) := by decide +kernel
theorem dX5_worthOf_56 : decode cX5_worthOf 56 = .ok (.istore 4, 2) := by decide +kernel
theorem dX5_worthOf_58 : decode cX5_worthOf 58 = .ok (.aload_n 1, 1) := by decide +kernel
theorem dX5_worthOf_59 : decode cX5_worthOf 59 = .ok (.getfield 56, 3) := by decide +kernel
theorem dX5_worthOf_62 : decode cX5_worthOf 62 = .ok (.aload_n 0, 1) := by decide +kernel
theorem dX5_worthOf_63 : decode cX5_worthOf 63 = .ok (.getfield 80, 3) := by decide +kernel
theorem dX5_worthOf_66 : decode cX5_worthOf 66 = .ok (.if_acmp .ne 10, 3) := by decide +kernel
theorem dX5_worthOf_69 : decode cX5_worthOf 69 = .ok (.iload 4, 2) := by decide +kernel
theorem dX5_worthOf_71 : decode cX5_worthOf 71 = .ok (.iload_n 3, 1) := by decide +kernel
theorem dX5_worthOf_72 : decode cX5_worthOf 72 = .ok (.iadd, 1) := by decide +kernel
theorem dX5_worthOf_73 : decode cX5_worthOf 73 = .ok (.goto 10, 3) := by decide +kernel
theorem dX5_worthOf_76 : decode cX5_worthOf 76 = .ok (.iload 4, 2) := by decide +kernel
theorem dX5_worthOf_78 : decode cX5_worthOf 78 = .ok (.ldc 81, 2) := by decide +kernel
theorem dX5_worthOf_80 : decode cX5_worthOf 80 = .ok (.isub, 1) := by decide +kernel
theorem dX5_worthOf_81 : decode cX5_worthOf 81 = .ok (.iload_n 3, 1) := by decide +kernel
theorem dX5_worthOf_82 : decode cX5_worthOf 82 = .ok (.iadd, 1) := by decide +kernel
theorem dX5_worthOf_83 : decode cX5_worthOf 83 = .ok (.ireturn, 1) := by decide +kernel
theorem dX5_nearTo_0 : decode cX5_nearTo 0 = .ok (.iconst 0, 1) := by decide +kernel
theorem dX5_nearTo_1 : decode cX5_nearTo 1 = .ok (.istore 4, 2) := by decide +kernel
theorem dX5_nearTo_3 : decode cX5_nearTo 3 = .ok (.iconst 0, 1) := by decide +kernel
theorem dX5_nearTo_4 : decode cX5_nearTo 4 = .ok (.istore 5, 2) := by decide +kernel
theorem dX5_nearTo_6 : decode cX5_nearTo 6 = .ok (.iload 5, 2) := by decide +kernel
theorem dX5_nearTo_8 : decode cX5_nearTo 8 = .ok (.iload_n 3, 1) := by decide +kernel
theorem dX5_nearTo_9 : decode cX5_nearTo 9 = .ok (.if_icmp .ge 56, 3) := by decide +kernel
theorem dX5_nearTo_12 : decode cX5_nearTo 12 = .ok (.aload_n 0, 1) := by decide +kernel
theorem dX5_nearTo_13 : decode cX5_nearTo 13 = .ok (.iload 5, 2) := by decide +kernel
theorem dX5_nearTo_15 : decode cX5_nearTo 15 = .ok (.invokevirtual 48, 3) := by decide +kernel
theorem dX5_nearTo_18 : decode cX5_nearTo 18 = .ok (.astore 6, 2) := by decide +kernel
theorem dX5_nearTo_20 : decode cX5_nearTo 20 = .ok (.aload 6, 2) := by decide +kernel
theorem dX5_nearTo_22 : decode cX5_nearTo 22 = .ok (.ifnull 37, 3) := by decide +kernel
theorem dX5_nearTo_25 : decode cX5_nearTo 25 = .ok (.aload_n 1, 1) := by decide +kernel
theorem dX5_nearTo_26 : decode cX5_nearTo 26 = .ok (.getfield 82, 3) := by decide +kernel
theorem dX5_nearTo_29 : decode cX5_nearTo 29 = .ok (.aload_n 1, 1) := by decide +kernel
theorem dX5_nearTo_30 : decode cX5_nearTo 30 = .ok (.getfield 85, 3) := by decide +kernel
theorem dX5_nearTo_33 : decode cX5_nearTo 33 = .ok (.aload 6, 2) := by decide +kernel
theorem dX5_nearTo_35 : decode cX5_nearTo 35 = .ok (.getfield 82, 3) := by decide +kernel
theorem dX5_nearTo_38 : decode cX5_nearTo 38 = .ok (.aload 6, 2) := by decide +kernel
theorem dX5_nearTo_40 : decode cX5_nearTo 40 = .ok (.getfield 85, 3) := by decide +kernel
theorem dX5_nearTo_43 : decode cX5_nearTo 43 = .ok (.iload_n 2, 1) := by decide +kernel
theorem dX5_nearTo_44 : decode cX5_nearTo 44 = .ok (.invokestatic 88, 3) := by decide +kernel
theorem dX5_nearTo_47 : decode cX5_nearTo 47 = .ok (.ifCond .eq 12, 3) := by decide +kernel
theorem dX5_nearTo_50 : decode cX5_nearTo 50 = .ok (.iload 4, 2) := by decide +kernel
theorem dX5_nearTo_52 : decode cX5_nearTo 52 = .ok (.iconst 1, 1) := by decide +kernel
theorem dX5_nearTo_53 : decode cX5_nearTo 53 = .ok (.iload 5, 2) := by decide +kernel
theorem dX5_nearTo_55 : decode cX5_nearTo 55 = .ok (.ishl, 1) := by decide +kernel
theorem dX5_nearTo_56 : decode cX5_nearTo 56 = .ok (.ior, 1) := by decide +kernel
theorem dX5_nearTo_57 : decode cX5_nearTo 57 = .ok (.istore 4, 2) := by decide +kernel
theorem dX5_nearTo_59 : decode cX5_nearTo 59 = .ok (.iinc 5 1, 3) := by decide +kernel
theorem dX5_nearTo_62 : decode cX5_nearTo 62 = .ok (.goto (-56), 3) := by decide +kernel
theorem dX5_nearTo_65 : decode cX5_nearTo 65 = .ok (.iload 4, 2) := by decide +kernel
theorem dX5_nearTo_67 : decode cX5_nearTo 67 = .ok (.ireturn, 1) := by decide +kernel
theorem dX6_init_0 : decode cX6_init 0 = .ok (.aload_n 0, 1) := by decide +kernel
theorem dX6_init_1 : decode cX6_init 1 = .ok (.invokespecial 3, 3) := by decide +kernel
theorem dX6_init_4 : decode cX6_init 4 = .ok (.aload_n 0, 1) := by decide +kernel
theorem dX6_init_5 : decode cX6_init 5 = .ok (.sipush 200, 3) := by decide +kernel
theorem dX6_init_8 : decode cX6_init 8 = .ok (.newarray .int, 2) := by decide +kernel
theorem dX6_init_10 : decode cX6_init 10 = .ok (.putfield 9, 3) := by decide +kernel
theorem dX6_init_13 : decode cX6_init 13 = .ok (.aload_n 0, 1) := by decide +kernel
theorem dX6_init_14 : decode cX6_init 14 = .ok (.iconst 0, 1) := by decide +kernel
theorem dX6_init_15 : decode cX6_init 15 = .ok (.putfield 15, 3) := by decide +kernel
theorem dX6_init_18 : decode cX6_init 18 = .ok (.return_, 1) := by decide +kernel
theorem dX6_hasRoom_0 : decode cX6_hasRoom 0 = .ok (.aload_n 0, 1) := by decide +kernel
theorem dX6_hasRoom_1 : decode cX6_hasRoom 1 = .ok (.getfield 15, 3) := by decide +kernel
theorem dX6_hasRoom_4 : decode cX6_hasRoom 4 = .ok (.bipush 20, 2) := by decide +kernel
theorem dX6_hasRoom_6 : decode cX6_hasRoom 6 = .ok (.iadd, 1) := by decide +kernel
theorem dX6_hasRoom_7 : decode cX6_hasRoom 7 = .ok (.sipush 200, 3) := by decide +kernel
theorem dX6_hasRoom_10 : decode cX6_hasRoom 10 = .ok (.if_icmp .gt 7, 3) := by decide +kernel
theorem dX6_hasRoom_13 : decode cX6_hasRoom 13 = .ok (.iconst 1, 1) := by decide +kernel
theorem dX6_hasRoom_14 : decode cX6_hasRoom 14 = .ok (.goto 4, 3) := by decide +kernel
theorem dX6_hasRoom_17 : decode cX6_hasRoom 17 = .ok (.iconst 0, 1) := by decide +kernel
theorem dX6_hasRoom_18 : decode cX6_hasRoom 18 = .ok (.ireturn, 1) := by decide +kernel
theorem dX6_put_0 : decode cX6_put 0 = .ok (.bipush 24, 2) := by decide +kernel
theorem dX6_put_2 : decode cX6_put 2 = .ok (.istore_n 2, 1) := by decide +kernel
theorem dX6_put_3 : decode cX6_put 3 = .ok (.iload_n 2, 1) := by decide +kernel
theorem dX6_put_4 : decode cX6_put 4 = .ok (.ifCond .lt 45, 3) := by decide +kernel
theorem dX6_put_7 : decode cX6_put 7 = .ok (.aload_n 0, 1) := by decide +kernel
theorem dX6_put_8 : decode cX6_put 8 = .ok (.getfield 15, 3) := by decide +kernel
theorem dX6_put_11 : decode cX6_put 11 = .ok (.sipush 200, 3) := by decide +kernel
theorem dX6_put_14 : decode cX6_put 14 = .ok (.if_icmp .ge 35, 3) := by decide +kernel
theorem dX6_put_17 : decode cX6_put 17 = .ok (.aload_n 0, 1) := by decide +kernel
theorem dX6_put_18 : decode cX6_put 18 = .ok (.getfield 9, 3) := by decide +kernel
theorem dX6_put_21 : decode cX6_put 21 = .ok (.aload_n 0, 1) := by decide +kernel
theorem dX6_put_22 : decode cX6_put 22 = .ok (.getfield 15, 3) := by decide +kernel
theorem dX6_put_25 : decode cX6_put 25 = .ok (.iload_n 1, 1) := by decide +kernel
theorem dX6_put_26 : decode cX6_put 26 = .ok (.iload_n 2, 1) := by decide +kernel
theorem dX6_put_27 : decode cX6_put 27 = .ok (.iushr, 1) := by decide +kernel
theorem dX6_put_28 : decode cX6_put 28 = .ok (.sipush 255, 3) := by decide +kernel
theorem dX6_put_31 : decode cX6_put 31 = .ok (.iand, 1) := by decide +kernel
theorem dX6_put_32 : decode cX6_put 32 = .ok (.iastore, 1) := by decide +kernel
theorem dX6_put_33 : decode cX6_put 33 = .ok (.aload_n 0, 1) := by decide +kernel
theorem dX6_put_34 : decode cX6_put 34 = .ok (.dup, 1) := by decide +kernel
theorem dX6_put_35 : decode cX6_put 35 = .ok (.getfield 15, 3) := by decide +kernel
theorem dX6_put_38 : decode cX6_put 38 = .ok (.iconst 1, 1) := by decide +kernel
theorem dX6_put_39 : decode cX6_put 39 = .ok (.iadd, 1) := by decide +kernel
theorem dX6_put_40 : decode cX6_put 40 = .ok (.putfield 15, 3) := by decide +kernel
theorem dX6_put_43 : decode cX6_put 43 = .ok (.iinc 2 (-8), 3) := by decide +kernel
theorem dX6_put_46 : decode cX6_put 46 = .ok (.goto (-43), 3) := by decide +kernel
theorem dX6_put_49 : decode cX6_put 49 = .ok (.return_, 1) := by decide +kernel
theorem dX6_byteAt_0 : decode cX6_byteAt 0 = .ok (.iload_n 1, 1) := by decide +kernel
theorem dX6_byteAt_1 : decode cX6_byteAt 1 = .ok (.ifCond .lt 27, 3) := by decide +kernel
theorem dX6_byteAt_4 : decode cX6_byteAt 4 = .ok (.iload_n 1, 1) := by decide +kernel
theorem dX6_byteAt_5 : decode cX6_byteAt 5 = .ok (.aload_n 0, 1) := by decide +kernel
theorem dX6_byteAt_6 : decode cX6_byteAt 6 = .ok (.getfield 15, 3) := by decide +kernel
theorem dX6_byteAt_9 : decode cX6_byteAt 9 = .ok (.if_icmp .ge 19, 3) := by decide +kernel
theorem dX6_byteAt_12 : decode cX6_byteAt 12 = .ok (.iload_n 1, 1) := by decide +kernel
theorem dX6_byteAt_13 : decode cX6_byteAt 13 = .ok (.sipush 200, 3) := by decide +kernel
theorem dX6_byteAt_16 : decode cX6_byteAt 16 = .ok (.if_icmp .ge 12, 3) := by decide +kernel
theorem dX6_byteAt_19 : decode cX6_byteAt 19 = .ok (.aload_n 0, 1) := by decide +kernel
theorem dX6_byteAt_20 : decode cX6_byteAt 20 = .ok (.getfield 9, 3) := by decide +kernel
theorem dX6_byteAt_23 : decode cX6_byteAt 23 = .ok (.iload_n 1, 1) := by decide +kernel
theorem dX6_byteAt_24 : decode cX6_byteAt 24 = .ok (.iaload, 1) := by decide +kernel
theorem dX6_byteAt_25 : decode cX6_byteAt 25 = .ok (.goto 4, 3) := by decide +kernel
theorem dX6_byteAt_28 : decode cX6_byteAt 28 = .ok (.iconst (-1), 1) := by decide +kernel
theorem dX6_byteAt_29 : decode cX6_byteAt 29 = .ok (.ireturn, 1) := by decide +kernel
theorem dX7_init_0 : decode cX7_init 0 = .ok (.aload_n 0, 1) := by decide +kernel
theorem dX7_init_1 : decode cX7_init 1 = .ok (.invokespecial 3, 3) := by decide +kernel
theorem dX7_init_4 : decode cX7_init 4 = .ok (.aload_n 0, 1) := by decide +kernel
theorem dX7_init_5 : decode cX7_init 5 = .ok (.iconst (-1), 1) := by decide +kernel
theorem dX7_init_6 : decode cX7_init 6 = .ok (.putfield 9, 3) := by decide +kernel
theorem dX7_init_9 : decode cX7_init 9 = .ok (.aload_n 0, 1) := by decide +kernel
theorem dX7_init_10 : decode cX7_init 10 = .ok (.iconst (-1), 1) := by decide +kernel
theorem dX7_init_11 : decode cX7_init 11 = .ok (.putfield 15, 3) := by decide +kernel
theorem dX7_init_14 : decode cX7_init 14 = .ok (.aload_n 0, 1) := by decide +kernel
theorem dX7_init_15 : decode cX7_init 15 = .ok (.aconst_null, 1) := by decide +kernel
theorem dX7_init_16 : decode cX7_init 16 = .ok (.putfield 18, 3) := by decide +kernel
theorem dX7_init_19 : decode cX7_init 19 = .ok (.aload_n 0, 1) := by decide +kernel
theorem dX7_init_20 : decode cX7_init 20 = .ok (.iload_n 1, 1) := by decide +kernel
theorem dX7_init_21 : decode cX7_init 21 = .ok (.putfield 22, 3) := by decide +kernel
theorem dX7_init_24 : decode cX7_init 24 = .ok (.aload_n 0, 1) := by decide +kernel
theorem dX7_init_25 : decode cX7_init 25 = .ok (.aload_n 2, 1) := by decide +kernel
theorem dX7_init_26 : decode cX7_init 26 = .ok (.putfield 25, 3) := by decide +kernel
theorem dX7_init_29 : decode cX7_init 29 = .ok (.return_, 1) := by decide +kernel
theorem dX7_isLate_0 : decode cX7_isLate 0 = .ok (.aload_n 0, 1) := by decide +kernel
theorem dX7_isLate_1 : decode cX7_isLate 1 = .ok (.getfield 18, 3) := by decide +kernel
theorem dX7_isLate_4 : decode cX7_isLate 4 = .ok (.ifnull 18, 3) := by decide +kernel
theorem dX7_isLate_7 : decode cX7_isLate 7 = .ok (.aload_n 0, 1) := by decide +kernel
theorem dX7_isLate_8 : decode cX7_isLate 8 = .ok (.getfield 18, 3) := by decide +kernel
theorem dX7_isLate_11 : decode cX7_isLate 11 = .ok (.getfield 29, 3) := by decide +kernel
theorem dX7_isLate_14 : decode cX7_isLate 14 = .ok (.iload_n 1, 1) := by decide +kernel
theorem dX7_isLate_15 : decode cX7_isLate 15 = .ok (.if_icmp .ge 7, 3) := by decide +kernel
theorem dX7_isLate_18 : decode cX7_isLate 18 = .ok (.iconst 1, 1) := by decide +kernel
theorem dX7_isLate_19 : decode cX7_isLate 19 = .ok (.goto 4, 3) := by decide +kernel
theorem dX7_isLate_22 : decode cX7_isLate 22 = .ok (.iconst 0, 1) := by decide +kernel
theorem dX7_isLate_23 : decode cX7_isLate 23 = .ok (.ireturn, 1) := by decide +kernel
theorem dX7_isCaredFor_0 : decode cX7_isCaredFor 0 = .ok (.aload_n 0, 1) := by decide +kernel
theorem dX7_isCaredFor_1 : decode cX7_isCaredFor 1 = .ok (.getfield 15, 3) := by decide +kernel
theorem dX7_isCaredFor_4 : decode cX7_isCaredFor 4 = .ok (.iconst (-1), 1) := by decide +kernel
theorem dX7_isCaredFor_5 : decode cX7_isCaredFor 5 = .ok (.if_icmp .eq 19, 3) := by decide +kernel
theorem dX7_isCaredFor_8 : decode cX7_isCaredFor 8 = .ok (.iload_n 1, 1) := by decide +kernel
theorem dX7_isCaredFor_9 : decode cX7_isCaredFor 9 = .ok (.aload_n 0, 1) := by decide +kernel
theorem dX7_isCaredFor_10 : decode cX7_isCaredFor 10 = .ok (.getfield 15, 3) := by decide +kernel
theorem dX7_isCaredFor_13 : decode cX7_isCaredFor 13 = .ok (.aload_n 0, 1) := by decide +kernel
theorem dX7_isCaredFor_14 : decode cX7_isCaredFor 14 = .ok (.getfield 25, 3) := by decide +kernel
theorem dX7_isCaredFor_17 : decode cX7_isCaredFor 17 = .ok (.getfield 34, 3) := by decide +kernel
theorem dX7_isCaredFor_20 : decode cX7_isCaredFor 20 = .ok (.iadd, 1) := by decide +kernel
theorem dX7_isCaredFor_21 : decode cX7_isCaredFor 21 = .ok (.if_icmp .le 7, 3) := by decide +kernel
theorem dX7_isCaredFor_24 : decode cX7_isCaredFor 24 = .ok (.iconst 1, 1) := by decide +kernel
theorem dX7_isCaredFor_25 : decode cX7_isCaredFor 25 = .ok (.goto 4, 3) := by decide +kernel
theorem dX7_isCaredFor_28 : decode cX7_isCaredFor 28 = .ok (.iconst 0, 1) := by decide +kernel
theorem dX7_isCaredFor_29 : decode cX7_isCaredFor 29 = .ok (.ireturn, 1) := by decide +kernel
theorem dX8_init_0 : decode cX8_init 0 = .ok (.aload_n 0, 1) := by decide +kernel
theorem dX8_init_1 : decode cX8_init 1 = .ok (.invokespecial 1, 3) := by decide +kernel
theorem dX8_init_4 : decode cX8_init 4 = .ok (.aload_n 0, 1) := by decide +kernel
theorem dX8_init_5 : decode cX8_init 5 = .ok (.new 7, 3) := by decide +kernel
theorem dX8_init_8 : decode cX8_init 8 = .ok (.dup, 1) := by decide +kernel
theorem dX8_init_9 : decode cX8_init 9 = .ok (.invokespecial 9, 3) := by decide +kernel
theorem dX8_init_12 : decode cX8_init 12 = .ok (.putfield 10, 3) := by decide +kernel
theorem dX8_init_15 : decode cX8_init 15 = .ok (.aload_n 0, 1) := by decide +kernel
theorem dX8_init_16 : decode cX8_init 16 = .ok (.new 7, 3) := by decide +kernel
theorem dX8_init_19 : decode cX8_init 19 = .ok (.dup, 1) := by decide +kernel
theorem dX8_init_20 : decode cX8_init 20 = .ok (.invokespecial 9, 3) := by decide +kernel
theorem dX8_init_23 : decode cX8_init 23 = .ok (.putfield 16, 3) := by decide +kernel
theorem dX8_init_26 : decode cX8_init 26 = .ok (.aload_n 0, 1) := by decide +kernel
theorem dX8_init_27 : decode cX8_init 27 = .ok (.new 7, 3) := by decide +kernel
theorem dX8_init_30 : decode cX8_init 30 = .ok (.dup, 1) := by decide +kernel
theorem dX8_init_31 : decode cX8_init 31 = .ok (.invokespecial 9, 3) := by decide +kernel
theorem dX8_init_34 : decode cX8_init 34 = .ok (.putfield 19, 3) := by decide +kernel
theorem dX8_init_37 : decode cX8_init 37 = .ok (.aload_n 0, 1) := by decide +kernel
theorem dX8_init_38 : decode cX8_init 38 = .ok (.new 7, 3) := by decide +kernel
theorem dX8_init_41 : decode cX8_init 41 = .ok (.dup, 1) := by decide +kernel
theorem dX8_init_42 : decode cX8_init 42 = .ok (.invokespecial 9, 3) := by decide +kernel
theorem dX8_init_45 : decode cX8_init 45 = .ok (.putfield 22, 3) := by decide +kernel
theorem dX8_init_48 : decode cX8_init 48 = .ok (.aload_n 0, 1) := by decide +kernel
theorem dX8_init_49 : decode cX8_init 49 = .ok (.new 7, 3) := by decide +kernel
theorem dX8_init_52 : decode cX8_init 52 = .ok (.dup, 1) := by decide +kernel
theorem dX8_init_53 : decode cX8_init 53 = .ok (.invokespecial 9, 3) := by decide +kernel
theorem dX8_init_56 : decode cX8_init 56 = .ok (.putfield 25, 3) := by decide +kernel
theorem dX8_init_59 : decode cX8_init 59 = .ok (.aload_n 0, 1) := by decide +kernel
theorem dX8_init_60 : decode cX8_init 60 = .ok (.new 28, 3) := by decide +kernel
theorem dX8_init_63 : decode cX8_init 63 = .ok (.dup, 1) := by decide +kernel
theorem dX8_init_64 : decode cX8_init 64 = .ok (.invokespecial 30, 3) := by decide +kernel
theorem dX8_init_67 : decode cX8_init 67 = .ok (.putfield 31, 3) := by decide +kernel
theorem dX8_init_70 : decode cX8_init 70 = .ok (.aload_n 0, 1) := by decide +kernel
theorem dX8_init_71 : decode cX8_init 71 = .ok (.new 35, 3) := by decide +kernel
theorem dX8_init_74 : decode cX8_init 74 = .ok (.dup, 1) := by decide +kernel
theorem dX8_init_75 : decode cX8_init 75 = .ok (.invokespecial 37, 3) := by decide +kernel
theorem dX8_init_78 : decode cX8_init 78 = .ok (.putfield 38, 3) := by decide +kernel
theorem dX8_init_81 : decode cX8_init 81 = .ok (.aload_n 0, 1) := by decide +kernel
theorem dX8_init_82 : decode cX8_init 82 = .ok (.new 42, 3) := by decide +kernel
theorem dX8_init_85 : decode cX8_init 85 = .ok (.dup, 1) := by decide +kernel
theorem dX8_init_86 : decode cX8_init 86 = .ok (.invokespecial 44, 3) := by decide +kernel
theorem dX8_init_89 : decode cX8_init 89 = .ok (.putfield 45, 3) := by decide +kernel
theorem dX8_init_92 : decode cX8_init 92 = .ok (.aload_n 0, 1) := by decide +kernel
theorem dX8_init_93 : decode cX8_init 93 = .ok (.new 49, 3) := by decide +kernel
theorem dX8_init_96 : decode cX8_init 96 = .ok (.dup, 1) := by decide +kernel
theorem dX8_init_97 : decode cX8_init 97 = .ok (.invokespecial 51, 3) := by decide +kernel
theorem dX8_init_100 : decode cX8_init 100 = .ok (.putfield 52, 3) := by decide +kernel
theorem dX8_init_103 : decode cX8_init 103 = .ok (.aload_n 0, 1) := by decide +kernel
theorem dX8_init_104 : decode cX8_init 104 = .ok (.iconst 0, 1) := by decide +kernel
theorem dX8_init_105 : decode cX8_init 105 = .ok (.putfield 56, 3) := by decide +kernel
theorem dX8_init_108 : decode cX8_init 108 = .ok (.return_, 1) := by decide +kernel
theorem dX8_kind_0 : decode cX8_kind 0 = .ok (.aload_n 0, 1) := by decide +kernel
theorem dX8_kind_1 : decode cX8_kind 1 = .ok (.getfield 10, 3) := by decide +kernel
theorem dX8_kind_4 : decode cX8_kind 4 = .ok (.invokevirtual 60, 3) := by decide +kernel
theorem dX8_kind_7 : decode cX8_kind 7 = .ok (.bipush 8, 2) := by decide +kernel
theorem dX8_kind_9 : decode cX8_kind 9 = .ok (.if_icmp .ge 33, 3) := by decide +kernel
theorem dX8_kind_12 : decode cX8_kind 12 = .ok (.iload_n 1, 1) := by decide +kernel
theorem dX8_kind_13 : decode cX8_kind 13 = .ok (.iconst 0, 1) := by decide +kernel
theorem dX8_kind_14 : decode cX8_kind 14 = .ok (.iconst 5, 1) := by decide +kernel
theorem dX8_kind_15 : decode cX8_kind 15 = .ok (.invokestatic 64, 3) := by decide +kernel
theorem dX8_kind_18 : decode cX8_kind 18 = .ok (.ifCond .eq 24, 3) := by decide +kernel
theorem dX8_kind_21 : decode cX8_kind 21 = .ok (.iload_n 2, 1) := by decide +kernel
theorem dX8_kind_22 : decode cX8_kind 22 = .ok (.iconst 0, 1) := by decide +kernel
theorem dX8_kind_23 : decode cX8_kind 23 = .ok (.sipush 255, 3) := by decide +kernel
theorem dX8_kind_26 : decode cX8_kind 26 = .ok (.invokestatic 64, 3) := by decide +kernel
theorem dX8_kind_29 : decode cX8_kind 29 = .ok (.ifCond .eq 13, 3) := by decide +kernel
theorem dX8_kind_32 : decode cX8_kind 32 = .ok (.iload_n 3, 1) := by decide +kernel
theorem dX8_kind_33 : decode cX8_kind 33 = .ok (.iconst 0, 1) := by decide +kernel
theorem dX8_kind_34 : decode cX8_kind 34 = .ok (.bipush 100, 2) := by decide +kernel
theorem dX8_kind_36 : decode cX8_kind 36 = .ok (.invokestatic 64, 3) := by decide +kernel
theorem dX8_kind_39 : decode cX8_kind 39 = .ok (.ifCond .ne 5, 3) := by decide +kernel
theorem dX8_kind_42 : decode cX8_kind 42 = .ok (.iconst (-1), 1) := by decide +kernel
theorem dX8_kind_43 : decode cX8_kind 43 = .ok (.ireturn, 1) := by decide +kernel
theorem dX8_kind_44 : decode cX8_kind 44 = .ok (.aload_n 0, 1) := by decide +kernel
theorem dX8_kind_45 : decode cX8_kind 45 = .ok (.getfield 10, 3) := by decide +kernel
theorem dX8_kind_48 : decode cX8_kind 48 = .ok (.new 68, 3) := by decide +kernel
theorem dX8_kind_51 : decode cX8_kind 51 = .ok (.dup, 1) := by decide +kernel
theorem dX8_kind_52 : decode cX8_kind 52 = .ok (.aload_n 0, 1) := by decide +kernel
theorem dX8_kind_53 : decode cX8_kind 53 = .ok (.getfield 10, 3) := by decide +kernel
theorem dX8_kind_56 : decode cX8_kind 56 = .ok (.invokevirtual 60, 3) := by decide +kernel
theorem dX8_kind_59 : decode cX8_kind 59 = .ok (.iload_n 1, 1) := by decide +kernel
theorem dX8_kind_60 : decode cX8_kind 60 = .ok (.iload_n 2, 1) := by decide +kernel
theorem dX8_kind_61 : decode cX8_kind 61 = .ok (.iload_n 3, 1) := by decide +kernel
theorem dX8_kind_62 : decode cX8_kind 62 = .ok (.invokespecial 70, 3) := by decide +kernel
theorem dX8_kind_65 : decode cX8_kind 65 = .ok (.invokevirtual 73, 3) := by decide +kernel
theorem dX8_kind_68 : decode cX8_kind 68 = .ok (.pop, 1) := by decide +kernel
theorem dX8_kind_69 : decode cX8_kind 69 = .ok (.aload_n 0, 1) := by decide +kernel
theorem dX8_kind_70 : decode cX8_kind 70 = .ok (.getfield 10, 3) := by decide +kernel
theorem dX8_kind_73 : decode cX8_kind 73 = .ok (.invokevirtual 60, 3) := by decide +kernel
theorem dX8_kind_76 : decode cX8_kind 76 = .ok (.iconst 1, 1) := by decide +kernel
theorem dX8_kind_77 : decode cX8_kind 77 = .ok (.isub, 1) := by decide +kernel
theorem dX8_kind_78 : decode cX8_kind 78 = .ok (.ireturn, 1) := by decide +kernel
theorem dX8_thing_0 : decode cX8_thing 0 = .ok (.aload_n 0, 1) := by decide +kernel
theorem dX8_thing_1 : decode cX8_thing 1 = .ok (.iload_n 1, 1) := by decide +kernel
theorem dX8_thing_2 : decode cX8_thing 2 = .ok (.invokevirtual 77, 3) := by decide +kernel
theorem dX8_thing_5 : decode cX8_thing 5 = .ok (.astore_n 2, 1) := by decide +kernel
theorem dX8_thing_6 : decode cX8_thing 6 = .ok (.aload_n 2, 1) := by decide +kernel
theorem dX8_thing_7 : decode cX8_thing 7 = .ok (.ifnull 15, 3) := by decide +kernel
theorem dX8_thing_10 : decode cX8_thing 10 = .ok (.aload_n 0, 1) := by decide +kernel
theorem dX8_thing_11 : decode cX8_thing 11 = .ok (.getfield 16, 3) := by decide +kernel
theorem dX8_thing_14 : decode cX8_thing 14 = .ok (.invokevirtual 60, 3) := by decide +kernel
theorem dX8_thing_17 : decode cX8_thing 17 = .ok (.bipush 12, 2) := by decide +kernel
theorem dX8_thing_19 : decode cX8_thing 19 = .ok (.if_icmp .lt 5, 3) := by decide +kernel
theorem dX8_thing_22 : decode cX8_thing 22 = .ok (.iconst (-1), 1) := by decide +kernel
theorem dX8_thing_23 : decode cX8_thing 23 = .ok (.ireturn, 1) := by decide +kernel
theorem dX8_thing_24 : decode cX8_thing 24 = .ok (.aload_n 0, 1) := by decide +kernel
theorem dX8_thing_25 : decode cX8_thing 25 = .ok (.getfield 16, 3) := by decide +kernel
theorem dX8_thing_28 : decode cX8_thing 28 = .ok (.new 81, 3) := by decide +kernel
theorem dX8_thing_31 : decode cX8_thing 31 = .ok (.dup, 1) := by decide +kernel
theorem dX8_thing_32 : decode cX8_thing 32 = .ok (.aload_n 0, 1) := by decide +kernel
theorem dX8_thing_33 : decode cX8_thing 33 = .ok (.getfield 16, 3) := by decide +kernel
theorem dX8_thing_36 : decode cX8_thing 36 = .ok (.invokevirtual 60, 3) := by decide +kernel
theorem dX8_thing_39 : decode cX8_thing 39 = .ok (.aload_n 2, 1) := by decide +kernel
theorem dX8_thing_40 : decode cX8_thing 40 = .ok (.invokespecial 83, 3) := by decide +kernel
theorem dX8_thing_43 : decode cX8_thing 43 = .ok (.invokevirtual 73, 3) := by decide +kernel
theorem dX8_thing_46 : decode cX8_thing 46 = .ok (.pop, 1) := by decide +kernel
theorem dX8_thing_47 : decode cX8_thing 47 = .ok (.aload_n 0, 1) := by decide +kernel
theorem dX8_thing_48 : decode cX8_thing 48 = .ok (.getfield 16, 3) := by decide +kernel
theorem dX8_thing_51 : decode cX8_thing 51 = .ok (.invokevirtual 60, 3) := by decide +kernel
theorem dX8_thing_54 : decode cX8_thing 54 = .ok (.iconst 1, 1) := by decide +kernel
theorem dX8_thing_55 : decode cX8_thing 55 = .ok (.isub, 1) := by decide +kernel
theorem dX8_thing_56 : decode cX8_thing 56 = .ok (.ireturn, 1) := by decide +kernel
theorem dX8_member_0 : decode cX8_member 0 = .ok (.aload_n 0, 1) := by decide +kernel
theorem dX8_member_1 : decode cX8_member 1 = .ok (.getfield 19, 3) := by decide +kernel
theorem dX8_member_4 : decode cX8_member 4 = .ok (.invokevirtual 60, 3) := by decide +kernel
theorem dX8_member_7 : decode cX8_member 7 = .ok (.bipush 10, 2) := by decide +kernel
theorem dX8_member_9 : decode cX8_member 9 = .ok (.if_icmp .lt 5, 3) := by decide +kernel
theorem dX8_member_12 : decode cX8_member 12 = .ok (.iconst (-1), 1) := by decide +kernel
theorem dX8_member_13 : decode cX8_member 13 = .ok (.ireturn, 1) := by decide +kernel
theorem dX8_member_14 : decode cX8_member 14 = .ok (.aload_n 0, 1) := by decide +kernel
theorem dX8_member_15 : decode cX8_member 15 = .ok (.getfield 19, 3) := by decide +kernel
theorem dX8_member_18 : decode cX8_member 18 = .ok (.new 86, 3) := by decide +kernel
theorem dX8_member_21 : decode cX8_member 21 = .ok (.dup, 1) := by decide +kernel
theorem dX8_member_22 : decode cX8_member 22 = .ok (.aload_n 0, 1) := by decide +kernel
theorem dX8_member_23 : decode cX8_member 23 = .ok (.getfield 19, 3) := by decide +kernel
theorem dX8_member_26 : decode cX8_member 26 = .ok (.invokevirtual 60, 3) := by decide +kernel
theorem dX8_member_29 : decode cX8_member 29 = .ok (.invokespecial 88, 3) := by decide +kernel
theorem dX8_member_32 : decode cX8_member 32 = .ok (.invokevirtual 73, 3) := by decide +kernel
theorem dX8_member_35 : decode cX8_member 35 = .ok (.pop, 1) := by decide +kernel
theorem dX8_member_36 : decode cX8_member 36 = .ok (.aload_n 0, 1) := by decide +kernel
theorem dX8_member_37 : decode cX8_member 37 = .ok (.getfield 19, 3) := by decide +kernel
theorem dX8_member_40 : decode cX8_member 40 = .ok (.invokevirtual 60, 3) := by decide +kernel
theorem dX8_member_43 : decode cX8_member 43 = .ok (.iconst 1, 1) := by decide +kernel
theorem dX8_member_44 : decode cX8_member 44 = .ok (.isub, 1) := by decide +kernel
theorem dX8_member_45 : decode cX8_member 45 = .ok (.ireturn, 1) := by decide +kernel
theorem dX8_feed_0 : decode cX8_feed 0 = .ok (.aload_n 0, 1) := by decide +kernel
theorem dX8_feed_1 : decode cX8_feed 1 = .ok (.getfield 31, 3) := by decide +kernel
theorem dX8_feed_4 : decode cX8_feed 4 = .ok (.invokevirtual 91, 3) := by decide +kernel
theorem dX8_feed_7 : decode cX8_feed 7 = .ok (.ifCond .ne 5, 3) := by decide +kernel
theorem dX8_feed_10 : decode cX8_feed 10 = .ok (.iconst (-1), 1) := by decide +kernel
theorem dX8_feed_11 : decode cX8_feed 11 = .ok (.ireturn, 1) := by decide +kernel
theorem dX8_feed_12 : decode cX8_feed 12 = .ok (.aload_n 0, 1) := by decide +kernel
theorem dX8_feed_13 : decode cX8_feed 13 = .ok (.getfield 31, 3) := by decide +kernel
theorem dX8_feed_16 : decode cX8_feed 16 = .ok (.iload_n 1, 1) := by decide +kernel
theorem dX8_feed_17 : decode cX8_feed 17 = .ok (.invokevirtual 95, 3) := by decide +kernel
theorem dX8_feed_20 : decode cX8_feed 20 = .ok (.aload_n 0, 1) := by decide +kernel
theorem dX8_feed_21 : decode cX8_feed 21 = .ok (.getfield 31, 3) := by decide +kernel
theorem dX8_feed_24 : decode cX8_feed 24 = .ok (.iload_n 2, 1) := by decide +kernel
theorem dX8_feed_25 : decode cX8_feed 25 = .ok (.invokevirtual 95, 3) := by decide +kernel
theorem dX8_feed_28 : decode cX8_feed 28 = .ok (.aload_n 0, 1) := by decide +kernel
theorem dX8_feed_29 : decode cX8_feed 29 = .ok (.getfield 31, 3) := by decide +kernel
theorem dX8_feed_32 : decode cX8_feed 32 = .ok (.iload_n 3, 1) := by decide +kernel
theorem dX8_feed_33 : decode cX8_feed 33 = .ok (.invokevirtual 95, 3) := by decide +kernel
theorem dX8_feed_36 : decode cX8_feed 36 = .ok (.aload_n 0, 1) := by decide +kernel
theorem dX8_feed_37 : decode cX8_feed 37 = .ok (.getfield 31, 3) := by decide +kernel
theorem dX8_feed_40 : decode cX8_feed 40 = .ok (.iload 4, 2) := by decide +kernel
theorem dX8_feed_42 : decode cX8_feed 42 = .ok (.invokevirtual 95, 3) := by decide +kernel
theorem dX8_feed_45 : decode cX8_feed 45 = .ok (.aload_n 0, 1) := by decide +kernel
theorem dX8_feed_46 : decode cX8_feed 46 = .ok (.getfield 31, 3) := by decide +kernel
theorem dX8_feed_49 : decode cX8_feed 49 = .ok (.iload 5, 2) := by decide +kernel
theorem dX8_feed_51 : decode cX8_feed 51 = .ok (.invokevirtual 95, 3) := by decide +kernel
theorem dX8_feed_54 : decode cX8_feed 54 = .ok (.aload_n 0, 1) := by decide +kernel
theorem dX8_feed_55 : decode cX8_feed 55 = .ok (.getfield 31, 3) := by decide +kernel
theorem dX8_feed_58 : decode cX8_feed 58 = .ok (.getfield 98, 3) := by decide +kernel
theorem dX8_feed_61 : decode cX8_feed 61 = .ok (.ireturn, 1) := by decide +kernel
theorem dX8_end_0 : decode cX8_end 0 = .ok (.iload_n 1, 1) := by decide +kernel
theorem dX8_end_1 : decode cX8_end 1 = .ok (.iconst 0, 1) := by decide +kernel
theorem dX8_end_2 : decode cX8_end 2 = .ok (.aload_n 0, 1) := by decide +kernel
theorem dX8_end_3 : decode cX8_end 3 = .ok (.getfield 31, 3) := by decide +kernel
theorem dX8_end_6 : decode cX8_end 6 = .ok (.getfield 98, 3) := by decide +kernel
theorem dX8_end_9 : decode cX8_end 9 = .ok (.invokestatic 64, 3) := by decide +kernel
theorem dX8_end_12 : decode cX8_end 12 = .ok (.ifCond .ne 5, 3) := by decide +kernel
theorem dX8_end_15 : decode cX8_end 15 = .ok (.iconst (-1), 1) := by decide +kernel
theorem dX8_end_16 : decode cX8_end 16 = .ok (.ireturn, 1) := by decide +kernel
theorem dX8_end_17 : decode cX8_end 17 = .ok (.aload_n 0, 1) := by decide +kernel
theorem dX8_end_18 : decode cX8_end 18 = .ok (.getfield 31, 3) := by decide +kernel
theorem dX8_end_21 : decode cX8_end 21 = .ok (.iload_n 1, 1) := by decide +kernel
theorem dX8_end_22 : decode cX8_end 22 = .ok (.putfield 98, 3) := by decide +kernel
theorem dX8_end_25 : decode cX8_end 25 = .ok (.iload_n 1, 1) := by decide +kernel
theorem dX8_end_26 : decode cX8_end 26 = .ok (.ireturn, 1) := by decide +kernel
theorem dX8_law_0 : decode cX8_law 0 = .ok (.aload_n 0, 1) := by decide +kernel
theorem dX8_law_1 : decode cX8_law 1 = .ok (.getfield 45, 3) := by decide +kernel
theorem dX8_law_4 : decode cX8_law 4 = .ok (.getfield 101, 3) := by decide +kernel
theorem dX8_law_7 : decode cX8_law 7 = .ok (.bipush 20, 2) := by decide +kernel
theorem dX8_law_9 : decode cX8_law 9 = .ok (.if_icmp .lt 5, 3) := by decide +kernel
theorem dX8_law_12 : decode cX8_law 12 = .ok (.iconst (-1), 1) := by decide +kernel
theorem dX8_law_13 : decode cX8_law 13 = .ok (.ireturn, 1) := by decide +kernel
theorem dX8_law_14 : decode cX8_law 14 = .ok (.aload_n 0, 1) := by decide +kernel
theorem dX8_law_15 : decode cX8_law 15 = .ok (.getfield 38, 3) := by decide +kernel
theorem dX8_law_18 : decode cX8_law 18 = .ok (.aload_n 0, 1) := by decide +kernel
theorem dX8_law_19 : decode cX8_law 19 = .ok (.getfield 31, 3) := by decide +kernel
theorem dX8_law_22 : decode cX8_law 22 = .ok (.aload_n 0, 1) := by decide +kernel
theorem dX8_law_23 : decode cX8_law 23 = .ok (.getfield 10, 3) := by decide +kernel
theorem dX8_law_26 : decode cX8_law 26 = .ok (.invokevirtual 60, 3) := by decide +kernel
theorem dX8_law_29 : decode cX8_law 29 = .ok (.invokevirtual 104, 3) := by decide +kernel
theorem dX8_law_32 : decode cX8_law 32 = .ok (.aload_n 0, 1) := by decide +kernel
theorem dX8_law_33 : decode cX8_law 33 = .ok (.getfield 31, 3) := by decide +kernel
theorem dX8_law_36 : decode cX8_law 36 = .ok (.iconst 0, 1) := by decide +kernel
theorem dX8_law_37 : decode cX8_law 37 = .ok (.putfield 98, 3) := by decide +kernel
theorem dX8_law_40 : decode cX8_law 40 = .ok (.aload_n 0, 1) := by decide +kernel
theorem dX8_law_41 : decode cX8_law 41 = .ok (.getfield 45, 3) := by decide +kernel
theorem dX8_law_44 : decode cX8_law 44 = .ok (.aload_n 0, 1) := by decide +kernel
theorem dX8_law_45 : decode cX8_law 45 = .ok (.getfield 38, 3) := by decide +kernel
theorem dX8_law_48 : decode cX8_law 48 = .ok (.getfield 108, 3) := by decide +kernel
theorem dX8_law_51 : decode cX8_law 51 = .ok (.putfield 111, 3) := by decide +kernel
theorem dX8_law_54 : decode cX8_law 54 = .ok (.aload_n 0, 1) := by decide +kernel
theorem dX8_law_55 : decode cX8_law 55 = .ok (.getfield 38, 3) := by decide +kernel
theorem dX8_law_58 : decode cX8_law 58 = .ok (.getfield 112, 3) := by decide +kernel
theorem dX8_law_61 : decode cX8_law 61 = .ok (.ifCond .eq 13, 3) := by decide +kernel
theorem dX8_law_64 : decode cX8_law 64 = .ok (.iconst (-1), 1) := by decide +kernel
theorem dX8_law_65 : decode cX8_law 65 = .ok (.aload_n 0, 1) := by decide +kernel
theorem dX8_law_66 : decode cX8_law 66 = .ok (.getfield 38, 3) := by decide +kernel
theorem dX8_law_69 : decode cX8_law 69 = .ok (.getfield 112, 3) := by decide +kernel
theorem dX8_law_72 : decode cX8_law 72 = .ok (.isub, 1) := by decide +kernel
theorem dX8_law_73 : decode cX8_law 73 = .ok (.ireturn, 1) := by decide +kernel
theorem dX8_law_74 : decode cX8_law 74 = .ok (.aload_n 0, 1) := by decide +kernel
theorem dX8_law_75 : decode cX8_law 75 = .ok (.getfield 45, 3) := by decide +kernel
theorem dX8_law_78 : decode cX8_law 78 = .ok (.aload_n 0, 1) := by decide +kernel
theorem dX8_law_79 : decode cX8_law 79 = .ok (.getfield 38, 3) := by decide +kernel
theorem dX8_law_82 : decode cX8_law 82 = .ok (.getfield 115, 3) := by decide +kernel
theorem dX8_law_85 : decode cX8_law 85 = .ok (.invokevirtual 119, 3) := by decide +kernel
theorem dX8_law_88 : decode cX8_law 88 = .ok (.aload_n 0, 1) := by decide +kernel
theorem dX8_law_89 : decode cX8_law 89 = .ok (.getfield 45, 3) := by decide +kernel
theorem dX8_law_92 : decode cX8_law 92 = .ok (.getfield 101, 3) := by decide +kernel
theorem dX8_law_95 : decode cX8_law 95 = .ok (.iconst 1, 1) := by decide +kernel
theorem dX8_law_96 : decode cX8_law 96 = .ok (.isub, 1) := by decide +kernel
theorem dX8_law_97 : decode cX8_law 97 = .ok (.ireturn, 1) := by decide +kernel
theorem dX8_place_0 : decode cX8_place 0 = .ok (.aload_n 0, 1) := by decide +kernel
theorem dX8_place_1 : decode cX8_place 1 = .ok (.getfield 45, 3) := by decide +kernel
theorem dX8_place_4 : decode cX8_place 4 = .ok (.getfield 111, 3) := by decide +kernel
theorem dX8_place_7 : decode cX8_place 7 = .ok (.ireturn, 1) := by decide +kernel
theorem dX8_look_0 : decode cX8_look 0 = .ok (.aload_n 0, 1) := by decide +kernel
theorem dX8_look_1 : decode cX8_look 1 = .ok (.iload_n 1, 1) := by decide +kernel
theorem dX8_look_2 : decode cX8_look 2 = .ok (.invokevirtual 123, 3) := by decide +kernel
theorem dX8_look_5 : decode cX8_look 5 = .ok (.astore_n 2, 1) := by decide +kernel
theorem dX8_look_6 : decode cX8_look 6 = .ok (.aload_n 2, 1) := by decide +kernel
theorem dX8_look_7 : decode cX8_look 7 = .ok (.ifnull 10, 3) := by decide +kernel
theorem dX8_look_10 : decode cX8_look 10 = .ok (.aload_n 2, 1) := by decide +kernel
theorem dX8_look_11 : decode cX8_look 11 = .ok (.getfield 127, 3) := by decide +kernel
theorem dX8_look_14 : decode cX8_look 14 = .ok (.ifnull 5, 3) := by decide +kernel
theorem dX8_look_17 : decode cX8_look 17 = .ok (.iconst 0, 1) := by decide +kernel
theorem dX8_look_18 : decode cX8_look 18 = .ok (.ireturn, 1) := by decide +kernel
theorem dX8_look_19 : decode cX8_look 19 = .ok (.aload_n 2, 1) := by decide +kernel
theorem dX8_look_20 : decode cX8_look 20 = .ok (.aload_n 0, 1) := by decide +kernel
theorem dX8_look_21 : decode cX8_look 21 = .ok (.getfield 56, 3) := by decide +kernel
theorem dX8_look_24 : decode cX8_look 24 = .ok (.putfield 131, 3) := by decide +kernel
theorem dX8_look_27 : decode cX8_look 27 = .ok (.iconst 1, 1) := by decide +kernel
theorem dX8_look_28 : decode cX8_look 28 = .ok (.ireturn, 1) := by decide +kernel
theorem dX8_lawful_0 : decode cX8_lawful 0 = .ok (.aload_n 0, 1) := by decide +kernel
theorem dX8_lawful_1 : decode cX8_lawful 1 = .ok (.iload_n 1, 1) := by decide +kernel
theorem dX8_lawful_2 : decode cX8_lawful 2 = .ok (.invokevirtual 123, 3) := by decide +kernel
theorem dX8_lawful_5 : decode cX8_lawful 5 = .ok (.astore_n 3, 1) := by decide +kernel
theorem dX8_lawful_6 : decode cX8_lawful 6 = .ok (.aload_n 3, 1) := by decide +kernel
theorem dX8_lawful_7 : decode cX8_lawful 7 = .ok (.ifnull 11, 3) := by decide +kernel
theorem dX8_lawful_10 : decode cX8_lawful 10 = .ok (.iload_n 2, 1) := by decide +kernel
theorem dX8_lawful_11 : decode cX8_lawful 11 = .ok (.aload_n 0, 1) := by decide +kernel
theorem dX8_lawful_12 : decode cX8_lawful 12 = .ok (.getfield 56, 3) := by decide +kernel
theorem dX8_lawful_15 : decode cX8_lawful 15 = .ok (.if_icmp .ge 5, 3) := by decide +kernel
theorem dX8_lawful_18 : decode cX8_lawful 18 = .ok (.iconst (-1), 1) := by decide +kernel
theorem dX8_lawful_19 : decode cX8_lawful 19 = .ok (.ireturn, 1) := by decide +kernel
theorem dX8_lawful_20 : decode cX8_lawful 20 = .ok (.aload_n 0, 1) := by decide +kernel
theorem dX8_lawful_21 : decode cX8_lawful 21 = .ok (.getfield 45, 3) := by decide +kernel
theorem dX8_lawful_24 : decode cX8_lawful 24 = .ok (.aload_n 3, 1) := by decide +kernel
theorem dX8_lawful_25 : decode cX8_lawful 25 = .ok (.iload_n 2, 1) := by decide +kernel
theorem dX8_lawful_26 : decode cX8_lawful 26 = .ok (.invokevirtual 134, 3) := by decide +kernel
theorem dX8_lawful_29 : decode cX8_lawful 29 = .ok (.ifCond .eq 7, 3) := by decide +kernel
theorem dX8_lawful_32 : decode cX8_lawful 32 = .ok (.iconst 1, 1) := by decide +kernel
theorem dX8_lawful_33 : decode cX8_lawful 33 = .ok (.goto 4, 3) := by decide +kernel
theorem dX8_lawful_36 : decode cX8_lawful 36 = .ok (.iconst 0, 1) := by decide +kernel
theorem dX8_lawful_37 : decode cX8_lawful 37 = .ok (.ireturn, 1) := by decide +kernel
theorem dX8_ask_0 : decode cX8_ask 0 = .ok (.aload_n 0, 1) := by decide +kernel
theorem dX8_ask_1 : decode cX8_ask 1 = .ok (.iload_n 1, 1) := by decide +kernel
theorem dX8_ask_2 : decode cX8_ask 2 = .ok (.invokevirtual 138, 3) := by decide +kernel
theorem dX8_ask_5 : decode cX8_ask 5 = .ok (.astore 7, 2) := by decide +kernel
theorem dX8_ask_7 : decode cX8_ask 7 = .ok (.aload_n 0, 1) := by decide +kernel
theorem dX8_ask_8 : decode cX8_ask 8 = .ok (.iload_n 2, 1) := by decide +kernel
theorem dX8_ask_9 : decode cX8_ask 9 = .ok (.invokevirtual 77, 3) := by decide +kernel
theorem dX8_ask_12 : decode cX8_ask 12 = .ok (.astore 8, 2) := by decide +kernel
theorem dX8_ask_14 : decode cX8_ask 14 = .ok (.aload 7, 2) := by decide +kernel
theorem dX8_ask_16 : decode cX8_ask 16 = .ok (.ifnull 40, 3) := by decide +kernel
theorem dX8_ask_19 : decode cX8_ask 19 = .ok (.aload 8, 2) := by decide +kernel
theorem dX8_ask_21 : decode cX8_ask 21 = .ok (.ifnull 35, 3) := by decide +kernel
theorem dX8_ask_24 : decode cX8_ask 24 = .ok (.iload_n 3, 1) := by decide +kernel
theorem dX8_ask_25 : decode cX8_ask 25 = .ok (.iconst 0, 1) := by decide +kernel
theorem dX8_ask_26 : decode cX8_ask 26 = .ok (.sipush 255, 3) := by decide +kernel
theorem dX8_ask_29 : decode cX8_ask 29 = .ok (.invokestatic 64, 3) := by decide +kernel
theorem dX8_ask_32 : decode cX8_ask 32 = .ok (.ifCond .eq 24, 3) := by decide +kernel
theorem dX8_ask_35 : decode cX8_ask 35 = .ok (.iload 6, 2) := by decide +kernel
theorem dX8_ask_37 : decode cX8_ask 37 = .ok (.iconst 0, 1) := by decide +kernel
theorem dX8_ask_38 : decode cX8_ask 38 = .ok (.iconst 2, 1) := by decide +kernel
theorem dX8_ask_39 : decode cX8_ask 39 = .ok (.invokestatic 64, 3) := by decide +kernel
theorem dX8_ask_42 : decode cX8_ask 42 = .ok (.ifCond .eq 14, 3) := by decide +kernel
theorem dX8_ask_45 : decode cX8_ask 45 = .ok (.aload_n 0, 1) := by decide +kernel
theorem dX8_ask_46 : decode cX8_ask 46 = .ok (.iload 4, 2) := by decide +kernel
theorem dX8_ask_48 : decode cX8_ask 48 = .ok (.iload 5, 2) := by decide +kernel
theorem dX8_ask_50 : decode cX8_ask 50 = .ok (.invokevirtual 142, 3) := by decide +kernel
theorem dX8_ask_53 : decode cX8_ask 53 = .ok (.ifCond .ne 5, 3) := by decide +kernel
theorem dX8_ask_56 : decode cX8_ask 56 = .ok (.iconst (-1), 1) := by decide +kernel
theorem dX8_ask_57 : decode cX8_ask 57 = .ok (.ireturn, 1) := by decide +kernel
theorem dX8_ask_58 : decode cX8_ask 58 = .ok (.aload_n 0, 1) := by decide +kernel
theorem dX8_ask_59 : decode cX8_ask 59 = .ok (.getfield 22, 3) := by decide +kernel
theorem dX8_ask_62 : decode cX8_ask 62 = .ok (.invokevirtual 60, 3) := by decide +kernel
theorem dX8_ask_65 : decode cX8_ask 65 = .ok (.bipush 120, 2) := by decide +kernel
theorem dX8_ask_67 : decode cX8_ask 67 = .ok (.if_icmp .ge 12, 3) := by decide +kernel
theorem dX8_ask_70 : decode cX8_ask 70 = .ok (.aload_n 0, 1) := by decide +kernel
theorem dX8_ask_71 : decode cX8_ask 71 = .ok (.iconst 0, 1) := by decide +kernel
theorem dX8_ask_72 : decode cX8_ask 72 = .ok (.invokevirtual 146, 3) := by decide +kernel
theorem dX8_ask_75 : decode cX8_ask 75 = .ok (.iconst 5, 1) := by decide +kernel
theorem dX8_ask_76 : decode cX8_ask 76 = .ok (.if_icmp .lt 5, 3) := by decide +kernel
theorem dX8_ask_79 : decode cX8_ask 79 = .ok (.iconst (-1), 1) := by decide +kernel
theorem dX8_ask_80 : decode cX8_ask 80 = .ok (.ireturn, 1) := by decide +kernel
theorem dX8_ask_81 : decode cX8_ask 81 = .ok (.aload_n 0, 1) := by decide +kernel
theorem dX8_ask_82 : decode cX8_ask 82 = .ok (.getfield 22, 3) := by decide +kernel
theorem dX8_ask_85 : decode cX8_ask 85 = .ok (.new 150, 3) := by decide +kernel
theorem dX8_ask_88 : decode cX8_ask 88 = .ok (.dup, 1) := by decide +kernel
theorem dX8_ask_89 : decode cX8_ask 89 = .ok (.aload_n 0, 1) := by decide +kernel
theorem dX8_ask_90 : decode cX8_ask 90 = .ok (.getfield 22, 3) := by decide +kernel
theorem dX8_ask_93 : decode cX8_ask 93 = .ok (.invokevirtual 60, 3) := by decide +kernel
theorem dX8_ask_96 : decode cX8_ask 96 = .ok (.aload 7, 2) := by decide +kernel
theorem dX8_ask_98 : decode cX8_ask 98 = .ok (.aload 8, 2) := by decide +kernel
theorem dX8_ask_100 : decode cX8_ask 100 = .ok (.iload_n 3, 1) := by decide +kernel
theorem dX8_ask_101 : decode cX8_ask 101 = .ok (.iload 4, 2) := by decide +kernel
theorem dX8_ask_103 : decode cX8_ask 103 = .ok (.iload 5, 2) := by decide +kernel
theorem dX8_ask_105 : decode cX8_ask 105 = .ok (.iload 6, 2) := by decide +kernel
theorem dX8_ask_107 : decode cX8_ask 107 = .ok (.invokespecial 152, 3) := by decide +kernel
theorem dX8_ask_110 : decode cX8_ask 110 = .ok (.invokevirtual 73, 3) := by decide +kernel
theorem dX8_ask_113 : decode cX8_ask 113 = .ok (.pop, 1) := by decide +kernel
theorem dX8_ask_114 : decode cX8_ask 114 = .ok (.aload_n 0, 1) := by decide +kernel
theorem dX8_ask_115 : decode cX8_ask 115 = .ok (.getfield 22, 3) := by decide +kernel
theorem dX8_ask_118 : decode cX8_ask 118 = .ok (.invokevirtual 60, 3) := by decide +kernel
theorem dX8_ask_121 : decode cX8_ask 121 = .ok (.iconst 1, 1) := by decide +kernel
theorem dX8_ask_122 : decode cX8_ask 122 = .ok (.isub, 1) := by decide +kernel
theorem dX8_ask_123 : decode cX8_ask 123 = .ok (.ireturn, 1) := by decide +kernel
theorem dX8_plan_0 : decode cX8_plan 0 = .ok (.aload_n 0, 1) := by decide +kernel
theorem dX8_plan_1 : decode cX8_plan 1 = .ok (.getfield 52, 3) := by decide +kernel
theorem dX8_plan_4 : decode cX8_plan 4 = .ok (.invokevirtual 155, 3) := by decide +kernel
theorem dX8_plan_7 : decode cX8_plan 7 = .ok (.iconst 0, 1) := by decide +kernel
theorem dX8_plan_8 : decode cX8_plan 8 = .ok (.istore_n 1, 1) := by decide +kernel
theorem dX8_plan_9 : decode cX8_plan 9 = .ok (.iload_n 1, 1) := by decide +kernel
theorem dX8_plan_10 : decode cX8_plan 10 = .ok (.aload_n 0, 1) := by decide +kernel
theorem dX8_plan_11 : decode cX8_plan 11 = .ok (.getfield 22, 3) := by decide +kernel
theorem dX8_plan_14 : decode cX8_plan 14 = .ok (.invokevirtual 60, 3) := by decide +kernel
theorem dX8_plan_17 : decode cX8_plan 17 = .ok (.if_icmp .ge 36, 3) := by decide +kernel
theorem dX8_plan_20 : decode cX8_plan 20 = .ok (.aload_n 0, 1) := by decide +kernel
theorem dX8_plan_21 : decode cX8_plan 21 = .ok (.getfield 22, 3) := by decide +kernel
theorem dX8_plan_24 : decode cX8_plan 24 = .ok (.iload_n 1, 1) := by decide +kernel
theorem dX8_plan_25 : decode cX8_plan 25 = .ok (.invokevirtual 158, 3) := by decide +kernel
theorem dX8_plan_28 : decode cX8_plan 28 = .ok (.checkcast 150, 3) := by decide +kernel
theorem dX8_plan_31 : decode cX8_plan 31 = .ok (.astore_n 2, 1) := by decide +kernel
theorem dX8_plan_32 : decode cX8_plan 32 = .ok (.aload_n 2, 1) := by decide +kernel
theorem dX8_plan_33 : decode cX8_plan 33 = .ok (.getfield 162, 3) := by decide +kernel
theorem dX8_plan_36 : decode cX8_plan 36 = .ok (.ifCond .ne 11, 3) := by decide +kernel
theorem dX8_plan_39 : decode cX8_plan 39 = .ok (.aload_n 0, 1) := by decide +kernel
theorem dX8_plan_40 : decode cX8_plan 40 = .ok (.getfield 52, 3) := by decide +kernel
theorem dX8_plan_43 : decode cX8_plan 43 = .ok (.aload_n 2, 1) := by decide +kernel
theorem dX8_plan_44 : decode cX8_plan 44 = .ok (.invokevirtual 165, 3) := by decide +kernel
theorem dX8_plan_47 : decode cX8_plan 47 = .ok (.iinc 1 1, 3) := by decide +kernel
theorem dX8_plan_50 : decode cX8_plan 50 = .ok (.goto (-41), 3) := by decide +kernel
theorem dX8_plan_53 : decode cX8_plan 53 = .ok (.iconst 0, 1) := by decide +kernel
theorem dX8_plan_54 : decode cX8_plan 54 = .ok (.istore_n 1, 1) := by decide +kernel
theorem dX8_plan_55 : decode cX8_plan 55 = .ok (.iload_n 1, 1) := by decide +kernel
theorem dX8_plan_56 : decode cX8_plan 56 = .ok (.aload_n 0, 1) := by decide +kernel
theorem dX8_plan_57 : decode cX8_plan 57 = .ok (.getfield 16, 3) := by decide +kernel
theorem dX8_plan_60 : decode cX8_plan 60 = .ok (.invokevirtual 60, 3) := by decide +kernel
theorem dX8_plan_63 : decode cX8_plan 63 = .ok (.if_icmp .ge 34, 3) := by decide +kernel
theorem dX8_plan_66 : decode cX8_plan 66 = .ok (.aload_n 0, 1) := by decide +kernel
theorem dX8_plan_67 : decode cX8_plan 67 = .ok (.getfield 16, 3) := by decide +kernel
theorem dX8_plan_70 : decode cX8_plan 70 = .ok (.iload_n 1, 1) := by decide +kernel
theorem dX8_plan_71 : decode cX8_plan 71 = .ok (.invokevirtual 158, 3) := by decide +kernel
theorem dX8_plan_74 : decode cX8_plan 74 = .ok (.checkcast 81, 3) := by decide +kernel
theorem dX8_plan_77 : decode cX8_plan 77 = .ok (.astore_n 2, 1) := by decide +kernel
theorem dX8_plan_78 : decode cX8_plan 78 = .ok (.aload_n 0, 1) := by decide +kernel
theorem dX8_plan_79 : decode cX8_plan 79 = .ok (.getfield 52, 3) := by decide +kernel
theorem dX8_plan_82 : decode cX8_plan 82 = .ok (.aload_n 2, 1) := by decide +kernel
theorem dX8_plan_83 : decode cX8_plan 83 = .ok (.aload_n 0, 1) := by decide +kernel
theorem dX8_plan_84 : decode cX8_plan 84 = .ok (.aload_n 2, 1) := by decide +kernel
theorem dX8_plan_85 : decode cX8_plan 85 = .ok (.invokevirtual 168, 3) := by decide +kernel
theorem dX8_plan_88 : decode cX8_plan 88 = .ok (.invokevirtual 172, 3) := by decide +kernel
theorem dX8_plan_91 : decode cX8_plan 91 = .ok (.iinc 1 1, 3) := by decide +kernel
theorem dX8_plan_94 : decode cX8_plan 94 = .ok (.goto (-39), 3) := by decide +kernel
theorem dX8_plan_97 : decode cX8_plan 97 = .ok (.aload_n 0, 1) := by decide +kernel
theorem dX8_plan_98 : decode cX8_plan 98 = .ok (.invokevirtual 176, 3) := by decide +kernel
theorem dX8_plan_101 : decode cX8_plan 101 = .ok (.ireturn, 1) := by decide +kernel
theorem dX8_off_0 : decode cX8_off 0 = .ok (.aload_n 0, 1) := by decide +kernel
theorem dX8_off_1 : decode cX8_off 1 = .ok (.iload_n 1, 1) := by decide +kernel
theorem dX8_off_2 : decode cX8_off 2 = .ok (.invokevirtual 179, 3) := by decide +kernel
theorem dX8_off_5 : decode cX8_off 5 = .ok (.astore_n 2, 1) := by decide +kernel
theorem dX8_off_6 : decode cX8_off 6 = .ok (.aload_n 2, 1) := by decide +kernel
theorem dX8_off_7 : decode cX8_off 7 = .ok (.ifnull 18, 3) := by decide +kernel
theorem dX8_off_10 : decode cX8_off 10 = .ok (.aload_n 2, 1) := by decide +kernel
theorem dX8_off_11 : decode cX8_off 11 = .ok (.getfield 162, 3) := by decide +kernel
theorem dX8_off_14 : decode cX8_off 14 = .ok (.ifCond .eq 13, 3) := by decide +kernel
theorem dX8_off_17 : decode cX8_off 17 = .ok (.aload_n 2, 1) := by decide +kernel
theorem dX8_off_18 : decode cX8_off 18 = .ok (.getfield 162, 3) := by decide +kernel
theorem dX8_off_21 : decode cX8_off 21 = .ok (.iconst 1, 1) := by decide +kernel
theorem dX8_off_22 : decode cX8_off 22 = .ok (.if_icmp .eq 5, 3) := by decide +kernel
theorem dX8_off_25 : decode cX8_off 25 = .ok (.iconst 0, 1) := by decide +kernel
theorem dX8_off_26 : decode cX8_off 26 = .ok (.ireturn, 1) := by decide +kernel
theorem dX8_off_27 : decode cX8_off 27 = .ok (.aload_n 2, 1) := by decide +kernel
theorem dX8_off_28 : decode cX8_off 28 = .ok (.bipush 6, 2) := by decide +kernel
theorem dX8_off_30 : decode cX8_off 30 = .ok (.putfield 162, 3) := by decide +kernel
theorem dX8_off_33 : decode cX8_off 33 = .ok (.iconst 1, 1) := by decide +kernel
theorem dX8_off_34 : decode cX8_off 34 = .ok (.ireturn, 1) := by decide +kernel
theorem dX8_out_0 : decode cX8_out 0 = .ok (.aload_n 0, 1) := by decide +kernel
theorem dX8_out_1 : decode cX8_out 1 = .ok (.iload_n 1, 1) := by decide +kernel
theorem dX8_out_2 : decode cX8_out 2 = .ok (.invokevirtual 179, 3) := by decide +kernel
theorem dX8_out_5 : decode cX8_out 5 = .ok (.astore_n 2, 1) := by decide +kernel
theorem dX8_out_6 : decode cX8_out 6 = .ok (.aload_n 2, 1) := by decide +kernel
theorem dX8_out_7 : decode cX8_out 7 = .ok (.ifnull 18, 3) := by decide +kernel
theorem dX8_out_10 : decode cX8_out 10 = .ok (.aload_n 2, 1) := by decide +kernel
theorem dX8_out_11 : decode cX8_out 11 = .ok (.getfield 162, 3) := by decide +kernel
theorem dX8_out_14 : decode cX8_out 14 = .ok (.iconst 1, 1) := by decide +kernel
theorem dX8_out_15 : decode cX8_out 15 = .ok (.if_icmp .ne 10, 3) := by decide +kernel
theorem dX8_out_18 : decode cX8_out 18 = .ok (.aload_n 2, 1) := by decide +kernel
theorem dX8_out_19 : decode cX8_out 19 = .ok (.getfield 183, 3) := by decide +kernel
theorem dX8_out_22 : decode cX8_out 22 = .ok (.ifnonnull 5, 3) := by decide +kernel
theorem dX8_out_25 : decode cX8_out 25 = .ok (.iconst (-1), 1) := by decide +kernel
theorem dX8_out_26 : decode cX8_out 26 = .ok (.ireturn, 1) := by decide +kernel
theorem dX8_out_27 : decode cX8_out 27 = .ok (.aload_n 0, 1) := by decide +kernel
theorem dX8_out_28 : decode cX8_out 28 = .ok (.aload_n 2, 1) := by decide +kernel
theorem dX8_out_29 : decode cX8_out 29 = .ok (.aload_n 2, 1) := by decide +kernel
theorem dX8_out_30 : decode cX8_out 30 = .ok (.getfield 183, 3) := by decide +kernel
theorem dX8_out_33 : decode cX8_out 33 = .ok (.invokevirtual 187, 3) := by decide +kernel
theorem dX8_out_36 : decode cX8_out 36 = .ok (.istore_n 3, 1) := by decide +kernel
theorem dX8_out_37 : decode cX8_out 37 = .ok (.iload_n 3, 1) := by decide +kernel
theorem dX8_out_38 : decode cX8_out 38 = .ok (.ifCond .eq 5, 3) := by decide +kernel
theorem dX8_out_41 : decode cX8_out 41 = .ok (.iload_n 3, 1) := by decide +kernel
theorem dX8_out_42 : decode cX8_out 42 = .ok (.ireturn, 1) := by decide +kernel
theorem dX8_out_43 : decode cX8_out 43 = .ok (.aload_n 2, 1) := by decide +kernel
theorem dX8_out_44 : decode cX8_out 44 = .ok (.iconst 3, 1) := by decide +kernel
theorem dX8_out_45 : decode cX8_out 45 = .ok (.putfield 162, 3) := by decide +kernel
theorem dX8_out_48 : decode cX8_out 48 = .ok (.aload_n 2, 1) := by decide +kernel
theorem dX8_out_49 : decode cX8_out 49 = .ok (.getfield 183, 3) := by decide +kernel
theorem dX8_out_52 : decode cX8_out 52 = .ok (.aload_n 2, 1) := by decide +kernel
theorem dX8_out_53 : decode cX8_out 53 = .ok (.putfield 127, 3) := by decide +kernel
theorem dX8_out_56 : decode cX8_out 56 = .ok (.aload_n 2, 1) := by decide +kernel
theorem dX8_out_57 : decode cX8_out 57 = .ok (.getfield 191, 3) := by decide +kernel
theorem dX8_out_60 : decode cX8_out 60 = .ok (.dup, 1) := by decide +kernel
theorem dX8_out_61 : decode cX8_out 61 = .ok (.getfield 195, 3) := by decide +kernel
theorem dX8_out_64 : decode cX8_out 64 = .ok (.iconst 1, 1) := by decide +kernel
theorem dX8_out_65 : decode cX8_out 65 = .ok (.iadd, 1) := by decide +kernel
theorem dX8_out_66 : decode cX8_out 66 = .ok (.putfield 195, 3) := by decide +kernel
theorem dX8_out_69 : decode cX8_out 69 = .ok (.iconst 0, 1) := by decide +kernel
theorem dX8_out_70 : decode cX8_out 70 = .ok (.ireturn, 1) := by decide +kernel
theorem dX8_back_0 : decode cX8_back 0 = .ok (.aload_n 0, 1) := by decide +kernel
theorem dX8_back_1 : decode cX8_back 1 = .ok (.iload_n 1, 1) := by decide +kernel
theorem dX8_back_2 : decode cX8_back 2 = .ok (.invokevirtual 179, 3) := by decide +kernel
theorem dX8_back_5 : decode cX8_back 5 = .ok (.astore_n 2, 1) := by decide +kernel
theorem dX8_back_6 : decode cX8_back 6 = .ok (.aload_n 2, 1) := by decide +kernel
theorem dX8_back_7 : decode cX8_back 7 = .ok (.ifnull 18, 3) := by decide +kernel
theorem dX8_back_10 : decode cX8_back 10 = .ok (.aload_n 2, 1) := by decide +kernel
theorem dX8_back_11 : decode cX8_back 11 = .ok (.getfield 162, 3) := by decide +kernel
theorem dX8_back_14 : decode cX8_back 14 = .ok (.iconst 3, 1) := by decide +kernel
theorem dX8_back_15 : decode cX8_back 15 = .ok (.if_icmp .ne 10, 3) := by decide +kernel
theorem dX8_back_18 : decode cX8_back 18 = .ok (.aload_n 2, 1) := by decide +kernel
theorem dX8_back_19 : decode cX8_back 19 = .ok (.getfield 183, 3) := by decide +kernel
theorem dX8_back_22 : decode cX8_back 22 = .ok (.ifnonnull 5, 3) := by decide +kernel
theorem dX8_back_25 : decode cX8_back 25 = .ok (.iconst (-1), 1) := by decide +kernel
theorem dX8_back_26 : decode cX8_back 26 = .ok (.ireturn, 1) := by decide +kernel
theorem dX8_back_27 : decode cX8_back 27 = .ok (.iconst 0, 1) := by decide +kernel
theorem dX8_back_28 : decode cX8_back 28 = .ok (.aload_n 0, 1) := by decide +kernel
theorem dX8_back_29 : decode cX8_back 29 = .ok (.getfield 56, 3) := by decide +kernel
theorem dX8_back_32 : decode cX8_back 32 = .ok (.aload_n 2, 1) := by decide +kernel
theorem dX8_back_33 : decode cX8_back 33 = .ok (.getfield 198, 3) := by decide +kernel
theorem dX8_back_36 : decode cX8_back 36 = .ok (.isub, 1) := by decide +kernel
theorem dX8_back_37 : decode cX8_back 37 = .ok (.invokestatic 201, 3) := by decide +kernel
theorem dX8_back_40 : decode cX8_back 40 = .ok (.istore_n 3, 1) := by decide +kernel
theorem dX8_back_41 : decode cX8_back 41 = .ok (.aload_n 2, 1) := by decide +kernel
theorem dX8_back_42 : decode cX8_back 42 = .ok (.getfield 191, 3) := by decide +kernel
theorem dX8_back_45 : decode cX8_back 45 = .ok (.aload_n 2, 1) := by decide +kernel
theorem dX8_back_46 : decode cX8_back 46 = .ok (.getfield 198, 3) := by decide +kernel
theorem dX8_back_49 : decode cX8_back 49 = .ok (.aload_n 2, 1) := by decide +kernel
theorem dX8_back_50 : decode cX8_back 50 = .ok (.getfield 207, 3) := by decide +kernel
theorem dX8_back_53 : decode cX8_back 53 = .ok (.isub, 1) := by decide +kernel
theorem dX8_back_54 : decode cX8_back 54 = .ok (.iconst 1, 1) := by decide +kernel
theorem dX8_back_55 : decode cX8_back 55 = .ok (.iadd, 1) := by decide +kernel
theorem dX8_back_56 : decode cX8_back 56 = .ok (.iconst 2, 1) := by decide +kernel
theorem dX8_back_57 : decode cX8_back 57 = .ok (.iload_n 3, 1) := by decide +kernel
theorem dX8_back_58 : decode cX8_back 58 = .ok (.imul, 1) := by decide +kernel
theorem dX8_back_59 : decode cX8_back 59 = .ok (.iadd, 1) := by decide +kernel
theorem dX8_back_60 : decode cX8_back 60 = .ok (.aload_n 2, 1) := by decide +kernel
theorem dX8_back_61 : decode cX8_back 61 = .ok (.getfield 183, 3) := by decide +kernel
theorem dX8_back_64 : decode cX8_back 64 = .ok (.getfield 210, 3) := by decide +kernel
theorem dX8_back_67 : decode cX8_back 67 = .ok (.getfield 214, 3) := by decide +kernel
theorem dX8_back_70 : decode cX8_back 70 = .ok (.invokevirtual 217, 3) := by decide +kernel
theorem dX8_back_73 : decode cX8_back 73 = .ok (.aload_n 2, 1) := by decide +kernel
theorem dX8_back_74 : decode cX8_back 74 = .ok (.getfield 191, 3) := by decide +kernel
theorem dX8_back_77 : decode cX8_back 77 = .ok (.dup, 1) := by decide +kernel
theorem dX8_back_78 : decode cX8_back 78 = .ok (.getfield 195, 3) := by decide +kernel
theorem dX8_back_81 : decode cX8_back 81 = .ok (.iconst 1, 1) := by decide +kernel
theorem dX8_back_82 : decode cX8_back 82 = .ok (.isub, 1) := by decide +kernel
theorem dX8_back_83 : decode cX8_back 83 = .ok (.putfield 195, 3) := by decide +kernel
theorem dX8_back_86 : decode cX8_back 86 = .ok (.aload_n 2, 1) := by decide +kernel
theorem dX8_back_87 : decode cX8_back 87 = .ok (.getfield 183, 3) := by decide +kernel
theorem dX8_back_90 : decode cX8_back 90 = .ok (.aconst_null, 1) := by decide +kernel
theorem dX8_back_91 : decode cX8_back 91 = .ok (.putfield 127, 3) := by decide +kernel
theorem dX8_back_94 : decode cX8_back 94 = .ok (.aload_n 2, 1) := by decide +kernel
theorem dX8_back_95 : decode cX8_back 95 = .ok (.getfield 183, 3) := by decide +kernel
theorem dX8_back_98 : decode cX8_back 98 = .ok (.aload_n 0, 1) := by decide +kernel
theorem dX8_back_99 : decode cX8_back 99 = .ok (.getfield 56, 3) := by decide +kernel
theorem dX8_back_102 : decode cX8_back 102 = .ok (.putfield 221, 3) := by decide +kernel
theorem dX8_back_105 : decode cX8_back 105 = .ok (.aload_n 2, 1) := by decide +kernel
theorem dX8_back_106 : decode cX8_back 106 = .ok (.iconst 4, 1) := by decide +kernel
theorem dX8_back_107 : decode cX8_back 107 = .ok (.putfield 162, 3) := by decide +kernel
theorem dX8_back_110 : decode cX8_back 110 = .ok (.aload_n 2, 1) := by decide +kernel
theorem dX8_back_111 : decode cX8_back 111 = .ok (.aload_n 0, 1) := by decide +kernel
theorem dX8_back_112 : decode cX8_back 112 = .ok (.getfield 56, 3) := by decide +kernel
theorem dX8_back_115 : decode cX8_back 115 = .ok (.putfield 224, 3) := by decide +kernel
theorem dX8_back_118 : decode cX8_back 118 = .ok (.iload_n 3, 1) := by decide +kernel
theorem dX8_back_119 : decode cX8_back 119 = .ok (.ireturn, 1) := by decide +kernel
theorem dX8_work_0 : decode cX8_work 0 = .ok (.aload_n 0, 1) := by decide +kernel
theorem dX8_work_1 : decode cX8_work 1 = .ok (.iload_n 1, 1) := by decide +kernel
theorem dX8_work_2 : decode cX8_work 2 = .ok (.invokevirtual 138, 3) := by decide +kernel
theorem dX8_work_5 : decode cX8_work 5 = .ok (.astore_n 3, 1) := by decide +kernel
theorem dX8_work_6 : decode cX8_work 6 = .ok (.aload_n 3, 1) := by decide +kernel
theorem dX8_work_7 : decode cX8_work 7 = .ok (.ifnull 13, 3) := by decide +kernel
theorem dX8_work_10 : decode cX8_work 10 = .ok (.iload_n 2, 1) := by decide +kernel
theorem dX8_work_11 : decode cX8_work 11 = .ok (.iconst 1, 1) := by decide +kernel
theorem dX8_work_12 : decode cX8_work 12 = .ok (.bipush 100, 2) := by decide +kernel
theorem dX8_work_14 : decode cX8_work 14 = .ok (.invokestatic 64, 3) := by decide +kernel
theorem dX8_work_17 : decode cX8_work 17 = .ok (.ifCond .ne 5, 3) := by decide +kernel
theorem dX8_work_20 : decode cX8_work 20 = .ok (.iconst (-1), 1) := by decide +kernel
theorem dX8_work_21 : decode cX8_work 21 = .ok (.ireturn, 1) := by decide +kernel
theorem dX8_work_22 : decode cX8_work 22 = .ok (.aload_n 3, 1) := by decide +kernel
theorem dX8_work_23 : decode cX8_work 23 = .ok (.iconst 0, 1) := by decide +kernel
theorem dX8_work_24 : decode cX8_work 24 = .ok (.aload_n 3, 1) := by decide +kernel
theorem dX8_work_25 : decode cX8_work 25 = .ok (.getfield 227, 3) := by decide +kernel
theorem dX8_work_28 : decode cX8_work 28 = .ok (.iload_n 2, 1) := by decide +kernel
theorem dX8_work_29 : decode cX8_work 29 = .ok (.isub, 1) := by decide +kernel
theorem dX8_work_30 : decode cX8_work 30 = .ok (.invokestatic 201, 3) := by decide +kernel
theorem dX8_work_33 : decode cX8_work 33 = .ok (.putfield 227, 3) := by decide +kernel
theorem dX8_work_36 : decode cX8_work 36 = .ok (.aload_n 3, 1) := by decide +kernel
theorem dX8_work_37 : decode cX8_work 37 = .ok (.getfield 227, 3) := by decide +kernel
theorem dX8_work_40 : decode cX8_work 40 = .ok (.ireturn, 1) := by decide +kernel
theorem dX8_days_0 : decode cX8_days 0 = .ok (.iload_n 1, 1) := by decide +kernel
theorem dX8_days_1 : decode cX8_days 1 = .ok (.iconst 1, 1) := by decide +kernel
theorem dX8_days_2 : decode cX8_days 2 = .ok (.bipush 60, 2) := by decide +kernel
theorem dX8_days_4 : decode cX8_days 4 = .ok (.invokestatic 64, 3) := by decide +kernel
theorem dX8_days_7 : decode cX8_days 7 = .ok (.ifCond .eq 15, 3) := by decide +kernel
theorem dX8_days_10 : decode cX8_days 10 = .ok (.aload_n 0, 1) := by decide +kernel
theorem dX8_days_11 : decode cX8_days 11 = .ok (.getfield 56, 3) := by decide +kernel
theorem dX8_days_14 : decode cX8_days 14 = .ok (.iload_n 1, 1) := by decide +kernel
theorem dX8_days_15 : decode cX8_days 15 = .ok (.iadd, 1) := by decide +kernel
theorem dX8_days_16 : decode cX8_days 16 = .ok (.sipush 5000, 3) := by decide +kernel
theorem dX8_days_19 : decode cX8_days 19 = .ok (.if_icmp .le 5, 3) := by decide +kernel
theorem dX8_days_22 : decode cX8_days 22 = .ok (.iconst (-1), 1) := by decide +kernel
theorem dX8_days_23 : decode cX8_days 23 = .ok (.ireturn, 1) := by decide +kernel
theorem dX8_days_24 : decode cX8_days 24 = .ok (.iconst 0, 1) := by decide +kernel
theorem dX8_days_25 : decode cX8_days 25 = .ok (.istore_n 2, 1) := by decide +kernel
theorem dX8_days_26 : decode cX8_days 26 = .ok (.iload_n 2, 1) := by decide +kernel
theorem dX8_days_27 : decode cX8_days 27 = .ok (.iload_n 1, 1) := by decide +kernel
theorem dX8_days_28 : decode cX8_days 28 = .ok (.if_icmp .ge 27, 3) := by decide +kernel
theorem dX8_days_31 : decode cX8_days 31 = .ok (.aload_n 0, 1) := by decide +kernel
theorem dX8_days_32 : decode cX8_days 32 = .ok (.dup, 1) := by decide +kernel
theorem dX8_days_33 : decode cX8_days 33 = .ok (.getfield 56, 3) := by decide +kernel
theorem dX8_days_36 : decode cX8_days 36 = .ok (.iconst 1, 1) := by decide +kernel
theorem dX8_days_37 : decode cX8_days 37 = .ok (.iadd, 1) := by decide +kernel
theorem dX8_days_38 : decode cX8_days 38 = .ok (.putfield 56, 3) := by decide +kernel
theorem dX8_days_41 : decode cX8_days 41 = .ok (.aload_n 0, 1) := by decide +kernel
theorem dX8_days_42 : decode cX8_days 42 = .ok (.invokevirtual 230, 3) := by decide +kernel
theorem dX8_days_45 : decode cX8_days 45 = .ok (.aload_n 0, 1) := by decide +kernel
theorem dX8_days_46 : decode cX8_days 46 = .ok (.invokevirtual 233, 3) := by decide +kernel
theorem dX8_days_49 : decode cX8_days 49 = .ok (.iinc 2 1, 3) := by decide +kernel
theorem dX8_days_52 : decode cX8_days 52 = .ok (.goto (-26), 3) := by decide +kernel
theorem dX8_days_55 : decode cX8_days 55 = .ok (.aload_n 0, 1) := by decide +kernel
theorem dX8_days_56 : decode cX8_days 56 = .ok (.getfield 56, 3) := by decide +kernel
theorem dX8_days_59 : decode cX8_days 59 = .ok (.ireturn, 1) := by decide +kernel
theorem dX8_buy_0 : decode cX8_buy 0 = .ok (.aload_n 0, 1) := by decide +kernel
theorem dX8_buy_1 : decode cX8_buy 1 = .ok (.iload_n 1, 1) := by decide +kernel
theorem dX8_buy_2 : decode cX8_buy 2 = .ok (.invokevirtual 77, 3) := by decide +kernel
theorem dX8_buy_5 : decode cX8_buy 5 = .ok (.astore_n 2, 1) := by decide +kernel
theorem dX8_buy_6 : decode cX8_buy 6 = .ok (.aload_n 2, 1) := by decide +kernel
theorem dX8_buy_7 : decode cX8_buy 7 = .ok (.ifnonnull 5, 3) := by decide +kernel
theorem dX8_buy_10 : decode cX8_buy 10 = .ok (.iconst (-1), 1) := by decide +kernel
theorem dX8_buy_11 : decode cX8_buy 11 = .ok (.ireturn, 1) := by decide +kernel
theorem dX8_buy_12 : decode cX8_buy 12 = .ok (.iconst 0, 1) := by decide +kernel
theorem dX8_buy_13 : decode cX8_buy 13 = .ok (.istore_n 3, 1) := by decide +kernel
theorem dX8_buy_14 : decode cX8_buy 14 = .ok (.iconst 0, 1) := by decide +kernel
theorem dX8_buy_15 : decode cX8_buy 15 = .ok (.istore 4, 2) := by decide +kernel
theorem dX8_buy_17 : decode cX8_buy 17 = .ok (.iconst 0, 1) := by decide +kernel
theorem dX8_buy_18 : decode cX8_buy 18 = .ok (.istore 5, 2) := by decide +kernel
theorem dX8_buy_20 : decode cX8_buy 20 = .ok (.iload 5, 2) := by decide +kernel
theorem dX8_buy_22 : decode cX8_buy 22 = .ok (.aload_n 0, 1) := by decide +kernel
theorem dX8_buy_23 : decode cX8_buy 23 = .ok (.getfield 25, 3) := by decide +kernel
theorem dX8_buy_26 : decode cX8_buy 26 = .ok (.invokevirtual 60, 3) := by decide +kernel
theorem dX8_buy_29 : decode cX8_buy 29 = .ok (.if_icmp .ge 59, 3) := by decide +kernel
theorem dX8_buy_32 : decode cX8_buy 32 = .ok (.aload_n 0, 1) := by decide +kernel
theorem dX8_buy_33 : decode cX8_buy 33 = .ok (.getfield 25, 3) := by decide +kernel
theorem dX8_buy_36 : decode cX8_buy 36 = .ok (.iload 5, 2) := by decide +kernel
theorem dX8_buy_38 : decode cX8_buy 38 = .ok (.invokevirtual 158, 3) := by decide +kernel
theorem dX8_buy_41 : decode cX8_buy 41 = .ok (.checkcast 150, 3) := by decide +kernel
theorem dX8_buy_44 : decode cX8_buy 44 = .ok (.astore 6, 2) := by decide +kernel
theorem dX8_buy_46 : decode cX8_buy 46 = .ok (.aload 6, 2) := by decide +kernel
theorem dX8_buy_48 : decode cX8_buy 48 = .ok (.getfield 207, 3) := by decide +kernel
theorem dX8_buy_51 : decode cX8_buy 51 = .ok (.iload 4, 2) := by decide +kernel
theorem dX8_buy_53 : decode cX8_buy 53 = .ok (.if_icmp .lt 29, 3) := by decide +kernel
theorem dX8_buy_56 : decode cX8_buy 56 = .ok (.aload_n 2, 1) := by decide +kernel
theorem dX8_buy_57 : decode cX8_buy 57 = .ok (.aload 6, 2) := by decide +kernel
theorem dX8_buy_59 : decode cX8_buy 59 = .ok (.invokevirtual 236, 3) := by decide +kernel
theorem dX8_buy_62 : decode cX8_buy 62 = .ok (.ifCond .eq 20, 3) := by decide +kernel
theorem dX8_buy_65 : decode cX8_buy 65 = .ok (.iinc 3 1, 3) := by decide +kernel
theorem dX8_buy_68 : decode cX8_buy 68 = .ok (.aload 6, 2) := by decide +kernel
theorem dX8_buy_70 : decode cX8_buy 70 = .ok (.getfield 198, 3) := by decide +kernel
theorem dX8_buy_73 : decode cX8_buy 73 = .ok (.aload_n 2, 1) := by decide +kernel
theorem dX8_buy_74 : decode cX8_buy 74 = .ok (.getfield 240, 3) := by decide +kernel
theorem dX8_buy_77 : decode cX8_buy 77 = .ok (.iadd, 1) := by decide +kernel
theorem dX8_buy_78 : decode cX8_buy 78 = .ok (.iconst 1, 1) := by decide +kernel
theorem dX8_buy_79 : decode cX8_buy 79 = .ok (.iadd, 1) := by decide +kernel
theorem dX8_buy_80 : decode cX8_buy 80 = .ok (.istore 4, 2) := by decide +kernel
theorem dX8_buy_82 : decode cX8_buy 82 = .ok (.iinc 5 1, 3) := by decide +kernel
theorem dX8_buy_85 : decode cX8_buy 85 = .ok (.goto (-65), 3) := by decide +kernel
theorem dX8_buy_88 : decode cX8_buy 88 = .ok (.iload_n 3, 1) := by decide +kernel
theorem dX8_buy_89 : decode cX8_buy 89 = .ok (.ireturn, 1) := by decide +kernel
theorem dX8_of_0 : decode cX8_of 0 = .ok (.aload_n 0, 1) := by decide +kernel
theorem dX8_of_1 : decode cX8_of 1 = .ok (.iload_n 1, 1) := by decide +kernel
theorem dX8_of_2 : decode cX8_of 2 = .ok (.invokevirtual 179, 3) := by decide +kernel
theorem dX8_of_5 : decode cX8_of 5 = .ok (.astore_n 3, 1) := by decide +kernel
theorem dX8_of_6 : decode cX8_of 6 = .ok (.aload_n 3, 1) := by decide +kernel
theorem dX8_of_7 : decode cX8_of 7 = .ok (.ifnonnull 13, 3) := by decide +kernel
theorem dX8_of_10 : decode cX8_of 10 = .ok (.new 243, 3) := by decide +kernel
theorem dX8_of_13 : decode cX8_of 13 = .ok (.dup, 1) := by decide +kernel
theorem dX8_of_14 : decode cX8_of 14 = .ok (.ldc 245, 2) := by decide +kernel
theorem dX8_of_16 : decode cX8_of 16 = .ok (.invokespecial 247, 3) := by decide +kernel
theorem dX8_of_19 : decode cX8_of 19 = .ok (.athrow, 1) := by decide +kernel
theorem dX8_of_20 : decode cX8_of 20 = .ok (.iload_n 2, 1) := by decide +kernel
theorem dX8_of_21 : decode cX8_of 21 = .ok (.tableswitch 142 0 8 #[51, 56, 75, 80, 88, 96, 101, 106, 111], 51) := by decide +kernel
theorem dX8_of_72 : decode cX8_of 72 = .ok (.aload_n 3, 1) := by decide +kernel
theorem dX8_of_73 : decode cX8_of 73 = .ok (.getfield 162, 3) := by decide +kernel
theorem dX8_of_76 : decode cX8_of 76 = .ok (.ireturn, 1) := by decide +kernel
theorem dX8_of_77 : decode cX8_of 77 = .ok (.aload_n 3, 1) := by decide +kernel
theorem dX8_of_78 : decode cX8_of 78 = .ok (.getfield 183, 3) := by decide +kernel
theorem dX8_of_81 : decode cX8_of 81 = .ok (.ifnonnull 7, 3) := by decide +kernel
theorem dX8_of_84 : decode cX8_of 84 = .ok (.iconst (-1), 1) := by decide +kernel
theorem dX8_of_85 : decode cX8_of 85 = .ok (.goto 10, 3) := by decide +kernel
theorem dX8_of_88 : decode cX8_of 88 = .ok (.aload_n 3, 1) := by decide +kernel
theorem dX8_of_89 : decode cX8_of 89 = .ok (.getfield 183, 3) := by decide +kernel
theorem dX8_of_92 : decode cX8_of 92 = .ok (.getfield 250, 3) := by decide +kernel
theorem dX8_of_95 : decode cX8_of 95 = .ok (.ireturn, 1) := by decide +kernel
theorem dX8_of_96 : decode cX8_of 96 = .ok (.aload_n 3, 1) := by decide +kernel
theorem dX8_of_97 : decode cX8_of 97 = .ok (.getfield 253, 3) := by decide +kernel
theorem dX8_of_100 : decode cX8_of 100 = .ok (.ireturn, 1) := by decide +kernel
theorem dX8_of_101 : decode cX8_of 101 = .ok (.aload_n 3, 1) := by decide +kernel
theorem dX8_of_102 : decode cX8_of 102 = .ok (.getfield 191, 3) := by decide +kernel
theorem dX8_of_105 : decode cX8_of 105 = .ok (.getfield 256, 3) := by decide +kernel
theorem dX8_of_108 : decode cX8_of 108 = .ok (.ireturn, 1) := by decide +kernel
theorem dX8_of_109 : decode cX8_of 109 = .ok (.aload_n 3, 1) := by decide +kernel
theorem dX8_of_110 : decode cX8_of 110 = .ok (.getfield 257, 3) := by decide +kernel
theorem dX8_of_113 : decode cX8_of 113 = .ok (.getfield 258, 3) := by decide +kernel
theorem dX8_of_116 : decode cX8_of 116 = .ok (.ireturn, 1) := by decide +kernel
theorem dX8_of_117 : decode cX8_of 117 = .ok (.aload_n 3, 1) := by decide +kernel
theorem dX8_of_118 : decode cX8_of 118 = .ok (.getfield 207, 3) := by decide +kernel
theorem dX8_of_121 : decode cX8_of 121 = .ok (.ireturn, 1) := by decide +kernel
theorem dX8_of_122 : decode cX8_of 122 = .ok (.aload_n 3, 1) := by decide +kernel
theorem dX8_of_123 : decode cX8_of 123 = .ok (.getfield 198, 3) := by decide +kernel
theorem dX8_of_126 : decode cX8_of 126 = .ok (.ireturn, 1) := by decide +kernel
theorem dX8_of_127 : decode cX8_of 127 = .ok (.aload_n 3, 1) := by decide +kernel
theorem dX8_of_128 : decode cX8_of 128 = .ok (.getfield 259, 3) := by decide +kernel
theorem dX8_of_131 : decode cX8_of 131 = .ok (.ireturn, 1) := by decide +kernel
theorem dX8_of_132 : decode cX8_of 132 = .ok (.aload_n 3, 1) := by decide +kernel
theorem dX8_of_133 : decode cX8_of 133 = .ok (.getfield 183, 3) := by decide +kernel
theorem dX8_of_136 : decode cX8_of 136 = .ok (.ifnonnull 7, 3) := by decide +kernel
theorem dX8_of_139 : decode cX8_of 139 = .ok (.iconst (-1), 1) := by decide +kernel
theorem dX8_of_140 : decode cX8_of 140 = .ok (.goto 22, 3) := by decide +kernel
theorem dX8_of_143 : decode cX8_of 143 = .ok (.aload_n 3, 1) := by decide +kernel
theorem dX8_of_144 : decode cX8_of 144 = .ok (.getfield 183, 3) := by decide +kernel
theorem dX8_of_147 : decode cX8_of 147 = .ok (.getfield 210, 3) := by decide +kernel
theorem dX8_of_150 : decode cX8_of 150 = .ok (.aload_n 3, 1) := by decide +kernel
theorem dX8_of_151 : decode cX8_of 151 = .ok (.getfield 257, 3) := by decide +kernel
theorem dX8_of_154 : decode cX8_of 154 = .ok (.if_acmp .ne 7, 3) := by decide +kernel
theorem dX8_of_157 : decode cX8_of 157 = .ok (.iconst 0, 1) := by decide +kernel
theorem dX8_of_158 : decode cX8_of 158 = .ok (.goto 4, 3) := by decide +kernel
theorem dX8_of_161 : decode cX8_of 161 = .ok (.iconst 1, 1) := by decide +kernel
theorem dX8_of_162 : decode cX8_of 162 = .ok (.ireturn, 1) := by decide +kernel
theorem dX8_of_163 : decode cX8_of 163 = .ok (.new 243, 3) := by decide +kernel
theorem dX8_of_166 : decode cX8_of 166 = .ok (.dup, 1) := by decide +kernel
theorem dX8_of_167 : decode cX8_of 167 = .ok (.ldc_w 262, 3) := by decide +kernel
theorem dX8_of_170 : decode cX8_of 170 = .ok (.invokespecial 247, 3) := by decide +kernel
theorem dX8_of_173 : decode cX8_of 173 = .ok (.athrow, 1) := by decide +kernel
theorem dX8_thingOf_0 : decode cX8_thingOf 0 = .ok (.aload_n 0, 1) := by decide +kernel
theorem dX8_thingOf_1 : decode cX8_thingOf 1 = .ok (.iload_n 1, 1) := by decide +kernel
theorem dX8_thingOf_2 : decode cX8_thingOf 2 = .ok (.invokevirtual 123, 3) := by decide +kernel
theorem dX8_thingOf_5 : decode cX8_thingOf 5 = .ok (.astore_n 3, 1) := by decide +kernel
theorem dX8_thingOf_6 : decode cX8_thingOf 6 = .ok (.aload_n 3, 1) := by decide +kernel
theorem dX8_thingOf_7 : decode cX8_thingOf 7 = .ok (.ifnonnull 5, 3) := by decide +kernel
theorem dX8_thingOf_10 : decode cX8_thingOf 10 = .ok (.iconst (-1), 1) := by decide +kernel
theorem dX8_thingOf_11 : decode cX8_thingOf 11 = .ok (.ireturn, 1) := by decide +kernel
theorem dX8_thingOf_12 : decode cX8_thingOf 12 = .ok (.iload_n 2, 1) := by decide +kernel
theorem dX8_thingOf_13 : decode cX8_thingOf 13 = .ok (.tableswitch 90 0 4 #[35, 43, 48, 67, 84], 35) := by decide +kernel
theorem dX8_thingOf_48 : decode cX8_thingOf 48 = .ok (.aload_n 3, 1) := by decide +kernel
theorem dX8_thingOf_49 : decode cX8_thingOf 49 = .ok (.getfield 210, 3) := by decide +kernel
theorem dX8_thingOf_52 : decode cX8_thingOf 52 = .ok (.getfield 258, 3) := by decide +kernel
theorem dX8_thingOf_55 : decode cX8_thingOf 55 = .ok (.ireturn, 1) := by decide +kernel
theorem dX8_thingOf_56 : decode cX8_thingOf 56 = .ok (.aload_n 3, 1) := by decide +kernel
theorem dX8_thingOf_57 : decode cX8_thingOf 57 = .ok (.getfield 131, 3) := by decide +kernel
theorem dX8_thingOf_60 : decode cX8_thingOf 60 = .ok (.ireturn, 1) := by decide +kernel
theorem dX8_thingOf_61 : decode cX8_thingOf 61 = .ok (.aload_n 3, 1) := by decide +kernel
theorem dX8_thingOf_62 : decode cX8_thingOf 62 = .ok (.getfield 127, 3) := by decide +kernel
theorem dX8_thingOf_65 : decode cX8_thingOf 65 = .ok (.ifnonnull 7, 3) := by decide +kernel
theorem dX8_thingOf_68 : decode cX8_thingOf 68 = .ok (.iconst (-1), 1) := by decide +kernel
theorem dX8_thingOf_69 : decode cX8_thingOf 69 = .ok (.goto 10, 3) := by decide +kernel
theorem dX8_thingOf_72 : decode cX8_thingOf 72 = .ok (.aload_n 3, 1) := by decide +kernel
theorem dX8_thingOf_73 : decode cX8_thingOf 73 = .ok (.getfield 127, 3) := by decide +kernel
theorem dX8_thingOf_76 : decode cX8_thingOf 76 = .ok (.getfield 264, 3) := by decide +kernel
theorem dX8_thingOf_79 : decode cX8_thingOf 79 = .ok (.ireturn, 1) := by decide +kernel
theorem dX8_thingOf_80 : decode cX8_thingOf 80 = .ok (.aload_n 3, 1) := by decide +kernel
theorem dX8_thingOf_81 : decode cX8_thingOf 81 = .ok (.aload_n 0, 1) := by decide +kernel
theorem dX8_thingOf_82 : decode cX8_thingOf 82 = .ok (.getfield 56, 3) := by decide +kernel
theorem dX8_thingOf_85 : decode cX8_thingOf 85 = .ok (.invokevirtual 265, 3) := by decide +kernel
theorem dX8_thingOf_88 : decode cX8_thingOf 88 = .ok (.ifCond .eq 7, 3) := by decide +kernel
theorem dX8_thingOf_91 : decode cX8_thingOf 91 = .ok (.iconst 1, 1) := by decide +kernel
theorem dX8_thingOf_92 : decode cX8_thingOf 92 = .ok (.goto 4, 3) := by decide +kernel
theorem dX8_thingOf_95 : decode cX8_thingOf 95 = .ok (.iconst 0, 1) := by decide +kernel
theorem dX8_thingOf_96 : decode cX8_thingOf 96 = .ok (.ireturn, 1) := by decide +kernel
theorem dX8_thingOf_97 : decode cX8_thingOf 97 = .ok (.aload_n 0, 1) := by decide +kernel
theorem dX8_thingOf_98 : decode cX8_thingOf 98 = .ok (.aload_n 3, 1) := by decide +kernel
theorem dX8_thingOf_99 : decode cX8_thingOf 99 = .ok (.invokevirtual 269, 3) := by decide +kernel
theorem dX8_thingOf_102 : decode cX8_thingOf 102 = .ok (.ireturn, 1) := by decide +kernel
theorem dX8_thingOf_103 : decode cX8_thingOf 103 = .ok (.iconst (-1), 1) := by decide +kernel
theorem dX8_thingOf_104 : decode cX8_thingOf 104 = .ok (.ireturn, 1) := by decide +kernel
theorem dX8_isFree_0 : decode cX8_isFree 0 = .ok (.aload_n 0, 1) := by decide +kernel
theorem dX8_isFree_1 : decode cX8_isFree 1 = .ok (.iload_n 1, 1) := by decide +kernel
theorem dX8_isFree_2 : decode cX8_isFree 2 = .ok (.invokevirtual 123, 3) := by decide +kernel
theorem dX8_isFree_5 : decode cX8_isFree 5 = .ok (.astore 4, 2) := by decide +kernel
theorem dX8_isFree_7 : decode cX8_isFree 7 = .ok (.aload 4, 2) := by decide +kernel
theorem dX8_isFree_9 : decode cX8_isFree 9 = .ok (.ifnull 16, 3) := by decide +kernel
theorem dX8_isFree_12 : decode cX8_isFree 12 = .ok (.iload_n 2, 1) := by decide +kernel
theorem dX8_isFree_13 : decode cX8_isFree 13 = .ok (.aload_n 0, 1) := by decide +kernel
theorem dX8_isFree_14 : decode cX8_isFree 14 = .ok (.getfield 56, 3) := by decide +kernel
theorem dX8_isFree_17 : decode cX8_isFree 17 = .ok (.if_icmp .lt 8, 3) := by decide +kernel
theorem dX8_isFree_20 : decode cX8_isFree 20 = .ok (.iload_n 3, 1) := by decide +kernel
theorem dX8_isFree_21 : decode cX8_isFree 21 = .ok (.iload_n 2, 1) := by decide +kernel
theorem dX8_isFree_22 : decode cX8_isFree 22 = .ok (.if_icmp .ge 5, 3) := by decide +kernel
theorem dX8_isFree_25 : decode cX8_isFree 25 = .ok (.iconst (-1), 1) := by decide +kernel
theorem dX8_isFree_26 : decode cX8_isFree 26 = .ok (.ireturn, 1) := by decide +kernel
theorem dX8_isFree_27 : decode cX8_isFree 27 = .ok (.aload_n 0, 1) := by decide +kernel
theorem dX8_isFree_28 : decode cX8_isFree 28 = .ok (.aconst_null, 1) := by decide +kernel
theorem dX8_isFree_29 : decode cX8_isFree 29 = .ok (.aload 4, 2) := by decide +kernel
theorem dX8_isFree_31 : decode cX8_isFree 31 = .ok (.iload_n 2, 1) := by decide +kernel
theorem dX8_isFree_32 : decode cX8_isFree 32 = .ok (.iload_n 3, 1) := by decide +kernel
theorem dX8_isFree_33 : decode cX8_isFree 33 = .ok (.invokevirtual 272, 3) := by decide +kernel
theorem dX8_isFree_36 : decode cX8_isFree 36 = .ok (.ifCond .eq 7, 3) := by decide +kernel
theorem dX8_isFree_39 : decode cX8_isFree 39 = .ok (.iconst 1, 1) := by decide +kernel
theorem dX8_isFree_40 : decode cX8_isFree 40 = .ok (.goto 4, 3) := by decide +kernel
theorem dX8_isFree_43 : decode cX8_isFree 43 = .ok (.iconst 0, 1) := by decide +kernel
theorem dX8_isFree_44 : decode cX8_isFree 44 = .ok (.ireturn, 1) := by decide +kernel
theorem dX8_memberOf_0 : decode cX8_memberOf 0 = .ok (.aload_n 0, 1) := by decide +kernel
theorem dX8_memberOf_1 : decode cX8_memberOf 1 = .ok (.iload_n 1, 1) := by decide +kernel
theorem dX8_memberOf_2 : decode cX8_memberOf 2 = .ok (.invokevirtual 138, 3) := by decide +kernel
theorem dX8_memberOf_5 : decode cX8_memberOf 5 = .ok (.astore_n 3, 1) := by decide +kernel
theorem dX8_memberOf_6 : decode cX8_memberOf 6 = .ok (.aload_n 3, 1) := by decide +kernel
theorem dX8_memberOf_7 : decode cX8_memberOf 7 = .ok (.ifnonnull 5, 3) := by decide +kernel
theorem dX8_memberOf_10 : decode cX8_memberOf 10 = .ok (.iconst (-1), 1) := by decide +kernel
theorem dX8_memberOf_11 : decode cX8_memberOf 11 = .ok (.ireturn, 1) := by decide +kernel
theorem dX8_memberOf_12 : decode cX8_memberOf 12 = .ok (.iload_n 2, 1) := by decide +kernel
theorem dX8_memberOf_13 : decode cX8_memberOf 13 = .ok (.tableswitch 42 0 2 #[27, 32, 37], 27) := by decide +kernel
theorem dX8_memberOf_40 : decode cX8_memberOf 40 = .ok (.aload_n 3, 1) := by decide +kernel
theorem dX8_memberOf_41 : decode cX8_memberOf 41 = .ok (.getfield 227, 3) := by decide +kernel
theorem dX8_memberOf_44 : decode cX8_memberOf 44 = .ok (.ireturn, 1) := by decide +kernel
theorem dX8_memberOf_45 : decode cX8_memberOf 45 = .ok (.aload_n 3, 1) := by decide +kernel
theorem dX8_memberOf_46 : decode cX8_memberOf 46 = .ok (.getfield 276, 3) := by decide +kernel
theorem dX8_memberOf_49 : decode cX8_memberOf 49 = .ok (.ireturn, 1) := by decide +kernel
theorem dX8_memberOf_50 : decode cX8_memberOf 50 = .ok (.aload_n 3, 1) := by decide +kernel
theorem dX8_memberOf_51 : decode cX8_memberOf 51 = .ok (.getfield 195, 3) := by decide +kernel
theorem dX8_memberOf_54 : decode cX8_memberOf 54 = .ok (.ireturn, 1) := by decide +kernel
theorem dX8_memberOf_55 : decode cX8_memberOf 55 = .ok (.iconst (-1), 1) := by decide +kernel
theorem dX8_memberOf_56 : decode cX8_memberOf 56 = .ok (.ireturn, 1) := by decide +kernel
theorem dX8_count_0 : decode cX8_count 0 = .ok (.iload_n 1, 1) := by decide +kernel
theorem dX8_count_1 : decode cX8_count 1 = .ok (.bipush 10, 2) := by decide +kernel
theorem dX8_count_3 : decode cX8_count 3 = .ok (.bipush 16, 2) := by decide +kernel
theorem dX8_count_5 : decode cX8_count 5 = .ok (.invokestatic 64, 3) := by decide +kernel
theorem dX8_count_8 : decode cX8_count 8 = .ok (.ifCond .eq 12, 3) := by decide +kernel
theorem dX8_count_11 : decode cX8_count 11 = .ok (.aload_n 0, 1) := by decide +kernel
theorem dX8_count_12 : decode cX8_count 12 = .ok (.iload_n 1, 1) := by decide +kernel
theorem dX8_count_13 : decode cX8_count 13 = .ok (.bipush 10, 2) := by decide +kernel
theorem dX8_count_15 : decode cX8_count 15 = .ok (.isub, 1) := by decide +kernel
theorem dX8_count_16 : decode cX8_count 16 = .ok (.invokevirtual 146, 3) := by decide +kernel
theorem dX8_count_19 : decode cX8_count 19 = .ok (.ireturn, 1) := by decide +kernel
theorem dX8_count_20 : decode cX8_count 20 = .ok (.iload_n 1, 1) := by decide +kernel
theorem dX8_count_21 : decode cX8_count 21 = .ok (.bipush 20, 2) := by decide +kernel
theorem dX8_count_23 : decode cX8_count 23 = .ok (.bipush 27, 2) := by decide +kernel
theorem dX8_count_25 : decode cX8_count 25 = .ok (.invokestatic 64, 3) := by decide +kernel
theorem dX8_count_28 : decode cX8_count 28 = .ok (.ifCond .eq 15, 3) := by decide +kernel
theorem dX8_count_31 : decode cX8_count 31 = .ok (.aload_n 0, 1) := by decide +kernel
theorem dX8_count_32 : decode cX8_count 32 = .ok (.getfield 45, 3) := by decide +kernel
theorem dX8_count_35 : decode cX8_count 35 = .ok (.iload_n 1, 1) := by decide +kernel
theorem dX8_count_36 : decode cX8_count 36 = .ok (.bipush 20, 2) := by decide +kernel
theorem dX8_count_38 : decode cX8_count 38 = .ok (.isub, 1) := by decide +kernel
theorem dX8_count_39 : decode cX8_count 39 = .ok (.invokevirtual 279, 3) := by decide +kernel
theorem dX8_count_42 : decode cX8_count 42 = .ok (.ireturn, 1) := by decide +kernel
theorem dX8_count_43 : decode cX8_count 43 = .ok (.iload_n 1, 1) := by decide +kernel
theorem dX8_count_44 : decode cX8_count 44 = .ok (.tableswitch 97 0 6 #[44, 52, 60, 68, 76, 81, 89], 44) := by decide +kernel
theorem dX8_count_88 : decode cX8_count 88 = .ok (.aload_n 0, 1) := by decide +kernel
theorem dX8_count_89 : decode cX8_count 89 = .ok (.getfield 10, 3) := by decide +kernel
theorem dX8_count_92 : decode cX8_count 92 = .ok (.invokevirtual 60, 3) := by decide +kernel
theorem dX8_count_95 : decode cX8_count 95 = .ok (.ireturn, 1) := by decide +kernel
theorem dX8_count_96 : decode cX8_count 96 = .ok (.aload_n 0, 1) := by decide +kernel
theorem dX8_count_97 : decode cX8_count 97 = .ok (.getfield 16, 3) := by decide +kernel
theorem dX8_count_100 : decode cX8_count 100 = .ok (.invokevirtual 60, 3) := by decide +kernel
theorem dX8_count_103 : decode cX8_count 103 = .ok (.ireturn, 1) := by decide +kernel
theorem dX8_count_104 : decode cX8_count 104 = .ok (.aload_n 0, 1) := by decide +kernel
theorem dX8_count_105 : decode cX8_count 105 = .ok (.getfield 19, 3) := by decide +kernel
theorem dX8_count_108 : decode cX8_count 108 = .ok (.invokevirtual 60, 3) := by decide +kernel
theorem dX8_count_111 : decode cX8_count 111 = .ok (.ireturn, 1) := by decide +kernel
theorem dX8_count_112 : decode cX8_count 112 = .ok (.aload_n 0, 1) := by decide +kernel
theorem dX8_count_113 : decode cX8_count 113 = .ok (.getfield 45, 3) := by decide +kernel
theorem dX8_count_116 : decode cX8_count 116 = .ok (.getfield 101, 3) := by decide +kernel
theorem dX8_count_119 : decode cX8_count 119 = .ok (.ireturn, 1) := by decide +kernel
theorem dX8_count_120 : decode cX8_count 120 = .ok (.aload_n 0, 1) := by decide +kernel
theorem dX8_count_121 : decode cX8_count 121 = .ok (.getfield 56, 3) := by decide +kernel
theorem dX8_count_124 : decode cX8_count 124 = .ok (.ireturn, 1) := by decide +kernel
theorem dX8_count_125 : decode cX8_count 125 = .ok (.aload_n 0, 1) := by decide +kernel
theorem dX8_count_126 : decode cX8_count 126 = .ok (.getfield 22, 3) := by decide +kernel
theorem dX8_count_129 : decode cX8_count 129 = .ok (.invokevirtual 60, 3) := by decide +kernel
theorem dX8_count_132 : decode cX8_count 132 = .ok (.ireturn, 1) := by decide +kernel
theorem dX8_count_133 : decode cX8_count 133 = .ok (.aload_n 0, 1) := by decide +kernel
theorem dX8_count_134 : decode cX8_count 134 = .ok (.getfield 31, 3) := by decide +kernel
theorem dX8_count_137 : decode cX8_count 137 = .ok (.getfield 98, 3) := by decide +kernel
theorem dX8_count_140 : decode cX8_count 140 = .ok (.ireturn, 1) := by decide +kernel
theorem dX8_count_141 : decode cX8_count 141 = .ok (.iconst (-1), 1) := by decide +kernel
theorem dX8_count_142 : decode cX8_count 142 = .ok (.ireturn, 1) := by decide +kernel
theorem dX8_isWithin_0 : decode cX8_isWithin 0 = .ok (.iload_n 0, 1) := by decide +kernel
theorem dX8_isWithin_1 : decode cX8_isWithin 1 = .ok (.iload_n 1, 1) := by decide +kernel
theorem dX8_isWithin_2 : decode cX8_isWithin 2 = .ok (.if_icmp .lt 12, 3) := by decide +kernel
theorem dX8_isWithin_5 : decode cX8_isWithin 5 = .ok (.iload_n 0, 1) := by decide +kernel
theorem dX8_isWithin_6 : decode cX8_isWithin 6 = .ok (.iload_n 2, 1) := by decide +kernel
theorem dX8_isWithin_7 : decode cX8_isWithin 7 = .ok (.if_icmp .gt 7, 3) := by decide +kernel
theorem dX8_isWithin_10 : decode cX8_isWithin 10 = .ok (.iconst 1, 1) := by decide +kernel
theorem dX8_isWithin_11 : decode cX8_isWithin 11 = .ok (.goto 4, 3) := by decide +kernel
theorem dX8_isWithin_14 : decode cX8_isWithin 14 = .ok (.iconst 0, 1) := by decide +kernel
theorem dX8_isWithin_15 : decode cX8_isWithin 15 = .ok (.ireturn, 1) := by decide +kernel
theorem dX8_areNear_0 : decode cX8_areNear 0 = .ok (.iload_n 0, 1) := by decide +kernel
theorem dX8_areNear_1 : decode cX8_areNear 1 = .ok (.i2l, 1) := by decide +kernel
theorem dX8_areNear_2 : decode cX8_areNear 2 = .ok (.iload_n 3, 1) := by decide +kernel
theorem dX8_areNear_3 : decode cX8_areNear 3 = .ok (.i2l, 1) := by decide +kernel
theorem dX8_areNear_4 : decode cX8_areNear 4 = .ok (.iload 4, 2) := by decide +kernel
theorem dX8_areNear_6 : decode cX8_areNear 6 = .ok (.i2l, 1) := by decide +kernel
theorem dX8_areNear_7 : decode cX8_areNear 7 = .ok (.ladd, 1) := by decide +kernel
theorem dX8_areNear_8 : decode cX8_areNear 8 = .ok (.lcmp, 1) := by decide +kernel
theorem dX8_areNear_9 : decode cX8_areNear 9 = .ok (.ifCond .gt 19, 3) := by decide +kernel
theorem dX8_areNear_12 : decode cX8_areNear 12 = .ok (.iload_n 2, 1) := by decide +kernel
theorem dX8_areNear_13 : decode cX8_areNear 13 = .ok (.i2l, 1) := by decide +kernel
theorem dX8_areNear_14 : decode cX8_areNear 14 = .ok (.iload_n 1, 1) := by decide +kernel
theorem dX8_areNear_15 : decode cX8_areNear 15 = .ok (.i2l, 1) := by decide +kernel
theorem dX8_areNear_16 : decode cX8_areNear 16 = .ok (.iload 4, 2) := by decide +kernel
theorem dX8_areNear_18 : decode cX8_areNear 18 = .ok (.i2l, 1) := by decide +kernel
theorem dX8_areNear_19 : decode cX8_areNear 19 = .ok (.ladd, 1) := by decide +kernel
theorem dX8_areNear_20 : decode cX8_areNear 20 = .ok (.lcmp, 1) := by decide +kernel
theorem dX8_areNear_21 : decode cX8_areNear 21 = .ok (.ifCond .gt 7, 3) := by decide +kernel
theorem dX8_areNear_24 : decode cX8_areNear 24 = .ok (.iconst 1, 1) := by decide +kernel
theorem dX8_areNear_25 : decode cX8_areNear 25 = .ok (.goto 4, 3) := by decide +kernel
theorem dX8_areNear_28 : decode cX8_areNear 28 = .ok (.iconst 0, 1) := by decide +kernel
theorem dX8_areNear_29 : decode cX8_areNear 29 = .ok (.ireturn, 1) := by decide +kernel
theorem dX8_kindAt_0 : decode cX8_kindAt 0 = .ok (.iload_n 1, 1) := by decide +kernel
theorem dX8_kindAt_1 : decode cX8_kindAt 1 = .ok (.ifCond .lt 28, 3) := by decide +kernel
theorem dX8_kindAt_4 : decode cX8_kindAt 4 = .ok (.iload_n 1, 1) := by decide +kernel
theorem dX8_kindAt_5 : decode cX8_kindAt 5 = .ok (.aload_n 0, 1) := by decide +kernel
theorem dX8_kindAt_6 : decode cX8_kindAt 6 = .ok (.getfield 10, 3) := by decide +kernel
theorem dX8_kindAt_9 : decode cX8_kindAt 9 = .ok (.invokevirtual 60, 3) := by decide +kernel
theorem dX8_kindAt_12 : decode cX8_kindAt 12 = .ok (.if_icmp .ge 17, 3) := by decide +kernel
theorem dX8_kindAt_15 : decode cX8_kindAt 15 = .ok (.aload_n 0, 1) := by decide +kernel
theorem dX8_kindAt_16 : decode cX8_kindAt 16 = .ok (.getfield 10, 3) := by decide +kernel
theorem dX8_kindAt_19 : decode cX8_kindAt 19 = .ok (.iload_n 1, 1) := by decide +kernel
theorem dX8_kindAt_20 : decode cX8_kindAt 20 = .ok (.invokevirtual 158, 3) := by decide +kernel
theorem dX8_kindAt_23 : decode cX8_kindAt 23 = .ok (.checkcast 68, 3) := by decide +kernel
theorem dX8_kindAt_26 : decode cX8_kindAt 26 = .ok (.goto 4, 3) := by decide +kernel
theorem dX8_kindAt_29 : decode cX8_kindAt 29 = .ok (.aconst_null, 1) := by decide +kernel
theorem dX8_kindAt_30 : decode cX8_kindAt 30 = .ok (.areturn, 1) := by decide +kernel
theorem dX8_thingAt_0 : decode cX8_thingAt 0 = .ok (.iload_n 1, 1) := by decide +kernel
theorem dX8_thingAt_1 : decode cX8_thingAt 1 = .ok (.ifCond .lt 28, 3) := by decide +kernel
theorem dX8_thingAt_4 : decode cX8_thingAt 4 = .ok (.iload_n 1, 1) := by decide +kernel
theorem dX8_thingAt_5 : decode cX8_thingAt 5 = .ok (.aload_n 0, 1) := by decide +kernel
theorem dX8_thingAt_6 : decode cX8_thingAt 6 = .ok (.getfield 16, 3) := by decide +kernel
theorem dX8_thingAt_9 : decode cX8_thingAt 9 = .ok (.invokevirtual 60, 3) := by decide +kernel
theorem dX8_thingAt_12 : decode cX8_thingAt 12 = .ok (.if_icmp .ge 17, 3) := by decide +kernel
theorem dX8_thingAt_15 : decode cX8_thingAt 15 = .ok (.aload_n 0, 1) := by decide +kernel
theorem dX8_thingAt_16 : decode cX8_thingAt 16 = .ok (.getfield 16, 3) := by decide +kernel
theorem dX8_thingAt_19 : decode cX8_thingAt 19 = .ok (.iload_n 1, 1) := by decide +kernel
theorem dX8_thingAt_20 : decode cX8_thingAt 20 = .ok (.invokevirtual 158, 3) := by decide +kernel
theorem dX8_thingAt_23 : decode cX8_thingAt 23 = .ok (.checkcast 81, 3) := by decide +kernel
theorem dX8_thingAt_26 : decode cX8_thingAt 26 = .ok (.goto 4, 3) := by decide +kernel
theorem dX8_thingAt_29 : decode cX8_thingAt 29 = .ok (.aconst_null, 1) := by decide +kernel
theorem dX8_thingAt_30 : decode cX8_thingAt 30 = .ok (.areturn, 1) := by decide +kernel
theorem dX8_memberAt_0 : decode cX8_memberAt 0 = .ok (.iload_n 1, 1) := by decide +kernel
theorem dX8_memberAt_1 : decode cX8_memberAt 1 = .ok (.ifCond .lt 28, 3) := by decide +kernel
theorem dX8_memberAt_4 : decode cX8_memberAt 4 = .ok (.iload_n 1, 1) := by decide +kernel
end
section
theorem dX8_memberAt_5 : decode cX8_memberAt 5 = .ok (.aload_n 0, 1) := by decide +kernel
theorem dX8_memberAt_6 : decode cX8_memberAt 6 = .ok (.getfield 19, 3) := by decide +kernel
theorem dX8_memberAt_9 : decode cX8_memberAt 9 = .ok (.invokevirtual 60, 3) := by decide +kernel
theorem dX8_memberAt_12 : decode cX8_memberAt 12 = .ok (.if_icmp .ge 17, 3) := by decide +kernel
theorem dX8_memberAt_15 : decode cX8_memberAt 15 = .ok (.aload_n 0, 1) := by decide +kernel
theorem dX8_memberAt_16 : decode cX8_memberAt 16 = .ok (.getfield 19, 3) := by decide +kernel
theorem dX8_memberAt_19 : decode cX8_memberAt 19 = .ok (.iload_n 1, 1) := by decide +kernel
theorem dX8_memberAt_20 : decode cX8_memberAt 20 = .ok (.invokevirtual 158, 3) := by decide +kernel
theorem dX8_memberAt_23 : decode cX8_memberAt 23 = .ok (.checkcast 86, 3) := by decide +kernel
theorem dX8_memberAt_26 : decode cX8_memberAt 26 = .ok (.goto 4, 3) := by decide +kernel
theorem dX8_memberAt_29 : decode cX8_memberAt 29 = .ok (.aconst_null, 1) := by decide +kernel
theorem dX8_memberAt_30 : decode cX8_memberAt 30 = .ok (.areturn, 1) := by decide +kernel
theorem dX8_askAt_0 : decode cX8_askAt 0 = .ok (.iload_n 1, 1) := by decide +kernel
theorem dX8_askAt_1 : decode cX8_askAt 1 = .ok (.ifCond .lt 28, 3) := by decide +kernel
theorem dX8_askAt_4 : decode cX8_askAt 4 = .ok (.iload_n 1, 1) := by decide +kernel
theorem dX8_askAt_5 : decode cX8_askAt 5 = .ok (.aload_n 0, 1) := by decide +kernel
theorem dX8_askAt_6 : decode cX8_askAt 6 = .ok (.getfield 22, 3) := by decide +kernel
theorem dX8_askAt_9 : decode cX8_askAt 9 = .ok (.invokevirtual 60, 3) := by decide +kernel
theorem dX8_askAt_12 : decode cX8_askAt 12 = .ok (.if_icmp .ge 17, 3) := by decide +kernel
theorem dX8_askAt_15 : decode cX8_askAt 15 = .ok (.aload_n 0, 1) := by decide +kernel
theorem dX8_askAt_16 : decode cX8_askAt 16 = .ok (.getfield 22, 3) := by decide +kernel
theorem dX8_askAt_19 : decode cX8_askAt 19 = .ok (.iload_n 1, 1) := by decide +kernel
theorem dX8_askAt_20 : decode cX8_askAt 20 = .ok (.invokevirtual 158, 3) := by decide +kernel
theorem dX8_askAt_23 : decode cX8_askAt 23 = .ok (.checkcast 150, 3) := by decide +kernel
theorem dX8_askAt_26 : decode cX8_askAt 26 = .ok (.goto 4, 3) := by decide +kernel
theorem dX8_askAt_29 : decode cX8_askAt 29 = .ok (.aconst_null, 1) := by decide +kernel
theorem dX8_askAt_30 : decode cX8_askAt 30 = .ok (.areturn, 1) := by decide +kernel
theorem dX8_canBeAsked_0 : decode cX8_canBeAsked 0 = .ok (.iload_n 1, 1) := by decide +kernel
theorem dX8_canBeAsked_1 : decode cX8_canBeAsked 1 = .ok (.aload_n 0, 1) := by decide +kernel
theorem dX8_canBeAsked_2 : decode cX8_canBeAsked 2 = .ok (.getfield 56, 3) := by decide +kernel
theorem dX8_canBeAsked_5 : decode cX8_canBeAsked 5 = .ok (.if_icmp .lt 31, 3) := by decide +kernel
theorem dX8_canBeAsked_8 : decode cX8_canBeAsked 8 = .ok (.iload_n 2, 1) := by decide +kernel
theorem dX8_canBeAsked_9 : decode cX8_canBeAsked 9 = .ok (.aload_n 0, 1) := by decide +kernel
theorem dX8_canBeAsked_10 : decode cX8_canBeAsked 10 = .ok (.getfield 56, 3) := by decide +kernel
theorem dX8_canBeAsked_13 : decode cX8_canBeAsked 13 = .ok (.bipush 60, 2) := by decide +kernel
theorem dX8_canBeAsked_15 : decode cX8_canBeAsked 15 = .ok (.iadd, 1) := by decide +kernel
theorem dX8_canBeAsked_16 : decode cX8_canBeAsked 16 = .ok (.if_icmp .gt 20, 3) := by decide +kernel
theorem dX8_canBeAsked_19 : decode cX8_canBeAsked 19 = .ok (.iload_n 1, 1) := by decide +kernel
theorem dX8_canBeAsked_20 : decode cX8_canBeAsked 20 = .ok (.iload_n 2, 1) := by decide +kernel
theorem dX8_canBeAsked_21 : decode cX8_canBeAsked 21 = .ok (.if_icmp .gt 15, 3) := by decide +kernel
theorem dX8_canBeAsked_24 : decode cX8_canBeAsked 24 = .ok (.iload_n 2, 1) := by decide +kernel
theorem dX8_canBeAsked_25 : decode cX8_canBeAsked 25 = .ok (.iload_n 1, 1) := by decide +kernel
theorem dX8_canBeAsked_26 : decode cX8_canBeAsked 26 = .ok (.isub, 1) := by decide +kernel
theorem dX8_canBeAsked_27 : decode cX8_canBeAsked 27 = .ok (.bipush 15, 2) := by decide +kernel
theorem dX8_canBeAsked_29 : decode cX8_canBeAsked 29 = .ok (.if_icmp .ge 7, 3) := by decide +kernel
theorem dX8_canBeAsked_32 : decode cX8_canBeAsked 32 = .ok (.iconst 1, 1) := by decide +kernel
theorem dX8_canBeAsked_33 : decode cX8_canBeAsked 33 = .ok (.goto 4, 3) := by decide +kernel
theorem dX8_canBeAsked_36 : decode cX8_canBeAsked 36 = .ok (.iconst 0, 1) := by decide +kernel
theorem dX8_canBeAsked_37 : decode cX8_canBeAsked 37 = .ok (.ireturn, 1) := by decide +kernel
theorem dX8_howManyAre_0 : decode cX8_howManyAre 0 = .ok (.iconst 0, 1) := by decide +kernel
theorem dX8_howManyAre_1 : decode cX8_howManyAre 1 = .ok (.istore_n 2, 1) := by decide +kernel
theorem dX8_howManyAre_2 : decode cX8_howManyAre 2 = .ok (.iconst 0, 1) := by decide +kernel
theorem dX8_howManyAre_3 : decode cX8_howManyAre 3 = .ok (.istore_n 3, 1) := by decide +kernel
theorem dX8_howManyAre_4 : decode cX8_howManyAre 4 = .ok (.iload_n 3, 1) := by decide +kernel
theorem dX8_howManyAre_5 : decode cX8_howManyAre 5 = .ok (.aload_n 0, 1) := by decide +kernel
theorem dX8_howManyAre_6 : decode cX8_howManyAre 6 = .ok (.getfield 22, 3) := by decide +kernel
theorem dX8_howManyAre_9 : decode cX8_howManyAre 9 = .ok (.invokevirtual 60, 3) := by decide +kernel
theorem dX8_howManyAre_12 : decode cX8_howManyAre 12 = .ok (.if_icmp .ge 30, 3) := by decide +kernel
theorem dX8_howManyAre_15 : decode cX8_howManyAre 15 = .ok (.aload_n 0, 1) := by decide +kernel
theorem dX8_howManyAre_16 : decode cX8_howManyAre 16 = .ok (.getfield 22, 3) := by decide +kernel
theorem dX8_howManyAre_19 : decode cX8_howManyAre 19 = .ok (.iload_n 3, 1) := by decide +kernel
theorem dX8_howManyAre_20 : decode cX8_howManyAre 20 = .ok (.invokevirtual 158, 3) := by decide +kernel
theorem dX8_howManyAre_23 : decode cX8_howManyAre 23 = .ok (.checkcast 150, 3) := by decide +kernel
theorem dX8_howManyAre_26 : decode cX8_howManyAre 26 = .ok (.getfield 162, 3) := by decide +kernel
theorem dX8_howManyAre_29 : decode cX8_howManyAre 29 = .ok (.iload_n 1, 1) := by decide +kernel
theorem dX8_howManyAre_30 : decode cX8_howManyAre 30 = .ok (.if_icmp .ne 6, 3) := by decide +kernel
theorem dX8_howManyAre_33 : decode cX8_howManyAre 33 = .ok (.iinc 2 1, 3) := by decide +kernel
theorem dX8_howManyAre_36 : decode cX8_howManyAre 36 = .ok (.iinc 3 1, 3) := by decide +kernel
theorem dX8_howManyAre_39 : decode cX8_howManyAre 39 = .ok (.goto (-35), 3) := by decide +kernel
theorem dX8_howManyAre_42 : decode cX8_howManyAre 42 = .ok (.iload_n 2, 1) := by decide +kernel
theorem dX8_howManyAre_43 : decode cX8_howManyAre 43 = .ok (.ireturn, 1) := by decide +kernel
theorem dX8_howManyAreBookedOn_0 : decode cX8_howManyAreBookedOn 0 = .ok (.iconst 0, 1) := by decide +kernel
theorem dX8_howManyAreBookedOn_1 : decode cX8_howManyAreBookedOn 1 = .ok (.istore_n 2, 1) := by decide +kernel
theorem dX8_howManyAreBookedOn_2 : decode cX8_howManyAreBookedOn 2 = .ok (.iconst 0, 1) := by decide +kernel
theorem dX8_howManyAreBookedOn_3 : decode cX8_howManyAreBookedOn 3 = .ok (.istore_n 3, 1) := by decide +kernel
theorem dX8_howManyAreBookedOn_4 : decode cX8_howManyAreBookedOn 4 = .ok (.iload_n 3, 1) := by decide +kernel
theorem dX8_howManyAreBookedOn_5 : decode cX8_howManyAreBookedOn 5 = .ok (.aload_n 0, 1) := by decide +kernel
theorem dX8_howManyAreBookedOn_6 : decode cX8_howManyAreBookedOn 6 = .ok (.getfield 22, 3) := by decide +kernel
theorem dX8_howManyAreBookedOn_9 : decode cX8_howManyAreBookedOn 9 = .ok (.invokevirtual 60, 3) := by decide +kernel
theorem dX8_howManyAreBookedOn_12 : decode cX8_howManyAreBookedOn 12 = .ok (.if_icmp .ge 30, 3) := by decide +kernel
theorem dX8_howManyAreBookedOn_15 : decode cX8_howManyAreBookedOn 15 = .ok (.aload_n 0, 1) := by decide +kernel
theorem dX8_howManyAreBookedOn_16 : decode cX8_howManyAreBookedOn 16 = .ok (.getfield 22, 3) := by decide +kernel
theorem dX8_howManyAreBookedOn_19 : decode cX8_howManyAreBookedOn 19 = .ok (.iload_n 3, 1) := by decide +kernel
theorem dX8_howManyAreBookedOn_20 : decode cX8_howManyAreBookedOn 20 = .ok (.invokevirtual 158, 3) := by decide +kernel
theorem dX8_howManyAreBookedOn_23 : decode cX8_howManyAreBookedOn 23 = .ok (.checkcast 150, 3) := by decide +kernel
theorem dX8_howManyAreBookedOn_26 : decode cX8_howManyAreBookedOn 26 = .ok (.aload_n 1, 1) := by decide +kernel
theorem dX8_howManyAreBookedOn_27 : decode cX8_howManyAreBookedOn 27 = .ok (.invokevirtual 282, 3) := by decide +kernel
theorem dX8_howManyAreBookedOn_30 : decode cX8_howManyAreBookedOn 30 = .ok (.ifCond .eq 6, 3) := by decide +kernel
theorem dX8_howManyAreBookedOn_33 : decode cX8_howManyAreBookedOn 33 = .ok (.iinc 2 1, 3) := by decide +kernel
theorem dX8_howManyAreBookedOn_36 : decode cX8_howManyAreBookedOn 36 = .ok (.iinc 3 1, 3) := by decide +kernel
theorem dX8_howManyAreBookedOn_39 : decode cX8_howManyAreBookedOn 39 = .ok (.goto (-35), 3) := by decide +kernel
theorem dX8_howManyAreBookedOn_42 : decode cX8_howManyAreBookedOn 42 = .ok (.iload_n 2, 1) := by decide +kernel
theorem dX8_howManyAreBookedOn_43 : decode cX8_howManyAreBookedOn 43 = .ok (.ireturn, 1) := by decide +kernel
theorem dX8_isFreeBut_0 : decode cX8_isFreeBut 0 = .ok (.aload_n 2, 1) := by decide +kernel
theorem dX8_isFreeBut_1 : decode cX8_isFreeBut 1 = .ok (.getfield 210, 3) := by decide +kernel
theorem dX8_isFreeBut_4 : decode cX8_isFreeBut 4 = .ok (.getfield 240, 3) := by decide +kernel
theorem dX8_isFreeBut_7 : decode cX8_isFreeBut 7 = .ok (.istore 5, 2) := by decide +kernel
theorem dX8_isFreeBut_9 : decode cX8_isFreeBut 9 = .ok (.iconst 0, 1) := by decide +kernel
theorem dX8_isFreeBut_10 : decode cX8_isFreeBut 10 = .ok (.istore 6, 2) := by decide +kernel
theorem dX8_isFreeBut_12 : decode cX8_isFreeBut 12 = .ok (.iload 6, 2) := by decide +kernel
theorem dX8_isFreeBut_14 : decode cX8_isFreeBut 14 = .ok (.aload_n 0, 1) := by decide +kernel
theorem dX8_isFreeBut_15 : decode cX8_isFreeBut 15 = .ok (.getfield 22, 3) := by decide +kernel
theorem dX8_isFreeBut_18 : decode cX8_isFreeBut 18 = .ok (.invokevirtual 60, 3) := by decide +kernel
theorem dX8_isFreeBut_21 : decode cX8_isFreeBut 21 = .ok (.if_icmp .ge 65, 3) := by decide +kernel
theorem dX8_isFreeBut_24 : decode cX8_isFreeBut 24 = .ok (.aload_n 0, 1) := by decide +kernel
theorem dX8_isFreeBut_25 : decode cX8_isFreeBut 25 = .ok (.getfield 22, 3) := by decide +kernel
theorem dX8_isFreeBut_28 : decode cX8_isFreeBut 28 = .ok (.iload 6, 2) := by decide +kernel
theorem dX8_isFreeBut_30 : decode cX8_isFreeBut 30 = .ok (.invokevirtual 158, 3) := by decide +kernel
theorem dX8_isFreeBut_33 : decode cX8_isFreeBut 33 = .ok (.checkcast 150, 3) := by decide +kernel
theorem dX8_isFreeBut_36 : decode cX8_isFreeBut 36 = .ok (.astore 7, 2) := by decide +kernel
theorem dX8_isFreeBut_38 : decode cX8_isFreeBut 38 = .ok (.aload 7, 2) := by decide +kernel
theorem dX8_isFreeBut_40 : decode cX8_isFreeBut 40 = .ok (.aload_n 1, 1) := by decide +kernel
theorem dX8_isFreeBut_41 : decode cX8_isFreeBut 41 = .ok (.if_acmp .eq 39, 3) := by decide +kernel
theorem dX8_isFreeBut_44 : decode cX8_isFreeBut 44 = .ok (.aload 7, 2) := by decide +kernel
theorem dX8_isFreeBut_46 : decode cX8_isFreeBut 46 = .ok (.aload_n 2, 1) := by decide +kernel
theorem dX8_isFreeBut_47 : decode cX8_isFreeBut 47 = .ok (.invokevirtual 286, 3) := by decide +kernel
theorem dX8_isFreeBut_50 : decode cX8_isFreeBut 50 = .ok (.ifCond .eq 30, 3) := by decide +kernel
theorem dX8_isFreeBut_53 : decode cX8_isFreeBut 53 = .ok (.iload_n 3, 1) := by decide +kernel
theorem dX8_isFreeBut_54 : decode cX8_isFreeBut 54 = .ok (.iload 4, 2) := by decide +kernel
theorem dX8_isFreeBut_56 : decode cX8_isFreeBut 56 = .ok (.aload 7, 2) := by decide +kernel
theorem dX8_isFreeBut_58 : decode cX8_isFreeBut 58 = .ok (.getfield 207, 3) := by decide +kernel
theorem dX8_isFreeBut_61 : decode cX8_isFreeBut 61 = .ok (.aload 7, 2) := by decide +kernel
theorem dX8_isFreeBut_63 : decode cX8_isFreeBut 63 = .ok (.aload_n 0, 1) := by decide +kernel
theorem dX8_isFreeBut_64 : decode cX8_isFreeBut 64 = .ok (.getfield 56, 3) := by decide +kernel
theorem dX8_isFreeBut_67 : decode cX8_isFreeBut 67 = .ok (.invokevirtual 289, 3) := by decide +kernel
theorem dX8_isFreeBut_70 : decode cX8_isFreeBut 70 = .ok (.iload 5, 2) := by decide +kernel
theorem dX8_isFreeBut_72 : decode cX8_isFreeBut 72 = .ok (.invokestatic 292, 3) := by decide +kernel
theorem dX8_isFreeBut_75 : decode cX8_isFreeBut 75 = .ok (.ifCond .eq 5, 3) := by decide +kernel
theorem dX8_isFreeBut_78 : decode cX8_isFreeBut 78 = .ok (.iconst 0, 1) := by decide +kernel
theorem dX8_isFreeBut_79 : decode cX8_isFreeBut 79 = .ok (.ireturn, 1) := by decide +kernel
theorem dX8_isFreeBut_80 : decode cX8_isFreeBut 80 = .ok (.iinc 6 1, 3) := by decide +kernel
theorem dX8_isFreeBut_83 : decode cX8_isFreeBut 83 = .ok (.goto (-71), 3) := by decide +kernel
theorem dX8_isFreeBut_86 : decode cX8_isFreeBut 86 = .ok (.iconst 1, 1) := by decide +kernel
theorem dX8_isFreeBut_87 : decode cX8_isFreeBut 87 = .ok (.ireturn, 1) := by decide +kernel
theorem dX8_isFreeFor_0 : decode cX8_isFreeFor 0 = .ok (.aload_n 0, 1) := by decide +kernel
theorem dX8_isFreeFor_1 : decode cX8_isFreeFor 1 = .ok (.aload_n 1, 1) := by decide +kernel
theorem dX8_isFreeFor_2 : decode cX8_isFreeFor 2 = .ok (.aload_n 2, 1) := by decide +kernel
theorem dX8_isFreeFor_3 : decode cX8_isFreeFor 3 = .ok (.aload_n 1, 1) := by decide +kernel
theorem dX8_isFreeFor_4 : decode cX8_isFreeFor 4 = .ok (.getfield 207, 3) := by decide +kernel
theorem dX8_isFreeFor_7 : decode cX8_isFreeFor 7 = .ok (.aload_n 1, 1) := by decide +kernel
theorem dX8_isFreeFor_8 : decode cX8_isFreeFor 8 = .ok (.getfield 198, 3) := by decide +kernel
theorem dX8_isFreeFor_11 : decode cX8_isFreeFor 11 = .ok (.invokevirtual 272, 3) := by decide +kernel
theorem dX8_isFreeFor_14 : decode cX8_isFreeFor 14 = .ok (.ireturn, 1) := by decide +kernel
theorem dX8_rowThatMayHave_0 : decode cX8_rowThatMayHave 0 = .ok (.iconst 0, 1) := by decide +kernel
theorem dX8_rowThatMayHave_1 : decode cX8_rowThatMayHave 1 = .ok (.istore_n 2, 1) := by decide +kernel
theorem dX8_rowThatMayHave_2 : decode cX8_rowThatMayHave 2 = .ok (.iconst 0, 1) := by decide +kernel
theorem dX8_rowThatMayHave_3 : decode cX8_rowThatMayHave 3 = .ok (.istore_n 3, 1) := by decide +kernel
theorem dX8_rowThatMayHave_4 : decode cX8_rowThatMayHave 4 = .ok (.iload_n 3, 1) := by decide +kernel
theorem dX8_rowThatMayHave_5 : decode cX8_rowThatMayHave 5 = .ok (.iconst 5, 1) := by decide +kernel
theorem dX8_rowThatMayHave_6 : decode cX8_rowThatMayHave 6 = .ok (.if_icmp .ge 52, 3) := by decide +kernel
theorem dX8_rowThatMayHave_9 : decode cX8_rowThatMayHave 9 = .ok (.aload_n 0, 1) := by decide +kernel
theorem dX8_rowThatMayHave_10 : decode cX8_rowThatMayHave 10 = .ok (.getfield 52, 3) := by decide +kernel
theorem dX8_rowThatMayHave_13 : decode cX8_rowThatMayHave 13 = .ok (.iload_n 3, 1) := by decide +kernel
theorem dX8_rowThatMayHave_14 : decode cX8_rowThatMayHave 14 = .ok (.invokevirtual 296, 3) := by decide +kernel
theorem dX8_rowThatMayHave_17 : decode cX8_rowThatMayHave 17 = .ok (.astore 4, 2) := by decide +kernel
theorem dX8_rowThatMayHave_19 : decode cX8_rowThatMayHave 19 = .ok (.aload 4, 2) := by decide +kernel
theorem dX8_rowThatMayHave_21 : decode cX8_rowThatMayHave 21 = .ok (.ifnull 31, 3) := by decide +kernel
theorem dX8_rowThatMayHave_24 : decode cX8_rowThatMayHave 24 = .ok (.aload_n 1, 1) := by decide +kernel
theorem dX8_rowThatMayHave_25 : decode cX8_rowThatMayHave 25 = .ok (.getfield 210, 3) := by decide +kernel
theorem dX8_rowThatMayHave_28 : decode cX8_rowThatMayHave 28 = .ok (.aload 4, 2) := by decide +kernel
theorem dX8_rowThatMayHave_30 : decode cX8_rowThatMayHave 30 = .ok (.invokevirtual 236, 3) := by decide +kernel
theorem dX8_rowThatMayHave_33 : decode cX8_rowThatMayHave 33 = .ok (.ifCond .eq 19, 3) := by decide +kernel
theorem dX8_rowThatMayHave_36 : decode cX8_rowThatMayHave 36 = .ok (.aload_n 0, 1) := by decide +kernel
theorem dX8_rowThatMayHave_37 : decode cX8_rowThatMayHave 37 = .ok (.aload 4, 2) := by decide +kernel
theorem dX8_rowThatMayHave_39 : decode cX8_rowThatMayHave 39 = .ok (.aload_n 1, 1) := by decide +kernel
theorem dX8_rowThatMayHave_40 : decode cX8_rowThatMayHave 40 = .ok (.invokevirtual 299, 3) := by decide +kernel
theorem dX8_rowThatMayHave_43 : decode cX8_rowThatMayHave 43 = .ok (.ifCond .eq 9, 3) := by decide +kernel
theorem dX8_rowThatMayHave_46 : decode cX8_rowThatMayHave 46 = .ok (.iload_n 2, 1) := by decide +kernel
theorem dX8_rowThatMayHave_47 : decode cX8_rowThatMayHave 47 = .ok (.iconst 1, 1) := by decide +kernel
theorem dX8_rowThatMayHave_48 : decode cX8_rowThatMayHave 48 = .ok (.iload_n 3, 1) := by decide +kernel
theorem dX8_rowThatMayHave_49 : decode cX8_rowThatMayHave 49 = .ok (.ishl, 1) := by decide +kernel
theorem dX8_rowThatMayHave_50 : decode cX8_rowThatMayHave 50 = .ok (.ior, 1) := by decide +kernel
theorem dX8_rowThatMayHave_51 : decode cX8_rowThatMayHave 51 = .ok (.istore_n 2, 1) := by decide +kernel
theorem dX8_rowThatMayHave_52 : decode cX8_rowThatMayHave 52 = .ok (.iinc 3 1, 3) := by decide +kernel
theorem dX8_rowThatMayHave_55 : decode cX8_rowThatMayHave 55 = .ok (.goto (-51), 3) := by decide +kernel
theorem dX8_rowThatMayHave_58 : decode cX8_rowThatMayHave 58 = .ok (.iload_n 2, 1) := by decide +kernel
theorem dX8_rowThatMayHave_59 : decode cX8_rowThatMayHave 59 = .ok (.ireturn, 1) := by decide +kernel
theorem dX8_carryOutPlan_0 : decode cX8_carryOutPlan 0 = .ok (.iconst 0, 1) := by decide +kernel
theorem dX8_carryOutPlan_1 : decode cX8_carryOutPlan 1 = .ok (.istore_n 1, 1) := by decide +kernel
theorem dX8_carryOutPlan_2 : decode cX8_carryOutPlan 2 = .ok (.iconst 0, 1) := by decide +kernel
theorem dX8_carryOutPlan_3 : decode cX8_carryOutPlan 3 = .ok (.istore_n 2, 1) := by decide +kernel
theorem dX8_carryOutPlan_4 : decode cX8_carryOutPlan 4 = .ok (.iload_n 2, 1) := by decide +kernel
theorem dX8_carryOutPlan_5 : decode cX8_carryOutPlan 5 = .ok (.iconst 5, 1) := by decide +kernel
theorem dX8_carryOutPlan_6 : decode cX8_carryOutPlan 6 = .ok (.if_icmp .ge 61, 3) := by decide +kernel
theorem dX8_carryOutPlan_9 : decode cX8_carryOutPlan 9 = .ok (.aload_n 0, 1) := by decide +kernel
theorem dX8_carryOutPlan_10 : decode cX8_carryOutPlan 10 = .ok (.getfield 52, 3) := by decide +kernel
theorem dX8_carryOutPlan_13 : decode cX8_carryOutPlan 13 = .ok (.iload_n 2, 1) := by decide +kernel
theorem dX8_carryOutPlan_14 : decode cX8_carryOutPlan 14 = .ok (.invokevirtual 296, 3) := by decide +kernel
theorem dX8_carryOutPlan_17 : decode cX8_carryOutPlan 17 = .ok (.astore_n 3, 1) := by decide +kernel
theorem dX8_carryOutPlan_18 : decode cX8_carryOutPlan 18 = .ok (.aload_n 3, 1) := by decide +kernel
theorem dX8_carryOutPlan_19 : decode cX8_carryOutPlan 19 = .ok (.ifnull 42, 3) := by decide +kernel
theorem dX8_carryOutPlan_22 : decode cX8_carryOutPlan 22 = .ok (.aload_n 3, 1) := by decide +kernel
theorem dX8_carryOutPlan_23 : decode cX8_carryOutPlan 23 = .ok (.aload_n 0, 1) := by decide +kernel
theorem dX8_carryOutPlan_24 : decode cX8_carryOutPlan 24 = .ok (.aload_n 0, 1) := by decide +kernel
theorem dX8_carryOutPlan_25 : decode cX8_carryOutPlan 25 = .ok (.getfield 52, 3) := by decide +kernel
theorem dX8_carryOutPlan_28 : decode cX8_carryOutPlan 28 = .ok (.iload_n 2, 1) := by decide +kernel
theorem dX8_carryOutPlan_29 : decode cX8_carryOutPlan 29 = .ok (.invokevirtual 303, 3) := by decide +kernel
theorem dX8_carryOutPlan_32 : decode cX8_carryOutPlan 32 = .ok (.invokevirtual 123, 3) := by decide +kernel
theorem dX8_carryOutPlan_35 : decode cX8_carryOutPlan 35 = .ok (.putfield 183, 3) := by decide +kernel
theorem dX8_carryOutPlan_38 : decode cX8_carryOutPlan 38 = .ok (.aload_n 3, 1) := by decide +kernel
theorem dX8_carryOutPlan_39 : decode cX8_carryOutPlan 39 = .ok (.getfield 183, 3) := by decide +kernel
theorem dX8_carryOutPlan_42 : decode cX8_carryOutPlan 42 = .ok (.ifnonnull 11, 3) := by decide +kernel
theorem dX8_carryOutPlan_45 : decode cX8_carryOutPlan 45 = .ok (.aload_n 0, 1) := by decide +kernel
theorem dX8_carryOutPlan_46 : decode cX8_carryOutPlan 46 = .ok (.aload_n 3, 1) := by decide +kernel
theorem dX8_carryOutPlan_47 : decode cX8_carryOutPlan 47 = .ok (.invokevirtual 306, 3) := by decide +kernel
theorem dX8_carryOutPlan_50 : decode cX8_carryOutPlan 50 = .ok (.goto 11, 3) := by decide +kernel
theorem dX8_carryOutPlan_53 : decode cX8_carryOutPlan 53 = .ok (.aload_n 3, 1) := by decide +kernel
theorem dX8_carryOutPlan_54 : decode cX8_carryOutPlan 54 = .ok (.iconst 1, 1) := by decide +kernel
theorem dX8_carryOutPlan_55 : decode cX8_carryOutPlan 55 = .ok (.putfield 162, 3) := by decide +kernel
theorem dX8_carryOutPlan_58 : decode cX8_carryOutPlan 58 = .ok (.iinc 1 1, 3) := by decide +kernel
theorem dX8_carryOutPlan_61 : decode cX8_carryOutPlan 61 = .ok (.iinc 2 1, 3) := by decide +kernel
theorem dX8_carryOutPlan_64 : decode cX8_carryOutPlan 64 = .ok (.goto (-60), 3) := by decide +kernel
theorem dX8_carryOutPlan_67 : decode cX8_carryOutPlan 67 = .ok (.iload_n 1, 1) := by decide +kernel
theorem dX8_carryOutPlan_68 : decode cX8_carryOutPlan 68 = .ok (.ireturn, 1) := by decide +kernel
theorem dX8_refuse_0 : decode cX8_refuse 0 = .ok (.aload_n 1, 1) := by decide +kernel
theorem dX8_refuse_1 : decode cX8_refuse 1 = .ok (.iconst 2, 1) := by decide +kernel
theorem dX8_refuse_2 : decode cX8_refuse 2 = .ok (.putfield 162, 3) := by decide +kernel
theorem dX8_refuse_5 : decode cX8_refuse 5 = .ok (.iconst 0, 1) := by decide +kernel
theorem dX8_refuse_6 : decode cX8_refuse 6 = .ok (.istore_n 2, 1) := by decide +kernel
theorem dX8_refuse_7 : decode cX8_refuse 7 = .ok (.iload_n 2, 1) := by decide +kernel
theorem dX8_refuse_8 : decode cX8_refuse 8 = .ok (.aload_n 0, 1) := by decide +kernel
theorem dX8_refuse_9 : decode cX8_refuse 9 = .ok (.getfield 25, 3) := by decide +kernel
theorem dX8_refuse_12 : decode cX8_refuse 12 = .ok (.invokevirtual 60, 3) := by decide +kernel
theorem dX8_refuse_15 : decode cX8_refuse 15 = .ok (.if_icmp .ge 30, 3) := by decide +kernel
theorem dX8_refuse_18 : decode cX8_refuse 18 = .ok (.aload_n 0, 1) := by decide +kernel
theorem dX8_refuse_19 : decode cX8_refuse 19 = .ok (.getfield 25, 3) := by decide +kernel
theorem dX8_refuse_22 : decode cX8_refuse 22 = .ok (.iload_n 2, 1) := by decide +kernel
theorem dX8_refuse_23 : decode cX8_refuse 23 = .ok (.invokevirtual 158, 3) := by decide +kernel
theorem dX8_refuse_26 : decode cX8_refuse 26 = .ok (.checkcast 150, 3) := by decide +kernel
theorem dX8_refuse_29 : decode cX8_refuse 29 = .ok (.getfield 198, 3) := by decide +kernel
theorem dX8_refuse_32 : decode cX8_refuse 32 = .ok (.aload_n 1, 1) := by decide +kernel
theorem dX8_refuse_33 : decode cX8_refuse 33 = .ok (.getfield 198, 3) := by decide +kernel
theorem dX8_refuse_36 : decode cX8_refuse 36 = .ok (.if_icmp .gt 9, 3) := by decide +kernel
theorem dX8_refuse_39 : decode cX8_refuse 39 = .ok (.iinc 2 1, 3) := by decide +kernel
theorem dX8_refuse_42 : decode cX8_refuse 42 = .ok (.goto (-35), 3) := by decide +kernel
theorem dX8_refuse_45 : decode cX8_refuse 45 = .ok (.aload_n 0, 1) := by decide +kernel
theorem dX8_refuse_46 : decode cX8_refuse 46 = .ok (.getfield 25, 3) := by decide +kernel
theorem dX8_refuse_49 : decode cX8_refuse 49 = .ok (.iload_n 2, 1) := by decide +kernel
theorem dX8_refuse_50 : decode cX8_refuse 50 = .ok (.aload_n 1, 1) := by decide +kernel
theorem dX8_refuse_51 : decode cX8_refuse 51 = .ok (.invokevirtual 309, 3) := by decide +kernel
theorem dX8_refuse_54 : decode cX8_refuse 54 = .ok (.return_, 1) := by decide +kernel
theorem dX8_hindranceOf_0 : decode cX8_hindranceOf 0 = .ok (.aload_n 0, 1) := by decide +kernel
theorem dX8_hindranceOf_1 : decode cX8_hindranceOf 1 = .ok (.getfield 56, 3) := by decide +kernel
theorem dX8_hindranceOf_4 : decode cX8_hindranceOf 4 = .ok (.aload_n 1, 1) := by decide +kernel
theorem dX8_hindranceOf_5 : decode cX8_hindranceOf 5 = .ok (.getfield 207, 3) := by decide +kernel
theorem dX8_hindranceOf_8 : decode cX8_hindranceOf 8 = .ok (.if_icmp .ge 6, 3) := by decide +kernel
theorem dX8_hindranceOf_11 : decode cX8_hindranceOf 11 = .ok (.bipush (-2), 2) := by decide +kernel
theorem dX8_hindranceOf_13 : decode cX8_hindranceOf 13 = .ok (.ireturn, 1) := by decide +kernel
theorem dX8_hindranceOf_14 : decode cX8_hindranceOf 14 = .ok (.aload_n 1, 1) := by decide +kernel
theorem dX8_hindranceOf_15 : decode cX8_hindranceOf 15 = .ok (.getfield 191, 3) := by decide +kernel
theorem dX8_hindranceOf_18 : decode cX8_hindranceOf 18 = .ok (.getfield 227, 3) := by decide +kernel
theorem dX8_hindranceOf_21 : decode cX8_hindranceOf 21 = .ok (.bipush 40, 2) := by decide +kernel
theorem dX8_hindranceOf_23 : decode cX8_hindranceOf 23 = .ok (.if_icmp .le 6, 3) := by decide +kernel
theorem dX8_hindranceOf_26 : decode cX8_hindranceOf 26 = .ok (.bipush (-3), 2) := by decide +kernel
theorem dX8_hindranceOf_28 : decode cX8_hindranceOf 28 = .ok (.ireturn, 1) := by decide +kernel
theorem dX8_hindranceOf_29 : decode cX8_hindranceOf 29 = .ok (.aload_n 2, 1) := by decide +kernel
theorem dX8_hindranceOf_30 : decode cX8_hindranceOf 30 = .ok (.getfield 127, 3) := by decide +kernel
theorem dX8_hindranceOf_33 : decode cX8_hindranceOf 33 = .ok (.ifnull 6, 3) := by decide +kernel
theorem dX8_hindranceOf_36 : decode cX8_hindranceOf 36 = .ok (.bipush (-4), 2) := by decide +kernel
theorem dX8_hindranceOf_38 : decode cX8_hindranceOf 38 = .ok (.ireturn, 1) := by decide +kernel
theorem dX8_hindranceOf_39 : decode cX8_hindranceOf 39 = .ok (.aload_n 0, 1) := by decide +kernel
theorem dX8_hindranceOf_40 : decode cX8_hindranceOf 40 = .ok (.getfield 45, 3) := by decide +kernel
theorem dX8_hindranceOf_43 : decode cX8_hindranceOf 43 = .ok (.aload_n 2, 1) := by decide +kernel
theorem dX8_hindranceOf_44 : decode cX8_hindranceOf 44 = .ok (.aload_n 1, 1) := by decide +kernel
theorem dX8_hindranceOf_45 : decode cX8_hindranceOf 45 = .ok (.getfield 198, 3) := by decide +kernel
theorem dX8_hindranceOf_48 : decode cX8_hindranceOf 48 = .ok (.invokevirtual 134, 3) := by decide +kernel
theorem dX8_hindranceOf_51 : decode cX8_hindranceOf 51 = .ok (.ifCond .ne 6, 3) := by decide +kernel
theorem dX8_hindranceOf_54 : decode cX8_hindranceOf 54 = .ok (.bipush (-5), 2) := by decide +kernel
theorem dX8_hindranceOf_56 : decode cX8_hindranceOf 56 = .ok (.ireturn, 1) := by decide +kernel
theorem dX8_hindranceOf_57 : decode cX8_hindranceOf 57 = .ok (.aload_n 2, 1) := by decide +kernel
theorem dX8_hindranceOf_58 : decode cX8_hindranceOf 58 = .ok (.aload_n 0, 1) := by decide +kernel
theorem dX8_hindranceOf_59 : decode cX8_hindranceOf 59 = .ok (.getfield 56, 3) := by decide +kernel
theorem dX8_hindranceOf_62 : decode cX8_hindranceOf 62 = .ok (.invokevirtual 312, 3) := by decide +kernel
theorem dX8_hindranceOf_65 : decode cX8_hindranceOf 65 = .ok (.ifCond .eq 7, 3) := by decide +kernel
theorem dX8_hindranceOf_68 : decode cX8_hindranceOf 68 = .ok (.iconst 0, 1) := by decide +kernel
theorem dX8_hindranceOf_69 : decode cX8_hindranceOf 69 = .ok (.goto 5, 3) := by decide +kernel
theorem dX8_hindranceOf_72 : decode cX8_hindranceOf 72 = .ok (.bipush (-6), 2) := by decide +kernel
theorem dX8_hindranceOf_74 : decode cX8_hindranceOf 74 = .ok (.ireturn, 1) := by decide +kernel
theorem dX8_loseWhatIsOver_0 : decode cX8_loseWhatIsOver 0 = .ok (.iconst 0, 1) := by decide +kernel
theorem dX8_loseWhatIsOver_1 : decode cX8_loseWhatIsOver 1 = .ok (.istore_n 1, 1) := by decide +kernel
theorem dX8_loseWhatIsOver_2 : decode cX8_loseWhatIsOver 2 = .ok (.iload_n 1, 1) := by decide +kernel
theorem dX8_loseWhatIsOver_3 : decode cX8_loseWhatIsOver 3 = .ok (.aload_n 0, 1) := by decide +kernel
theorem dX8_loseWhatIsOver_4 : decode cX8_loseWhatIsOver 4 = .ok (.getfield 22, 3) := by decide +kernel
theorem dX8_loseWhatIsOver_7 : decode cX8_loseWhatIsOver 7 = .ok (.invokevirtual 60, 3) := by decide +kernel
theorem dX8_loseWhatIsOver_10 : decode cX8_loseWhatIsOver 10 = .ok (.if_icmp .ge 45, 3) := by decide +kernel
theorem dX8_loseWhatIsOver_13 : decode cX8_loseWhatIsOver 13 = .ok (.aload_n 0, 1) := by decide +kernel
theorem dX8_loseWhatIsOver_14 : decode cX8_loseWhatIsOver 14 = .ok (.getfield 22, 3) := by decide +kernel
theorem dX8_loseWhatIsOver_17 : decode cX8_loseWhatIsOver 17 = .ok (.iload_n 1, 1) := by decide +kernel
theorem dX8_loseWhatIsOver_18 : decode cX8_loseWhatIsOver 18 = .ok (.invokevirtual 158, 3) := by decide +kernel
theorem dX8_loseWhatIsOver_21 : decode cX8_loseWhatIsOver 21 = .ok (.checkcast 150, 3) := by decide +kernel
theorem dX8_loseWhatIsOver_24 : decode cX8_loseWhatIsOver 24 = .ok (.astore_n 2, 1) := by decide +kernel
theorem dX8_loseWhatIsOver_25 : decode cX8_loseWhatIsOver 25 = .ok (.aload_n 2, 1) := by decide +kernel
theorem dX8_loseWhatIsOver_26 : decode cX8_loseWhatIsOver 26 = .ok (.getfield 162, 3) := by decide +kernel
theorem dX8_loseWhatIsOver_29 : decode cX8_loseWhatIsOver 29 = .ok (.iconst 1, 1) := by decide +kernel
theorem dX8_loseWhatIsOver_30 : decode cX8_loseWhatIsOver 30 = .ok (.if_icmp .ne 19, 3) := by decide +kernel
theorem dX8_loseWhatIsOver_33 : decode cX8_loseWhatIsOver 33 = .ok (.aload_n 2, 1) := by decide +kernel
theorem dX8_loseWhatIsOver_34 : decode cX8_loseWhatIsOver 34 = .ok (.getfield 198, 3) := by decide +kernel
theorem dX8_loseWhatIsOver_37 : decode cX8_loseWhatIsOver 37 = .ok (.aload_n 0, 1) := by decide +kernel
theorem dX8_loseWhatIsOver_38 : decode cX8_loseWhatIsOver 38 = .ok (.getfield 56, 3) := by decide +kernel
theorem dX8_loseWhatIsOver_41 : decode cX8_loseWhatIsOver 41 = .ok (.if_icmp .ge 8, 3) := by decide +kernel
theorem dX8_loseWhatIsOver_44 : decode cX8_loseWhatIsOver 44 = .ok (.aload_n 2, 1) := by decide +kernel
theorem dX8_loseWhatIsOver_45 : decode cX8_loseWhatIsOver 45 = .ok (.iconst 5, 1) := by decide +kernel
theorem dX8_loseWhatIsOver_46 : decode cX8_loseWhatIsOver 46 = .ok (.putfield 162, 3) := by decide +kernel
theorem dX8_loseWhatIsOver_49 : decode cX8_loseWhatIsOver 49 = .ok (.iinc 1 1, 3) := by decide +kernel
theorem dX8_loseWhatIsOver_52 : decode cX8_loseWhatIsOver 52 = .ok (.goto (-50), 3) := by decide +kernel
theorem dX8_loseWhatIsOver_55 : decode cX8_loseWhatIsOver 55 = .ok (.return_, 1) := by decide +kernel
theorem dX8_moveFromLateThings_0 : decode cX8_moveFromLateThings 0 = .ok (.iconst 0, 1) := by decide +kernel
theorem dX8_moveFromLateThings_1 : decode cX8_moveFromLateThings 1 = .ok (.istore_n 1, 1) := by decide +kernel
theorem dX8_moveFromLateThings_2 : decode cX8_moveFromLateThings 2 = .ok (.iload_n 1, 1) := by decide +kernel
theorem dX8_moveFromLateThings_3 : decode cX8_moveFromLateThings 3 = .ok (.aload_n 0, 1) := by decide +kernel
theorem dX8_moveFromLateThings_4 : decode cX8_moveFromLateThings 4 = .ok (.getfield 22, 3) := by decide +kernel
theorem dX8_moveFromLateThings_7 : decode cX8_moveFromLateThings 7 = .ok (.invokevirtual 60, 3) := by decide +kernel
theorem dX8_moveFromLateThings_10 : decode cX8_moveFromLateThings 10 = .ok (.if_icmp .ge 52, 3) := by decide +kernel
theorem dX8_moveFromLateThings_13 : decode cX8_moveFromLateThings 13 = .ok (.aload_n 0, 1) := by decide +kernel
theorem dX8_moveFromLateThings_14 : decode cX8_moveFromLateThings 14 = .ok (.invokevirtual 315, 3) := by decide +kernel
theorem dX8_moveFromLateThings_17 : decode cX8_moveFromLateThings 17 = .ok (.astore_n 2, 1) := by decide +kernel
theorem dX8_moveFromLateThings_18 : decode cX8_moveFromLateThings 18 = .ok (.aload_n 2, 1) := by decide +kernel
theorem dX8_moveFromLateThings_19 : decode cX8_moveFromLateThings 19 = .ok (.ifnonnull 4, 3) := by decide +kernel
theorem dX8_moveFromLateThings_22 : decode cX8_moveFromLateThings 22 = .ok (.return_, 1) := by decide +kernel
theorem dX8_moveFromLateThings_23 : decode cX8_moveFromLateThings 23 = .ok (.aload_n 0, 1) := by decide +kernel
theorem dX8_moveFromLateThings_24 : decode cX8_moveFromLateThings 24 = .ok (.aload_n 2, 1) := by decide +kernel
theorem dX8_moveFromLateThings_25 : decode cX8_moveFromLateThings 25 = .ok (.invokevirtual 319, 3) := by decide +kernel
theorem dX8_moveFromLateThings_28 : decode cX8_moveFromLateThings 28 = .ok (.astore_n 3, 1) := by decide +kernel
theorem dX8_moveFromLateThings_29 : decode cX8_moveFromLateThings 29 = .ok (.aload_n 3, 1) := by decide +kernel
theorem dX8_moveFromLateThings_30 : decode cX8_moveFromLateThings 30 = .ok (.ifnonnull 11, 3) := by decide +kernel
theorem dX8_moveFromLateThings_33 : decode cX8_moveFromLateThings 33 = .ok (.aload_n 2, 1) := by decide +kernel
theorem dX8_moveFromLateThings_34 : decode cX8_moveFromLateThings 34 = .ok (.iconst 5, 1) := by decide +kernel
theorem dX8_moveFromLateThings_35 : decode cX8_moveFromLateThings 35 = .ok (.putfield 162, 3) := by decide +kernel
theorem dX8_moveFromLateThings_38 : decode cX8_moveFromLateThings 38 = .ok (.goto 18, 3) := by decide +kernel
theorem dX8_moveFromLateThings_41 : decode cX8_moveFromLateThings 41 = .ok (.aload_n 2, 1) := by decide +kernel
theorem dX8_moveFromLateThings_42 : decode cX8_moveFromLateThings 42 = .ok (.aload_n 3, 1) := by decide +kernel
theorem dX8_moveFromLateThings_43 : decode cX8_moveFromLateThings 43 = .ok (.putfield 183, 3) := by decide +kernel
theorem dX8_moveFromLateThings_46 : decode cX8_moveFromLateThings 46 = .ok (.aload_n 2, 1) := by decide +kernel
theorem dX8_moveFromLateThings_47 : decode cX8_moveFromLateThings 47 = .ok (.dup, 1) := by decide +kernel
theorem dX8_moveFromLateThings_48 : decode cX8_moveFromLateThings 48 = .ok (.getfield 253, 3) := by decide +kernel
theorem dX8_moveFromLateThings_51 : decode cX8_moveFromLateThings 51 = .ok (.iconst 1, 1) := by decide +kernel
theorem dX8_moveFromLateThings_52 : decode cX8_moveFromLateThings 52 = .ok (.iadd, 1) := by decide +kernel
theorem dX8_moveFromLateThings_53 : decode cX8_moveFromLateThings 53 = .ok (.putfield 253, 3) := by decide +kernel
theorem dX8_moveFromLateThings_56 : decode cX8_moveFromLateThings 56 = .ok (.iinc 1 1, 3) := by decide +kernel
theorem dX8_moveFromLateThings_59 : decode cX8_moveFromLateThings 59 = .ok (.goto (-57), 3) := by decide +kernel
theorem dX8_moveFromLateThings_62 : decode cX8_moveFromLateThings 62 = .ok (.return_, 1) := by decide +kernel
theorem dX8_nextToMove_0 : decode cX8_nextToMove 0 = .ok (.aconst_null, 1) := by decide +kernel
theorem dX8_nextToMove_1 : decode cX8_nextToMove 1 = .ok (.astore_n 1, 1) := by decide +kernel
theorem dX8_nextToMove_2 : decode cX8_nextToMove 2 = .ok (.iconst 0, 1) := by decide +kernel
theorem dX8_nextToMove_3 : decode cX8_nextToMove 3 = .ok (.istore_n 2, 1) := by decide +kernel
theorem dX8_nextToMove_4 : decode cX8_nextToMove 4 = .ok (.iload_n 2, 1) := by decide +kernel
theorem dX8_nextToMove_5 : decode cX8_nextToMove 5 = .ok (.aload_n 0, 1) := by decide +kernel
theorem dX8_nextToMove_6 : decode cX8_nextToMove 6 = .ok (.getfield 22, 3) := by decide +kernel
theorem dX8_nextToMove_9 : decode cX8_nextToMove 9 = .ok (.invokevirtual 60, 3) := by decide +kernel
theorem dX8_nextToMove_12 : decode cX8_nextToMove 12 = .ok (.if_icmp .ge 43, 3) := by decide +kernel
theorem dX8_nextToMove_15 : decode cX8_nextToMove 15 = .ok (.aload_n 0, 1) := by decide +kernel
theorem dX8_nextToMove_16 : decode cX8_nextToMove 16 = .ok (.getfield 22, 3) := by decide +kernel
theorem dX8_nextToMove_19 : decode cX8_nextToMove 19 = .ok (.iload_n 2, 1) := by decide +kernel
theorem dX8_nextToMove_20 : decode cX8_nextToMove 20 = .ok (.invokevirtual 158, 3) := by decide +kernel
theorem dX8_nextToMove_23 : decode cX8_nextToMove 23 = .ok (.checkcast 150, 3) := by decide +kernel
theorem dX8_nextToMove_26 : decode cX8_nextToMove 26 = .ok (.astore_n 3, 1) := by decide +kernel
theorem dX8_nextToMove_27 : decode cX8_nextToMove 27 = .ok (.aload_n 0, 1) := by decide +kernel
theorem dX8_nextToMove_28 : decode cX8_nextToMove 28 = .ok (.aload_n 3, 1) := by decide +kernel
theorem dX8_nextToMove_29 : decode cX8_nextToMove 29 = .ok (.invokevirtual 323, 3) := by decide +kernel
theorem dX8_nextToMove_32 : decode cX8_nextToMove 32 = .ok (.ifCond .eq 17, 3) := by decide +kernel
theorem dX8_nextToMove_35 : decode cX8_nextToMove 35 = .ok (.aload_n 1, 1) := by decide +kernel
theorem dX8_nextToMove_36 : decode cX8_nextToMove 36 = .ok (.ifnull 11, 3) := by decide +kernel
theorem dX8_nextToMove_39 : decode cX8_nextToMove 39 = .ok (.aload_n 3, 1) := by decide +kernel
theorem dX8_nextToMove_40 : decode cX8_nextToMove 40 = .ok (.aload_n 1, 1) := by decide +kernel
theorem dX8_nextToMove_41 : decode cX8_nextToMove 41 = .ok (.invokevirtual 326, 3) := by decide +kernel
theorem dX8_nextToMove_44 : decode cX8_nextToMove 44 = .ok (.ifCond .eq 5, 3) := by decide +kernel
theorem dX8_nextToMove_47 : decode cX8_nextToMove 47 = .ok (.aload_n 3, 1) := by decide +kernel
theorem dX8_nextToMove_48 : decode cX8_nextToMove 48 = .ok (.astore_n 1, 1) := by decide +kernel
theorem dX8_nextToMove_49 : decode cX8_nextToMove 49 = .ok (.iinc 2 1, 3) := by decide +kernel
theorem dX8_nextToMove_52 : decode cX8_nextToMove 52 = .ok (.goto (-48), 3) := by decide +kernel
theorem dX8_nextToMove_55 : decode cX8_nextToMove 55 = .ok (.aload_n 1, 1) := by decide +kernel
theorem dX8_nextToMove_56 : decode cX8_nextToMove 56 = .ok (.areturn, 1) := by decide +kernel
theorem dX8_mustMove_0 : decode cX8_mustMove 0 = .ok (.aload_n 1, 1) := by decide +kernel
theorem dX8_mustMove_1 : decode cX8_mustMove 1 = .ok (.getfield 162, 3) := by decide +kernel
theorem dX8_mustMove_4 : decode cX8_mustMove 4 = .ok (.iconst 1, 1) := by decide +kernel
theorem dX8_mustMove_5 : decode cX8_mustMove 5 = .ok (.if_icmp .ne 40, 3) := by decide +kernel
theorem dX8_mustMove_8 : decode cX8_mustMove 8 = .ok (.aload_n 1, 1) := by decide +kernel
theorem dX8_mustMove_9 : decode cX8_mustMove 9 = .ok (.getfield 183, 3) := by decide +kernel
theorem dX8_mustMove_12 : decode cX8_mustMove 12 = .ok (.ifnull 33, 3) := by decide +kernel
theorem dX8_mustMove_15 : decode cX8_mustMove 15 = .ok (.aload_n 1, 1) := by decide +kernel
theorem dX8_mustMove_16 : decode cX8_mustMove 16 = .ok (.getfield 183, 3) := by decide +kernel
theorem dX8_mustMove_19 : decode cX8_mustMove 19 = .ok (.aload_n 0, 1) := by decide +kernel
theorem dX8_mustMove_20 : decode cX8_mustMove 20 = .ok (.getfield 56, 3) := by decide +kernel
theorem dX8_mustMove_23 : decode cX8_mustMove 23 = .ok (.invokevirtual 265, 3) := by decide +kernel
theorem dX8_mustMove_26 : decode cX8_mustMove 26 = .ok (.ifCond .eq 19, 3) := by decide +kernel
theorem dX8_mustMove_29 : decode cX8_mustMove 29 = .ok (.aload_n 0, 1) := by decide +kernel
theorem dX8_mustMove_30 : decode cX8_mustMove 30 = .ok (.aload_n 1, 1) := by decide +kernel
theorem dX8_mustMove_31 : decode cX8_mustMove 31 = .ok (.aload_n 1, 1) := by decide +kernel
theorem dX8_mustMove_32 : decode cX8_mustMove 32 = .ok (.getfield 183, 3) := by decide +kernel
theorem dX8_mustMove_35 : decode cX8_mustMove 35 = .ok (.invokevirtual 299, 3) := by decide +kernel
theorem dX8_mustMove_38 : decode cX8_mustMove 38 = .ok (.ifCond .ne 7, 3) := by decide +kernel
theorem dX8_mustMove_41 : decode cX8_mustMove 41 = .ok (.iconst 1, 1) := by decide +kernel
theorem dX8_mustMove_42 : decode cX8_mustMove 42 = .ok (.goto 4, 3) := by decide +kernel
theorem dX8_mustMove_45 : decode cX8_mustMove 45 = .ok (.iconst 0, 1) := by decide +kernel
theorem dX8_mustMove_46 : decode cX8_mustMove 46 = .ok (.ireturn, 1) := by decide +kernel
theorem dX8_firstOtherThingFor_0 : decode cX8_firstOtherThingFor 0 = .ok (.iconst 0, 1) := by decide +kernel
theorem dX8_firstOtherThingFor_1 : decode cX8_firstOtherThingFor 1 = .ok (.istore_n 2, 1) := by decide +kernel
theorem dX8_firstOtherThingFor_2 : decode cX8_firstOtherThingFor 2 = .ok (.iload_n 2, 1) := by decide +kernel
theorem dX8_firstOtherThingFor_3 : decode cX8_firstOtherThingFor 3 = .ok (.aload_n 0, 1) := by decide +kernel
theorem dX8_firstOtherThingFor_4 : decode cX8_firstOtherThingFor 4 = .ok (.getfield 16, 3) := by decide +kernel
theorem dX8_firstOtherThingFor_7 : decode cX8_firstOtherThingFor 7 = .ok (.invokevirtual 60, 3) := by decide +kernel
theorem dX8_firstOtherThingFor_10 : decode cX8_firstOtherThingFor 10 = .ok (.if_icmp .ge 62, 3) := by decide +kernel
theorem dX8_firstOtherThingFor_13 : decode cX8_firstOtherThingFor 13 = .ok (.aload_n 0, 1) := by decide +kernel
theorem dX8_firstOtherThingFor_14 : decode cX8_firstOtherThingFor 14 = .ok (.getfield 16, 3) := by decide +kernel
theorem dX8_firstOtherThingFor_17 : decode cX8_firstOtherThingFor 17 = .ok (.iload_n 2, 1) := by decide +kernel
theorem dX8_firstOtherThingFor_18 : decode cX8_firstOtherThingFor 18 = .ok (.invokevirtual 158, 3) := by decide +kernel
theorem dX8_firstOtherThingFor_21 : decode cX8_firstOtherThingFor 21 = .ok (.checkcast 81, 3) := by decide +kernel
theorem dX8_firstOtherThingFor_24 : decode cX8_firstOtherThingFor 24 = .ok (.astore_n 3, 1) := by decide +kernel
theorem dX8_firstOtherThingFor_25 : decode cX8_firstOtherThingFor 25 = .ok (.aload_n 3, 1) := by decide +kernel
theorem dX8_firstOtherThingFor_26 : decode cX8_firstOtherThingFor 26 = .ok (.aload_n 1, 1) := by decide +kernel
theorem dX8_firstOtherThingFor_27 : decode cX8_firstOtherThingFor 27 = .ok (.getfield 183, 3) := by decide +kernel
theorem dX8_firstOtherThingFor_30 : decode cX8_firstOtherThingFor 30 = .ok (.if_acmp .eq 36, 3) := by decide +kernel
theorem dX8_firstOtherThingFor_33 : decode cX8_firstOtherThingFor 33 = .ok (.aload_n 3, 1) := by decide +kernel
theorem dX8_firstOtherThingFor_34 : decode cX8_firstOtherThingFor 34 = .ok (.aload_n 0, 1) := by decide +kernel
theorem dX8_firstOtherThingFor_35 : decode cX8_firstOtherThingFor 35 = .ok (.getfield 56, 3) := by decide +kernel
theorem dX8_firstOtherThingFor_38 : decode cX8_firstOtherThingFor 38 = .ok (.invokevirtual 265, 3) := by decide +kernel
theorem dX8_firstOtherThingFor_41 : decode cX8_firstOtherThingFor 41 = .ok (.ifCond .ne 25, 3) := by decide +kernel
theorem dX8_firstOtherThingFor_44 : decode cX8_firstOtherThingFor 44 = .ok (.aload_n 3, 1) := by decide +kernel
theorem dX8_firstOtherThingFor_45 : decode cX8_firstOtherThingFor 45 = .ok (.getfield 210, 3) := by decide +kernel
theorem dX8_firstOtherThingFor_48 : decode cX8_firstOtherThingFor 48 = .ok (.aload_n 1, 1) := by decide +kernel
theorem dX8_firstOtherThingFor_49 : decode cX8_firstOtherThingFor 49 = .ok (.invokevirtual 236, 3) := by decide +kernel
theorem dX8_firstOtherThingFor_52 : decode cX8_firstOtherThingFor 52 = .ok (.ifCond .eq 14, 3) := by decide +kernel
theorem dX8_firstOtherThingFor_55 : decode cX8_firstOtherThingFor 55 = .ok (.aload_n 0, 1) := by decide +kernel
theorem dX8_firstOtherThingFor_56 : decode cX8_firstOtherThingFor 56 = .ok (.aload_n 1, 1) := by decide +kernel
theorem dX8_firstOtherThingFor_57 : decode cX8_firstOtherThingFor 57 = .ok (.aload_n 3, 1) := by decide +kernel
theorem dX8_firstOtherThingFor_58 : decode cX8_firstOtherThingFor 58 = .ok (.invokevirtual 299, 3) := by decide +kernel
theorem dX8_firstOtherThingFor_61 : decode cX8_firstOtherThingFor 61 = .ok (.ifCond .eq 5, 3) := by decide +kernel
theorem dX8_firstOtherThingFor_64 : decode cX8_firstOtherThingFor 64 = .ok (.aload_n 3, 1) := by decide +kernel
theorem dX8_firstOtherThingFor_65 : decode cX8_firstOtherThingFor 65 = .ok (.areturn, 1) := by decide +kernel
theorem dX8_firstOtherThingFor_66 : decode cX8_firstOtherThingFor 66 = .ok (.iinc 2 1, 3) := by decide +kernel
theorem dX8_firstOtherThingFor_69 : decode cX8_firstOtherThingFor 69 = .ok (.goto (-67), 3) := by decide +kernel
theorem dX8_firstOtherThingFor_72 : decode cX8_firstOtherThingFor 72 = .ok (.aconst_null, 1) := by decide +kernel
theorem dX8_firstOtherThingFor_73 : decode cX8_firstOtherThingFor 73 = .ok (.areturn, 1) := by decide +kernel
theorem dX9_init_0 : decode cX9_init 0 = .ok (.aload_n 0, 1) := by decide +kernel
theorem dX9_init_1 : decode cX9_init 1 = .ok (.invokespecial 1, 3) := by decide +kernel
theorem dX9_init_4 : decode cX9_init 4 = .ok (.aload_n 0, 1) := by decide +kernel
theorem dX9_init_5 : decode cX9_init 5 = .ok (.bipush 8, 2) := by decide +kernel
theorem dX9_init_7 : decode cX9_init 7 = .ok (.newarray .int, 2) := by decide +kernel
theorem dX9_init_9 : decode cX9_init 9 = .ok (.putfield 7, 3) := by decide +kernel
theorem dX9_init_12 : decode cX9_init 12 = .ok (.aload_n 0, 1) := by decide +kernel
theorem dX9_init_13 : decode cX9_init 13 = .ok (.bipush 8, 2) := by decide +kernel
theorem dX9_init_15 : decode cX9_init 15 = .ok (.newarray .int, 2) := by decide +kernel
theorem dX9_init_17 : decode cX9_init 17 = .ok (.putfield 13, 3) := by decide +kernel
theorem dX9_init_20 : decode cX9_init 20 = .ok (.aload_n 0, 1) := by decide +kernel
theorem dX9_init_21 : decode cX9_init 21 = .ok (.bipush 8, 2) := by decide +kernel
theorem dX9_init_23 : decode cX9_init 23 = .ok (.newarray .int, 2) := by decide +kernel
theorem dX9_init_25 : decode cX9_init 25 = .ok (.putfield 16, 3) := by decide +kernel
theorem dX9_init_28 : decode cX9_init 28 = .ok (.aload_n 0, 1) := by decide +kernel
theorem dX9_init_29 : decode cX9_init 29 = .ok (.bipush 12, 2) := by decide +kernel
theorem dX9_init_31 : decode cX9_init 31 = .ok (.newarray .int, 2) := by decide +kernel
theorem dX9_init_33 : decode cX9_init 33 = .ok (.putfield 19, 3) := by decide +kernel
theorem dX9_init_36 : decode cX9_init 36 = .ok (.aload_n 0, 1) := by decide +kernel
theorem dX9_init_37 : decode cX9_init 37 = .ok (.bipush 12, 2) := by decide +kernel
theorem dX9_init_39 : decode cX9_init 39 = .ok (.newarray .int, 2) := by decide +kernel
theorem dX9_init_41 : decode cX9_init 41 = .ok (.putfield 22, 3) := by decide +kernel
theorem dX9_init_44 : decode cX9_init 44 = .ok (.aload_n 0, 1) := by decide +kernel
theorem dX9_init_45 : decode cX9_init 45 = .ok (.bipush 10, 2) := by decide +kernel
theorem dX9_init_47 : decode cX9_init 47 = .ok (.newarray .int, 2) := by decide +kernel
theorem dX9_init_49 : decode cX9_init 49 = .ok (.putfield 25, 3) := by decide +kernel
theorem dX9_init_52 : decode cX9_init 52 = .ok (.aload_n 0, 1) := by decide +kernel
theorem dX9_init_53 : decode cX9_init 53 = .ok (.bipush 10, 2) := by decide +kernel
theorem dX9_init_55 : decode cX9_init 55 = .ok (.newarray .int, 2) := by decide +kernel
theorem dX9_init_57 : decode cX9_init 57 = .ok (.putfield 28, 3) := by decide +kernel
theorem dX9_init_60 : decode cX9_init 60 = .ok (.aload_n 0, 1) := by decide +kernel
theorem dX9_init_61 : decode cX9_init 61 = .ok (.sipush 200, 3) := by decide +kernel
theorem dX9_init_64 : decode cX9_init 64 = .ok (.newarray .byte, 2) := by decide +kernel
theorem dX9_init_66 : decode cX9_init 66 = .ok (.putfield 31, 3) := by decide +kernel
theorem dX9_init_69 : decode cX9_init 69 = .ok (.aload_n 0, 1) := by decide +kernel
theorem dX9_init_70 : decode cX9_init 70 = .ok (.bipush 8, 2) := by decide +kernel
theorem dX9_init_72 : decode cX9_init 72 = .ok (.newarray .int, 2) := by decide +kernel
theorem dX9_init_74 : decode cX9_init 74 = .ok (.putfield 35, 3) := by decide +kernel
theorem dX9_init_77 : decode cX9_init 77 = .ok (.aload_n 0, 1) := by decide +kernel
theorem dX9_init_78 : decode cX9_init 78 = .ok (.bipush 8, 2) := by decide +kernel
theorem dX9_init_80 : decode cX9_init 80 = .ok (.newarray .int, 2) := by decide +kernel
theorem dX9_init_82 : decode cX9_init 82 = .ok (.putfield 38, 3) := by decide +kernel
theorem dX9_init_85 : decode cX9_init 85 = .ok (.aload_n 0, 1) := by decide +kernel
theorem dX9_init_86 : decode cX9_init 86 = .ok (.iconst (-1), 1) := by decide +kernel
theorem dX9_init_87 : decode cX9_init 87 = .ok (.putfield 41, 3) := by decide +kernel
theorem dX9_init_90 : decode cX9_init 90 = .ok (.aload_n 0, 1) := by decide +kernel
theorem dX9_init_91 : decode cX9_init 91 = .ok (.bipush 120, 2) := by decide +kernel
theorem dX9_init_93 : decode cX9_init 93 = .ok (.newarray .int, 2) := by decide +kernel
theorem dX9_init_95 : decode cX9_init 95 = .ok (.putfield 45, 3) := by decide +kernel
theorem dX9_init_98 : decode cX9_init 98 = .ok (.aload_n 0, 1) := by decide +kernel
theorem dX9_init_99 : decode cX9_init 99 = .ok (.bipush 120, 2) := by decide +kernel
theorem dX9_init_101 : decode cX9_init 101 = .ok (.newarray .int, 2) := by decide +kernel
theorem dX9_init_103 : decode cX9_init 103 = .ok (.putfield 48, 3) := by decide +kernel
theorem dX9_init_106 : decode cX9_init 106 = .ok (.aload_n 0, 1) := by decide +kernel
theorem dX9_init_107 : decode cX9_init 107 = .ok (.bipush 120, 2) := by decide +kernel
theorem dX9_init_109 : decode cX9_init 109 = .ok (.newarray .int, 2) := by decide +kernel
theorem dX9_init_111 : decode cX9_init 111 = .ok (.putfield 51, 3) := by decide +kernel
theorem dX9_init_114 : decode cX9_init 114 = .ok (.aload_n 0, 1) := by decide +kernel
theorem dX9_init_115 : decode cX9_init 115 = .ok (.bipush 120, 2) := by decide +kernel
theorem dX9_init_117 : decode cX9_init 117 = .ok (.newarray .int, 2) := by decide +kernel
theorem dX9_init_119 : decode cX9_init 119 = .ok (.putfield 54, 3) := by decide +kernel
theorem dX9_init_122 : decode cX9_init 122 = .ok (.aload_n 0, 1) := by decide +kernel
theorem dX9_init_123 : decode cX9_init 123 = .ok (.bipush 120, 2) := by decide +kernel
theorem dX9_init_125 : decode cX9_init 125 = .ok (.newarray .int, 2) := by decide +kernel
theorem dX9_init_127 : decode cX9_init 127 = .ok (.putfield 57, 3) := by decide +kernel
theorem dX9_init_130 : decode cX9_init 130 = .ok (.aload_n 0, 1) := by decide +kernel
theorem dX9_init_131 : decode cX9_init 131 = .ok (.bipush 120, 2) := by decide +kernel
theorem dX9_init_133 : decode cX9_init 133 = .ok (.newarray .int, 2) := by decide +kernel
theorem dX9_init_135 : decode cX9_init 135 = .ok (.putfield 60, 3) := by decide +kernel
theorem dX9_init_138 : decode cX9_init 138 = .ok (.aload_n 0, 1) := by decide +kernel
theorem dX9_init_139 : decode cX9_init 139 = .ok (.bipush 120, 2) := by decide +kernel
theorem dX9_init_141 : decode cX9_init 141 = .ok (.newarray .int, 2) := by decide +kernel
theorem dX9_init_143 : decode cX9_init 143 = .ok (.putfield 63, 3) := by decide +kernel
theorem dX9_init_146 : decode cX9_init 146 = .ok (.aload_n 0, 1) := by decide +kernel
theorem dX9_init_147 : decode cX9_init 147 = .ok (.bipush 120, 2) := by decide +kernel
theorem dX9_init_149 : decode cX9_init 149 = .ok (.newarray .int, 2) := by decide +kernel
theorem dX9_init_151 : decode cX9_init 151 = .ok (.putfield 66, 3) := by decide +kernel
theorem dX9_init_154 : decode cX9_init 154 = .ok (.aload_n 0, 1) := by decide +kernel
theorem dX9_init_155 : decode cX9_init 155 = .ok (.bipush 120, 2) := by decide +kernel
theorem dX9_init_157 : decode cX9_init 157 = .ok (.newarray .int, 2) := by decide +kernel
theorem dX9_init_159 : decode cX9_init 159 = .ok (.putfield 69, 3) := by decide +kernel
theorem dX9_init_162 : decode cX9_init 162 = .ok (.aload_n 0, 1) := by decide +kernel
theorem dX9_init_163 : decode cX9_init 163 = .ok (.bipush 120, 2) := by decide +kernel
theorem dX9_init_165 : decode cX9_init 165 = .ok (.newarray .int, 2) := by decide +kernel
theorem dX9_init_167 : decode cX9_init 167 = .ok (.putfield 72, 3) := by decide +kernel
theorem dX9_init_170 : decode cX9_init 170 = .ok (.aload_n 0, 1) := by decide +kernel
theorem dX9_init_171 : decode cX9_init 171 = .ok (.iconst 5, 1) := by decide +kernel
theorem dX9_init_172 : decode cX9_init 172 = .ok (.newarray .int, 2) := by decide +kernel
theorem dX9_init_174 : decode cX9_init 174 = .ok (.putfield 75, 3) := by decide +kernel
theorem dX9_init_177 : decode cX9_init 177 = .ok (.aload_n 0, 1) := by decide +kernel
theorem dX9_init_178 : decode cX9_init 178 = .ok (.iconst 5, 1) := by decide +kernel
theorem dX9_init_179 : decode cX9_init 179 = .ok (.newarray .int, 2) := by decide +kernel
theorem dX9_init_181 : decode cX9_init 181 = .ok (.putfield 78, 3) := by decide +kernel
theorem dX9_init_184 : decode cX9_init 184 = .ok (.aload_n 0, 1) := by decide +kernel
theorem dX9_init_185 : decode cX9_init 185 = .ok (.iconst 5, 1) := by decide +kernel
theorem dX9_init_186 : decode cX9_init 186 = .ok (.newarray .int, 2) := by decide +kernel
theorem dX9_init_188 : decode cX9_init 188 = .ok (.putfield 81, 3) := by decide +kernel
theorem dX9_init_191 : decode cX9_init 191 = .ok (.aload_n 0, 1) := by decide +kernel
theorem dX9_init_192 : decode cX9_init 192 = .ok (.bipush 60, 2) := by decide +kernel
theorem dX9_init_194 : decode cX9_init 194 = .ok (.newarray .boolean, 2) := by decide +kernel
theorem dX9_init_196 : decode cX9_init 196 = .ok (.putfield 84, 3) := by decide +kernel
theorem dX9_init_199 : decode cX9_init 199 = .ok (.aload_n 0, 1) := by decide +kernel
theorem dX9_init_200 : decode cX9_init 200 = .ok (.bipush 120, 2) := by decide +kernel
theorem dX9_init_202 : decode cX9_init 202 = .ok (.newarray .boolean, 2) := by decide +kernel
theorem dX9_init_204 : decode cX9_init 204 = .ok (.putfield 88, 3) := by decide +kernel
theorem dX9_init_207 : decode cX9_init 207 = .ok (.aload_n 0, 1) := by decide +kernel
theorem dX9_init_208 : decode cX9_init 208 = .ok (.bipush 120, 2) := by decide +kernel
theorem dX9_init_210 : decode cX9_init 210 = .ok (.newarray .int, 2) := by decide +kernel
theorem dX9_init_212 : decode cX9_init 212 = .ok (.putfield 91, 3) := by decide +kernel
theorem dX9_init_215 : decode cX9_init 215 = .ok (.aload_n 0, 1) := by decide +kernel
theorem dX9_init_216 : decode cX9_init 216 = .ok (.bipush 120, 2) := by decide +kernel
theorem dX9_init_218 : decode cX9_init 218 = .ok (.newarray .int, 2) := by decide +kernel
theorem dX9_init_220 : decode cX9_init 220 = .ok (.putfield 94, 3) := by decide +kernel
theorem dX9_init_223 : decode cX9_init 223 = .ok (.return_, 1) := by decide +kernel
theorem dX9_thrown_0 : decode cX9_thrown 0 = .ok (.aload_n 0, 1) := by decide +kernel
theorem dX9_thrown_1 : decode cX9_thrown 1 = .ok (.getfield 97, 3) := by decide +kernel
theorem dX9_thrown_4 : decode cX9_thrown 4 = .ok (.ireturn, 1) := by decide +kernel
theorem dX9_within_0 : decode cX9_within 0 = .ok (.iload_n 0, 1) := by decide +kernel
theorem dX9_within_1 : decode cX9_within 1 = .ok (.iload_n 1, 1) := by decide +kernel
theorem dX9_within_2 : decode cX9_within 2 = .ok (.if_icmp .lt 12, 3) := by decide +kernel
theorem dX9_within_5 : decode cX9_within 5 = .ok (.iload_n 0, 1) := by decide +kernel
theorem dX9_within_6 : decode cX9_within 6 = .ok (.iload_n 2, 1) := by decide +kernel
theorem dX9_within_7 : decode cX9_within 7 = .ok (.if_icmp .gt 7, 3) := by decide +kernel
theorem dX9_within_10 : decode cX9_within 10 = .ok (.iconst 1, 1) := by decide +kernel
theorem dX9_within_11 : decode cX9_within 11 = .ok (.goto 4, 3) := by decide +kernel
theorem dX9_within_14 : decode cX9_within 14 = .ok (.iconst 0, 1) := by decide +kernel
theorem dX9_within_15 : decode cX9_within 15 = .ok (.ireturn, 1) := by decide +kernel
theorem dX9_kind_0 : decode cX9_kind 0 = .ok (.aload_n 0, 1) := by decide +kernel
theorem dX9_kind_1 : decode cX9_kind 1 = .ok (.iconst 0, 1) := by decide +kernel
theorem dX9_kind_2 : decode cX9_kind 2 = .ok (.putfield 97, 3) := by decide +kernel
theorem dX9_kind_5 : decode cX9_kind 5 = .ok (.iload_n 1, 1) := by decide +kernel
theorem dX9_kind_6 : decode cX9_kind 6 = .ok (.iconst 0, 1) := by decide +kernel
theorem dX9_kind_7 : decode cX9_kind 7 = .ok (.iconst 5, 1) := by decide +kernel
theorem dX9_kind_8 : decode cX9_kind 8 = .ok (.invokestatic 100, 3) := by decide +kernel
theorem dX9_kind_11 : decode cX9_kind 11 = .ok (.ifCond .eq 33, 3) := by decide +kernel
theorem dX9_kind_14 : decode cX9_kind 14 = .ok (.iload_n 2, 1) := by decide +kernel
theorem dX9_kind_15 : decode cX9_kind 15 = .ok (.iconst 0, 1) := by decide +kernel
theorem dX9_kind_16 : decode cX9_kind 16 = .ok (.sipush 255, 3) := by decide +kernel
theorem dX9_kind_19 : decode cX9_kind 19 = .ok (.invokestatic 100, 3) := by decide +kernel
theorem dX9_kind_22 : decode cX9_kind 22 = .ok (.ifCond .eq 22, 3) := by decide +kernel
theorem dX9_kind_25 : decode cX9_kind 25 = .ok (.iload_n 3, 1) := by decide +kernel
theorem dX9_kind_26 : decode cX9_kind 26 = .ok (.iconst 0, 1) := by decide +kernel
theorem dX9_kind_27 : decode cX9_kind 27 = .ok (.bipush 100, 2) := by decide +kernel
theorem dX9_kind_29 : decode cX9_kind 29 = .ok (.invokestatic 100, 3) := by decide +kernel
theorem dX9_kind_32 : decode cX9_kind 32 = .ok (.ifCond .eq 12, 3) := by decide +kernel
theorem dX9_kind_35 : decode cX9_kind 35 = .ok (.aload_n 0, 1) := by decide +kernel
theorem dX9_kind_36 : decode cX9_kind 36 = .ok (.getfield 104, 3) := by decide +kernel
theorem dX9_kind_39 : decode cX9_kind 39 = .ok (.bipush 8, 2) := by decide +kernel
theorem dX9_kind_41 : decode cX9_kind 41 = .ok (.if_icmp .ne 5, 3) := by decide +kernel
theorem dX9_kind_44 : decode cX9_kind 44 = .ok (.iconst (-1), 1) := by decide +kernel
theorem dX9_kind_45 : decode cX9_kind 45 = .ok (.ireturn, 1) := by decide +kernel
theorem dX9_kind_46 : decode cX9_kind 46 = .ok (.aload_n 0, 1) := by decide +kernel
theorem dX9_kind_47 : decode cX9_kind 47 = .ok (.getfield 7, 3) := by decide +kernel
theorem dX9_kind_50 : decode cX9_kind 50 = .ok (.aload_n 0, 1) := by decide +kernel
theorem dX9_kind_51 : decode cX9_kind 51 = .ok (.getfield 104, 3) := by decide +kernel
theorem dX9_kind_54 : decode cX9_kind 54 = .ok (.iload_n 1, 1) := by decide +kernel
theorem dX9_kind_55 : decode cX9_kind 55 = .ok (.iastore, 1) := by decide +kernel
theorem dX9_kind_56 : decode cX9_kind 56 = .ok (.aload_n 0, 1) := by decide +kernel
theorem dX9_kind_57 : decode cX9_kind 57 = .ok (.getfield 13, 3) := by decide +kernel
theorem dX9_kind_60 : decode cX9_kind 60 = .ok (.aload_n 0, 1) := by decide +kernel
theorem dX9_kind_61 : decode cX9_kind 61 = .ok (.getfield 104, 3) := by decide +kernel
theorem dX9_kind_64 : decode cX9_kind 64 = .ok (.iload_n 2, 1) := by decide +kernel
theorem dX9_kind_65 : decode cX9_kind 65 = .ok (.iastore, 1) := by decide +kernel
theorem dX9_kind_66 : decode cX9_kind 66 = .ok (.aload_n 0, 1) := by decide +kernel
theorem dX9_kind_67 : decode cX9_kind 67 = .ok (.getfield 16, 3) := by decide +kernel
theorem dX9_kind_70 : decode cX9_kind 70 = .ok (.aload_n 0, 1) := by decide +kernel
theorem dX9_kind_71 : decode cX9_kind 71 = .ok (.getfield 104, 3) := by decide +kernel
theorem dX9_kind_74 : decode cX9_kind 74 = .ok (.iload_n 3, 1) := by decide +kernel
theorem dX9_kind_75 : decode cX9_kind 75 = .ok (.iastore, 1) := by decide +kernel
theorem dX9_kind_76 : decode cX9_kind 76 = .ok (.aload_n 0, 1) := by decide +kernel
theorem dX9_kind_77 : decode cX9_kind 77 = .ok (.dup, 1) := by decide +kernel
theorem dX9_kind_78 : decode cX9_kind 78 = .ok (.getfield 104, 3) := by decide +kernel
theorem dX9_kind_81 : decode cX9_kind 81 = .ok (.iconst 1, 1) := by decide +kernel
theorem dX9_kind_82 : decode cX9_kind 82 = .ok (.iadd, 1) := by decide +kernel
theorem dX9_kind_83 : decode cX9_kind 83 = .ok (.putfield 104, 3) := by decide +kernel
theorem dX9_kind_86 : decode cX9_kind 86 = .ok (.aload_n 0, 1) := by decide +kernel
theorem dX9_kind_87 : decode cX9_kind 87 = .ok (.getfield 104, 3) := by decide +kernel
theorem dX9_kind_90 : decode cX9_kind 90 = .ok (.iconst 1, 1) := by decide +kernel
theorem dX9_kind_91 : decode cX9_kind 91 = .ok (.isub, 1) := by decide +kernel
theorem dX9_kind_92 : decode cX9_kind 92 = .ok (.ireturn, 1) := by decide +kernel
theorem dX9_isKind_0 : decode cX9_isKind 0 = .ok (.iload_n 1, 1) := by decide +kernel
theorem dX9_isKind_1 : decode cX9_isKind 1 = .ok (.iconst 0, 1) := by decide +kernel
theorem dX9_isKind_2 : decode cX9_isKind 2 = .ok (.aload_n 0, 1) := by decide +kernel
theorem dX9_isKind_3 : decode cX9_isKind 3 = .ok (.getfield 104, 3) := by decide +kernel
theorem dX9_isKind_6 : decode cX9_isKind 6 = .ok (.iconst 1, 1) := by decide +kernel
theorem dX9_isKind_7 : decode cX9_isKind 7 = .ok (.isub, 1) := by decide +kernel
theorem dX9_isKind_8 : decode cX9_isKind 8 = .ok (.invokestatic 100, 3) := by decide +kernel
theorem dX9_isKind_11 : decode cX9_isKind 11 = .ok (.ireturn, 1) := by decide +kernel
theorem dX9_isThing_0 : decode cX9_isThing 0 = .ok (.iload_n 1, 1) := by decide +kernel
theorem dX9_isThing_1 : decode cX9_isThing 1 = .ok (.iconst 0, 1) := by decide +kernel
theorem dX9_isThing_2 : decode cX9_isThing 2 = .ok (.aload_n 0, 1) := by decide +kernel
theorem dX9_isThing_3 : decode cX9_isThing 3 = .ok (.getfield 107, 3) := by decide +kernel
theorem dX9_isThing_6 : decode cX9_isThing 6 = .ok (.iconst 1, 1) := by decide +kernel
theorem dX9_isThing_7 : decode cX9_isThing 7 = .ok (.isub, 1) := by decide +kernel
theorem dX9_isThing_8 : decode cX9_isThing 8 = .ok (.invokestatic 100, 3) := by decide +kernel
theorem dX9_isThing_11 : decode cX9_isThing 11 = .ok (.ireturn, 1) := by decide +kernel
theorem dX9_isMember_0 : decode cX9_isMember 0 = .ok (.iload_n 1, 1) := by decide +kernel
theorem dX9_isMember_1 : decode cX9_isMember 1 = .ok (.iconst 0, 1) := by decide +kernel
theorem dX9_isMember_2 : decode cX9_isMember 2 = .ok (.aload_n 0, 1) := by decide +kernel
theorem dX9_isMember_3 : decode cX9_isMember 3 = .ok (.getfield 110, 3) := by decide +kernel
theorem dX9_isMember_6 : decode cX9_isMember 6 = .ok (.iconst 1, 1) := by decide +kernel
theorem dX9_isMember_7 : decode cX9_isMember 7 = .ok (.isub, 1) := by decide +kernel
theorem dX9_isMember_8 : decode cX9_isMember 8 = .ok (.invokestatic 100, 3) := by decide +kernel
theorem dX9_isMember_11 : decode cX9_isMember 11 = .ok (.ireturn, 1) := by decide +kernel
theorem dX9_thing_0 : decode cX9_thing 0 = .ok (.aload_n 0, 1) := by decide +kernel
theorem dX9_thing_1 : decode cX9_thing 1 = .ok (.iconst 0, 1) := by decide +kernel
theorem dX9_thing_2 : decode cX9_thing 2 = .ok (.putfield 97, 3) := by decide +kernel
theorem dX9_thing_5 : decode cX9_thing 5 = .ok (.aload_n 0, 1) := by decide +kernel
theorem dX9_thing_6 : decode cX9_thing 6 = .ok (.iload_n 1, 1) := by decide +kernel
theorem dX9_thing_7 : decode cX9_thing 7 = .ok (.invokevirtual 113, 3) := by decide +kernel
theorem dX9_thing_10 : decode cX9_thing 10 = .ok (.ifCond .eq 12, 3) := by decide +kernel
theorem dX9_thing_13 : decode cX9_thing 13 = .ok (.aload_n 0, 1) := by decide +kernel
theorem dX9_thing_14 : decode cX9_thing 14 = .ok (.getfield 107, 3) := by decide +kernel
theorem dX9_thing_17 : decode cX9_thing 17 = .ok (.bipush 12, 2) := by decide +kernel
theorem dX9_thing_19 : decode cX9_thing 19 = .ok (.if_icmp .ne 5, 3) := by decide +kernel
theorem dX9_thing_22 : decode cX9_thing 22 = .ok (.iconst (-1), 1) := by decide +kernel
theorem dX9_thing_23 : decode cX9_thing 23 = .ok (.ireturn, 1) := by decide +kernel
theorem dX9_thing_24 : decode cX9_thing 24 = .ok (.aload_n 0, 1) := by decide +kernel
theorem dX9_thing_25 : decode cX9_thing 25 = .ok (.getfield 19, 3) := by decide +kernel
theorem dX9_thing_28 : decode cX9_thing 28 = .ok (.aload_n 0, 1) := by decide +kernel
theorem dX9_thing_29 : decode cX9_thing 29 = .ok (.getfield 107, 3) := by decide +kernel
theorem dX9_thing_32 : decode cX9_thing 32 = .ok (.iload_n 1, 1) := by decide +kernel
theorem dX9_thing_33 : decode cX9_thing 33 = .ok (.iastore, 1) := by decide +kernel
theorem dX9_thing_34 : decode cX9_thing 34 = .ok (.aload_n 0, 1) := by decide +kernel
theorem dX9_thing_35 : decode cX9_thing 35 = .ok (.getfield 22, 3) := by decide +kernel
theorem dX9_thing_38 : decode cX9_thing 38 = .ok (.aload_n 0, 1) := by decide +kernel
theorem dX9_thing_39 : decode cX9_thing 39 = .ok (.getfield 107, 3) := by decide +kernel
theorem dX9_thing_42 : decode cX9_thing 42 = .ok (.iconst (-1), 1) := by decide +kernel
theorem dX9_thing_43 : decode cX9_thing 43 = .ok (.iastore, 1) := by decide +kernel
theorem dX9_thing_44 : decode cX9_thing 44 = .ok (.aload_n 0, 1) := by decide +kernel
theorem dX9_thing_45 : decode cX9_thing 45 = .ok (.dup, 1) := by decide +kernel
theorem dX9_thing_46 : decode cX9_thing 46 = .ok (.getfield 107, 3) := by decide +kernel
theorem dX9_thing_49 : decode cX9_thing 49 = .ok (.iconst 1, 1) := by decide +kernel
theorem dX9_thing_50 : decode cX9_thing 50 = .ok (.iadd, 1) := by decide +kernel
theorem dX9_thing_51 : decode cX9_thing 51 = .ok (.putfield 107, 3) := by decide +kernel
theorem dX9_thing_54 : decode cX9_thing 54 = .ok (.aload_n 0, 1) := by decide +kernel
theorem dX9_thing_55 : decode cX9_thing 55 = .ok (.getfield 107, 3) := by decide +kernel
theorem dX9_thing_58 : decode cX9_thing 58 = .ok (.iconst 1, 1) := by decide +kernel
theorem dX9_thing_59 : decode cX9_thing 59 = .ok (.isub, 1) := by decide +kernel
theorem dX9_thing_60 : decode cX9_thing 60 = .ok (.ireturn, 1) := by decide +kernel
theorem dX9_member_0 : decode cX9_member 0 = .ok (.aload_n 0, 1) := by decide +kernel
theorem dX9_member_1 : decode cX9_member 1 = .ok (.iconst 0, 1) := by decide +kernel
theorem dX9_member_2 : decode cX9_member 2 = .ok (.putfield 97, 3) := by decide +kernel
theorem dX9_member_5 : decode cX9_member 5 = .ok (.aload_n 0, 1) := by decide +kernel
theorem dX9_member_6 : decode cX9_member 6 = .ok (.getfield 110, 3) := by decide +kernel
theorem dX9_member_9 : decode cX9_member 9 = .ok (.bipush 10, 2) := by decide +kernel
theorem dX9_member_11 : decode cX9_member 11 = .ok (.if_icmp .ne 5, 3) := by decide +kernel
theorem dX9_member_14 : decode cX9_member 14 = .ok (.iconst (-1), 1) := by decide +kernel
theorem dX9_member_15 : decode cX9_member 15 = .ok (.ireturn, 1) := by decide +kernel
theorem dX9_member_16 : decode cX9_member 16 = .ok (.aload_n 0, 1) := by decide +kernel
theorem dX9_member_17 : decode cX9_member 17 = .ok (.dup, 1) := by decide +kernel
theorem dX9_member_18 : decode cX9_member 18 = .ok (.getfield 110, 3) := by decide +kernel
theorem dX9_member_21 : decode cX9_member 21 = .ok (.iconst 1, 1) := by decide +kernel
theorem dX9_member_22 : decode cX9_member 22 = .ok (.iadd, 1) := by decide +kernel
theorem dX9_member_23 : decode cX9_member 23 = .ok (.putfield 110, 3) := by decide +kernel
theorem dX9_member_26 : decode cX9_member 26 = .ok (.aload_n 0, 1) := by decide +kernel
theorem dX9_member_27 : decode cX9_member 27 = .ok (.getfield 110, 3) := by decide +kernel
theorem dX9_member_30 : decode cX9_member 30 = .ok (.iconst 1, 1) := by decide +kernel
theorem dX9_member_31 : decode cX9_member 31 = .ok (.isub, 1) := by decide +kernel
theorem dX9_member_32 : decode cX9_member 32 = .ok (.ireturn, 1) := by decide +kernel
theorem dX9_feed_0 : decode cX9_feed 0 = .ok (.aload_n 0, 1) := by decide +kernel
theorem dX9_feed_1 : decode cX9_feed 1 = .ok (.iconst 0, 1) := by decide +kernel
theorem dX9_feed_2 : decode cX9_feed 2 = .ok (.putfield 97, 3) := by decide +kernel
theorem dX9_feed_5 : decode cX9_feed 5 = .ok (.aload_n 0, 1) := by decide +kernel
theorem dX9_feed_6 : decode cX9_feed 6 = .ok (.getfield 117, 3) := by decide +kernel
theorem dX9_feed_9 : decode cX9_feed 9 = .ok (.sipush 180, 3) := by decide +kernel
theorem dX9_feed_12 : decode cX9_feed 12 = .ok (.if_icmp .le 5, 3) := by decide +kernel
theorem dX9_feed_15 : decode cX9_feed 15 = .ok (.iconst (-1), 1) := by decide +kernel
theorem dX9_feed_16 : decode cX9_feed 16 = .ok (.ireturn, 1) := by decide +kernel
theorem dX9_feed_17 : decode cX9_feed 17 = .ok (.iconst 0, 1) := by decide +kernel
theorem dX9_feed_18 : decode cX9_feed 18 = .ok (.istore 6, 2) := by decide +kernel
theorem dX9_feed_20 : decode cX9_feed 20 = .ok (.iload 6, 2) := by decide +kernel
theorem dX9_feed_22 : decode cX9_feed 22 = .ok (.bipush 20, 2) := by decide +kernel
theorem dX9_feed_24 : decode cX9_feed 24 = .ok (.if_icmp .ge 90, 3) := by decide +kernel
theorem dX9_feed_27 : decode cX9_feed 27 = .ok (.iload 6, 2) := by decide +kernel
theorem dX9_feed_29 : decode cX9_feed 29 = .ok (.iconst 4, 1) := by decide +kernel
theorem dX9_feed_30 : decode cX9_feed 30 = .ok (.if_icmp .ge 7, 3) := by decide +kernel
theorem dX9_feed_33 : decode cX9_feed 33 = .ok (.iload_n 1, 1) := by decide +kernel
theorem dX9_feed_34 : decode cX9_feed 34 = .ok (.goto 39, 3) := by decide +kernel
theorem dX9_feed_37 : decode cX9_feed 37 = .ok (.iload 6, 2) := by decide +kernel
theorem dX9_feed_39 : decode cX9_feed 39 = .ok (.bipush 8, 2) := by decide +kernel
theorem dX9_feed_41 : decode cX9_feed 41 = .ok (.if_icmp .ge 7, 3) := by decide +kernel
theorem dX9_feed_44 : decode cX9_feed 44 = .ok (.iload_n 2, 1) := by decide +kernel
theorem dX9_feed_45 : decode cX9_feed 45 = .ok (.goto 28, 3) := by decide +kernel
theorem dX9_feed_48 : decode cX9_feed 48 = .ok (.iload 6, 2) := by decide +kernel
theorem dX9_feed_50 : decode cX9_feed 50 = .ok (.bipush 12, 2) := by decide +kernel
theorem dX9_feed_52 : decode cX9_feed 52 = .ok (.if_icmp .ge 7, 3) := by decide +kernel
theorem dX9_feed_55 : decode cX9_feed 55 = .ok (.iload_n 3, 1) := by decide +kernel
theorem dX9_feed_56 : decode cX9_feed 56 = .ok (.goto 17, 3) := by decide +kernel
theorem dX9_feed_59 : decode cX9_feed 59 = .ok (.iload 6, 2) := by decide +kernel
theorem dX9_feed_61 : decode cX9_feed 61 = .ok (.bipush 16, 2) := by decide +kernel
theorem dX9_feed_63 : decode cX9_feed 63 = .ok (.if_icmp .ge 8, 3) := by decide +kernel
theorem dX9_feed_66 : decode cX9_feed 66 = .ok (.iload 4, 2) := by decide +kernel
theorem dX9_feed_68 : decode cX9_feed 68 = .ok (.goto 5, 3) := by decide +kernel
theorem dX9_feed_71 : decode cX9_feed 71 = .ok (.iload 5, 2) := by decide +kernel
theorem dX9_feed_73 : decode cX9_feed 73 = .ok (.istore 7, 2) := by decide +kernel
theorem dX9_feed_75 : decode cX9_feed 75 = .ok (.aload_n 0, 1) := by decide +kernel
theorem dX9_feed_76 : decode cX9_feed 76 = .ok (.getfield 31, 3) := by decide +kernel
theorem dX9_feed_79 : decode cX9_feed 79 = .ok (.aload_n 0, 1) := by decide +kernel
theorem dX9_feed_80 : decode cX9_feed 80 = .ok (.getfield 117, 3) := by decide +kernel
theorem dX9_feed_83 : decode cX9_feed 83 = .ok (.iload 7, 2) := by decide +kernel
theorem dX9_feed_85 : decode cX9_feed 85 = .ok (.bipush 24, 2) := by decide +kernel
theorem dX9_feed_87 : decode cX9_feed 87 = .ok (.bipush 8, 2) := by decide +kernel
theorem dX9_feed_89 : decode cX9_feed 89 = .ok (.iload 6, 2) := by decide +kernel
theorem dX9_feed_91 : decode cX9_feed 91 = .ok (.iconst 4, 1) := by decide +kernel
theorem dX9_feed_92 : decode cX9_feed 92 = .ok (.irem, 1) := by decide +kernel
theorem dX9_feed_93 : decode cX9_feed 93 = .ok (.imul, 1) := by decide +kernel
theorem dX9_feed_94 : decode cX9_feed 94 = .ok (.isub, 1) := by decide +kernel
theorem dX9_feed_95 : decode cX9_feed 95 = .ok (.ishr, 1) := by decide +kernel
theorem dX9_feed_96 : decode cX9_feed 96 = .ok (.i2b, 1) := by decide +kernel
theorem dX9_feed_97 : decode cX9_feed 97 = .ok (.bastore, 1) := by decide +kernel
theorem dX9_feed_98 : decode cX9_feed 98 = .ok (.aload_n 0, 1) := by decide +kernel
theorem dX9_feed_99 : decode cX9_feed 99 = .ok (.dup, 1) := by decide +kernel
theorem dX9_feed_100 : decode cX9_feed 100 = .ok (.getfield 117, 3) := by decide +kernel
theorem dX9_feed_103 : decode cX9_feed 103 = .ok (.iconst 1, 1) := by decide +kernel
theorem dX9_feed_104 : decode cX9_feed 104 = .ok (.iadd, 1) := by decide +kernel
theorem dX9_feed_105 : decode cX9_feed 105 = .ok (.putfield 117, 3) := by decide +kernel
theorem dX9_feed_108 : decode cX9_feed 108 = .ok (.iinc 6 1, 3) := by decide +kernel
theorem dX9_feed_111 : decode cX9_feed 111 = .ok (.goto (-91), 3) := by decide +kernel
theorem dX9_feed_114 : decode cX9_feed 114 = .ok (.aload_n 0, 1) := by decide +kernel
theorem dX9_feed_115 : decode cX9_feed 115 = .ok (.getfield 117, 3) := by decide +kernel
theorem dX9_feed_118 : decode cX9_feed 118 = .ok (.ireturn, 1) := by decide +kernel
theorem dX9_end_0 : decode cX9_end 0 = .ok (.aload_n 0, 1) := by decide +kernel
theorem dX9_end_1 : decode cX9_end 1 = .ok (.iconst 0, 1) := by decide +kernel
theorem dX9_end_2 : decode cX9_end 2 = .ok (.putfield 97, 3) := by decide +kernel
theorem dX9_end_5 : decode cX9_end 5 = .ok (.iload_n 1, 1) := by decide +kernel
theorem dX9_end_6 : decode cX9_end 6 = .ok (.iconst 0, 1) := by decide +kernel
theorem dX9_end_7 : decode cX9_end 7 = .ok (.aload_n 0, 1) := by decide +kernel
theorem dX9_end_8 : decode cX9_end 8 = .ok (.getfield 117, 3) := by decide +kernel
theorem dX9_end_11 : decode cX9_end 11 = .ok (.invokestatic 100, 3) := by decide +kernel
theorem dX9_end_14 : decode cX9_end 14 = .ok (.ifCond .ne 5, 3) := by decide +kernel
theorem dX9_end_17 : decode cX9_end 17 = .ok (.iconst (-1), 1) := by decide +kernel
theorem dX9_end_18 : decode cX9_end 18 = .ok (.ireturn, 1) := by decide +kernel
theorem dX9_end_19 : decode cX9_end 19 = .ok (.aload_n 0, 1) := by decide +kernel
theorem dX9_end_20 : decode cX9_end 20 = .ok (.iload_n 1, 1) := by decide +kernel
theorem dX9_end_21 : decode cX9_end 21 = .ok (.putfield 117, 3) := by decide +kernel
theorem dX9_end_24 : decode cX9_end 24 = .ok (.iload_n 1, 1) := by decide +kernel
theorem dX9_end_25 : decode cX9_end 25 = .ok (.ireturn, 1) := by decide +kernel
theorem dX9_byteAt_0 : decode cX9_byteAt 0 = .ok (.iload_n 1, 1) := by decide +kernel
theorem dX9_byteAt_1 : decode cX9_byteAt 1 = .ok (.aload_n 0, 1) := by decide +kernel
theorem dX9_byteAt_2 : decode cX9_byteAt 2 = .ok (.getfield 117, 3) := by decide +kernel
theorem dX9_byteAt_5 : decode cX9_byteAt 5 = .ok (.if_icmp .ge 16, 3) := by decide +kernel
theorem dX9_byteAt_8 : decode cX9_byteAt 8 = .ok (.aload_n 0, 1) := by decide +kernel
theorem dX9_byteAt_9 : decode cX9_byteAt 9 = .ok (.getfield 31, 3) := by decide +kernel
theorem dX9_byteAt_12 : decode cX9_byteAt 12 = .ok (.iload_n 1, 1) := by decide +kernel
theorem dX9_byteAt_13 : decode cX9_byteAt 13 = .ok (.baload, 1) := by decide +kernel
theorem dX9_byteAt_14 : decode cX9_byteAt 14 = .ok (.sipush 255, 3) := by decide +kernel
theorem dX9_byteAt_17 : decode cX9_byteAt 17 = .ok (.iand, 1) := by decide +kernel
theorem dX9_byteAt_18 : decode cX9_byteAt 18 = .ok (.goto 4, 3) := by decide +kernel
theorem dX9_byteAt_21 : decode cX9_byteAt 21 = .ok (.iconst 0, 1) := by decide +kernel
theorem dX9_byteAt_22 : decode cX9_byteAt 22 = .ok (.ireturn, 1) := by decide +kernel
theorem dX9_token_0 : decode cX9_token 0 = .ok (.aload_n 0, 1) := by decide +kernel
theorem dX9_token_1 : decode cX9_token 1 = .ok (.aload_n 0, 1) := by decide +kernel
theorem dX9_token_2 : decode cX9_token 2 = .ok (.getfield 120, 3) := by decide +kernel
theorem dX9_token_5 : decode cX9_token 5 = .ok (.putfield 123, 3) := by decide +kernel
theorem dX9_token_8 : decode cX9_token 8 = .ok (.aload_n 0, 1) := by decide +kernel
theorem dX9_token_9 : decode cX9_token 9 = .ok (.aload_n 0, 1) := by decide +kernel
theorem dX9_token_10 : decode cX9_token 10 = .ok (.getfield 123, 3) := by decide +kernel
theorem dX9_token_13 : decode cX9_token 13 = .ok (.invokevirtual 126, 3) := by decide +kernel
theorem dX9_token_16 : decode cX9_token 16 = .ok (.bipush 32, 2) := by decide +kernel
theorem dX9_token_18 : decode cX9_token 18 = .ok (.if_icmp .eq 16, 3) := by decide +kernel
theorem dX9_token_21 : decode cX9_token 21 = .ok (.aload_n 0, 1) := by decide +kernel
theorem dX9_token_22 : decode cX9_token 22 = .ok (.aload_n 0, 1) := by decide +kernel
theorem dX9_token_23 : decode cX9_token 23 = .ok (.getfield 123, 3) := by decide +kernel
theorem dX9_token_26 : decode cX9_token 26 = .ok (.invokevirtual 126, 3) := by decide +kernel
theorem dX9_token_29 : decode cX9_token 29 = .ok (.bipush 10, 2) := by decide +kernel
theorem dX9_token_31 : decode cX9_token 31 = .ok (.if_icmp .ne 16, 3) := by decide +kernel
theorem dX9_token_34 : decode cX9_token 34 = .ok (.aload_n 0, 1) := by decide +kernel
theorem dX9_token_35 : decode cX9_token 35 = .ok (.dup, 1) := by decide +kernel
theorem dX9_token_36 : decode cX9_token 36 = .ok (.getfield 123, 3) := by decide +kernel
theorem dX9_token_39 : decode cX9_token 39 = .ok (.iconst 1, 1) := by decide +kernel
theorem dX9_token_40 : decode cX9_token 40 = .ok (.iadd, 1) := by decide +kernel
theorem dX9_token_41 : decode cX9_token 41 = .ok (.putfield 123, 3) := by decide +kernel
theorem dX9_token_44 : decode cX9_token 44 = .ok (.goto (-36), 3) := by decide +kernel
theorem dX9_token_47 : decode cX9_token 47 = .ok (.aload_n 0, 1) := by decide +kernel
theorem dX9_token_48 : decode cX9_token 48 = .ok (.aload_n 0, 1) := by decide +kernel
theorem dX9_token_49 : decode cX9_token 49 = .ok (.getfield 123, 3) := by decide +kernel
theorem dX9_token_52 : decode cX9_token 52 = .ok (.putfield 120, 3) := by decide +kernel
theorem dX9_token_55 : decode cX9_token 55 = .ok (.aload_n 0, 1) := by decide +kernel
theorem dX9_token_56 : decode cX9_token 56 = .ok (.aload_n 0, 1) := by decide +kernel
theorem dX9_token_57 : decode cX9_token 57 = .ok (.getfield 123, 3) := by decide +kernel
theorem dX9_token_60 : decode cX9_token 60 = .ok (.invokevirtual 126, 3) := by decide +kernel
theorem dX9_token_63 : decode cX9_token 63 = .ok (.istore_n 1, 1) := by decide +kernel
theorem dX9_token_64 : decode cX9_token 64 = .ok (.aload_n 0, 1) := by decide +kernel
theorem dX9_token_65 : decode cX9_token 65 = .ok (.getfield 123, 3) := by decide +kernel
theorem dX9_token_68 : decode cX9_token 68 = .ok (.aload_n 0, 1) := by decide +kernel
theorem dX9_token_69 : decode cX9_token 69 = .ok (.getfield 117, 3) := by decide +kernel
theorem dX9_token_72 : decode cX9_token 72 = .ok (.if_icmp .lt 11, 3) := by decide +kernel
theorem dX9_token_75 : decode cX9_token 75 = .ok (.aload_n 0, 1) := by decide +kernel
theorem dX9_token_76 : decode cX9_token 76 = .ok (.iconst 0, 1) := by decide +kernel
theorem dX9_token_77 : decode cX9_token 77 = .ok (.putfield 130, 3) := by decide +kernel
theorem dX9_token_80 : decode cX9_token 80 = .ok (.goto 186, 3) := by decide +kernel
theorem dX9_token_83 : decode cX9_token 83 = .ok (.iload_n 1, 1) := by decide +kernel
theorem dX9_token_84 : decode cX9_token 84 = .ok (.bipush 97, 2) := by decide +kernel
theorem dX9_token_86 : decode cX9_token 86 = .ok (.bipush 122, 2) := by decide +kernel
theorem dX9_token_88 : decode cX9_token 88 = .ok (.invokestatic 100, 3) := by decide +kernel
theorem dX9_token_91 : decode cX9_token 91 = .ok (.ifCond .eq 42, 3) := by decide +kernel
theorem dX9_token_94 : decode cX9_token 94 = .ok (.aload_n 0, 1) := by decide +kernel
theorem dX9_token_95 : decode cX9_token 95 = .ok (.aload_n 0, 1) := by decide +kernel
theorem dX9_token_96 : decode cX9_token 96 = .ok (.getfield 120, 3) := by decide +kernel
theorem dX9_token_99 : decode cX9_token 99 = .ok (.invokevirtual 126, 3) := by decide +kernel
theorem dX9_token_102 : decode cX9_token 102 = .ok (.bipush 97, 2) := by decide +kernel
theorem dX9_token_104 : decode cX9_token 104 = .ok (.bipush 122, 2) := by decide +kernel
theorem dX9_token_106 : decode cX9_token 106 = .ok (.invokestatic 100, 3) := by decide +kernel
theorem dX9_token_109 : decode cX9_token 109 = .ok (.ifCond .eq 16, 3) := by decide +kernel
theorem dX9_token_112 : decode cX9_token 112 = .ok (.aload_n 0, 1) := by decide +kernel
theorem dX9_token_113 : decode cX9_token 113 = .ok (.dup, 1) := by decide +kernel
theorem dX9_token_114 : decode cX9_token 114 = .ok (.getfield 120, 3) := by decide +kernel
theorem dX9_token_117 : decode cX9_token 117 = .ok (.iconst 1, 1) := by decide +kernel
theorem dX9_token_118 : decode cX9_token 118 = .ok (.iadd, 1) := by decide +kernel
theorem dX9_token_119 : decode cX9_token 119 = .ok (.putfield 120, 3) := by decide +kernel
theorem dX9_token_122 : decode cX9_token 122 = .ok (.goto (-28), 3) := by decide +kernel
theorem dX9_token_125 : decode cX9_token 125 = .ok (.aload_n 0, 1) := by decide +kernel
theorem dX9_token_126 : decode cX9_token 126 = .ok (.iconst 1, 1) := by decide +kernel
theorem dX9_token_127 : decode cX9_token 127 = .ok (.putfield 130, 3) := by decide +kernel
theorem dX9_token_130 : decode cX9_token 130 = .ok (.goto 136, 3) := by decide +kernel
theorem dX9_token_133 : decode cX9_token 133 = .ok (.iload_n 1, 1) := by decide +kernel
theorem dX9_token_134 : decode cX9_token 134 = .ok (.bipush 48, 2) := by decide +kernel
theorem dX9_token_136 : decode cX9_token 136 = .ok (.bipush 57, 2) := by decide +kernel
theorem dX9_token_138 : decode cX9_token 138 = .ok (.invokestatic 100, 3) := by decide +kernel
theorem dX9_token_141 : decode cX9_token 141 = .ok (.ifCond .eq 100, 3) := by decide +kernel
theorem dX9_token_144 : decode cX9_token 144 = .ok (.aload_n 0, 1) := by decide +kernel
theorem dX9_token_145 : decode cX9_token 145 = .ok (.iconst 0, 1) := by decide +kernel
theorem dX9_token_146 : decode cX9_token 146 = .ok (.putfield 133, 3) := by decide +kernel
theorem dX9_token_149 : decode cX9_token 149 = .ok (.aload_n 0, 1) := by decide +kernel
theorem dX9_token_150 : decode cX9_token 150 = .ok (.aload_n 0, 1) := by decide +kernel
theorem dX9_token_151 : decode cX9_token 151 = .ok (.getfield 120, 3) := by decide +kernel
theorem dX9_token_154 : decode cX9_token 154 = .ok (.invokevirtual 126, 3) := by decide +kernel
theorem dX9_token_157 : decode cX9_token 157 = .ok (.bipush 48, 2) := by decide +kernel
theorem dX9_token_159 : decode cX9_token 159 = .ok (.bipush 57, 2) := by decide +kernel
theorem dX9_token_161 : decode cX9_token 161 = .ok (.invokestatic 100, 3) := by decide +kernel
theorem dX9_token_164 : decode cX9_token 164 = .ok (.ifCond .eq 52, 3) := by decide +kernel
theorem dX9_token_167 : decode cX9_token 167 = .ok (.aload_n 0, 1) := by decide +kernel
theorem dX9_token_168 : decode cX9_token 168 = .ok (.getfield 120, 3) := by decide +kernel
theorem dX9_token_171 : decode cX9_token 171 = .ok (.aload_n 0, 1) := by decide +kernel
theorem dX9_token_172 : decode cX9_token 172 = .ok (.getfield 123, 3) := by decide +kernel
theorem dX9_token_175 : decode cX9_token 175 = .ok (.isub, 1) := by decide +kernel
theorem dX9_token_176 : decode cX9_token 176 = .ok (.iconst 3, 1) := by decide +kernel
theorem dX9_token_177 : decode cX9_token 177 = .ok (.if_icmp .ge 26, 3) := by decide +kernel
theorem dX9_token_180 : decode cX9_token 180 = .ok (.aload_n 0, 1) := by decide +kernel
theorem dX9_token_181 : decode cX9_token 181 = .ok (.bipush 10, 2) := by decide +kernel
theorem dX9_token_183 : decode cX9_token 183 = .ok (.aload_n 0, 1) := by decide +kernel
theorem dX9_token_184 : decode cX9_token 184 = .ok (.getfield 133, 3) := by decide +kernel
theorem dX9_token_187 : decode cX9_token 187 = .ok (.imul, 1) := by decide +kernel
theorem dX9_token_188 : decode cX9_token 188 = .ok (.aload_n 0, 1) := by decide +kernel
theorem dX9_token_189 : decode cX9_token 189 = .ok (.aload_n 0, 1) := by decide +kernel
theorem dX9_token_190 : decode cX9_token 190 = .ok (.getfield 120, 3) := by decide +kernel
theorem dX9_token_193 : decode cX9_token 193 = .ok (.invokevirtual 126, 3) := by decide +kernel
theorem dX9_token_196 : decode cX9_token 196 = .ok (.iadd, 1) := by decide +kernel
theorem dX9_token_197 : decode cX9_token 197 = .ok (.bipush 48, 2) := by decide +kernel
theorem dX9_token_199 : decode cX9_token 199 = .ok (.isub, 1) := by decide +kernel
theorem dX9_token_200 : decode cX9_token 200 = .ok (.putfield 133, 3) := by decide +kernel
theorem dX9_token_203 : decode cX9_token 203 = .ok (.aload_n 0, 1) := by decide +kernel
theorem dX9_token_204 : decode cX9_token 204 = .ok (.dup, 1) := by decide +kernel
theorem dX9_token_205 : decode cX9_token 205 = .ok (.getfield 120, 3) := by decide +kernel
theorem dX9_token_208 : decode cX9_token 208 = .ok (.iconst 1, 1) := by decide +kernel
theorem dX9_token_209 : decode cX9_token 209 = .ok (.iadd, 1) := by decide +kernel
theorem dX9_token_210 : decode cX9_token 210 = .ok (.putfield 120, 3) := by decide +kernel
theorem dX9_token_213 : decode cX9_token 213 = .ok (.goto (-64), 3) := by decide +kernel
theorem dX9_token_216 : decode cX9_token 216 = .ok (.aload_n 0, 1) := by decide +kernel
theorem dX9_token_217 : decode cX9_token 217 = .ok (.aload_n 0, 1) := by decide +kernel
theorem dX9_token_218 : decode cX9_token 218 = .ok (.getfield 120, 3) := by decide +kernel
theorem dX9_token_221 : decode cX9_token 221 = .ok (.aload_n 0, 1) := by decide +kernel
theorem dX9_token_222 : decode cX9_token 222 = .ok (.getfield 123, 3) := by decide +kernel
theorem dX9_token_225 : decode cX9_token 225 = .ok (.isub, 1) := by decide +kernel
theorem dX9_token_226 : decode cX9_token 226 = .ok (.iconst 3, 1) := by decide +kernel
theorem dX9_token_227 : decode cX9_token 227 = .ok (.if_icmp .le 7, 3) := by decide +kernel
theorem dX9_token_230 : decode cX9_token 230 = .ok (.iconst 4, 1) := by decide +kernel
theorem dX9_token_231 : decode cX9_token 231 = .ok (.goto 4, 3) := by decide +kernel
theorem dX9_token_234 : decode cX9_token 234 = .ok (.iconst 2, 1) := by decide +kernel
theorem dX9_token_235 : decode cX9_token 235 = .ok (.putfield 130, 3) := by decide +kernel
theorem dX9_token_238 : decode cX9_token 238 = .ok (.goto 28, 3) := by decide +kernel
theorem dX9_token_241 : decode cX9_token 241 = .ok (.aload_n 0, 1) := by decide +kernel
theorem dX9_token_242 : decode cX9_token 242 = .ok (.dup, 1) := by decide +kernel
theorem dX9_token_243 : decode cX9_token 243 = .ok (.getfield 120, 3) := by decide +kernel
theorem dX9_token_246 : decode cX9_token 246 = .ok (.iconst 1, 1) := by decide +kernel
theorem dX9_token_247 : decode cX9_token 247 = .ok (.iadd, 1) := by decide +kernel
theorem dX9_token_248 : decode cX9_token 248 = .ok (.putfield 120, 3) := by decide +kernel
theorem dX9_token_251 : decode cX9_token 251 = .ok (.aload_n 0, 1) := by decide +kernel
theorem dX9_token_252 : decode cX9_token 252 = .ok (.iload_n 1, 1) := by decide +kernel
theorem dX9_token_253 : decode cX9_token 253 = .ok (.bipush 59, 2) := by decide +kernel
theorem dX9_token_255 : decode cX9_token 255 = .ok (.if_icmp .ne 7, 3) := by decide +kernel
theorem dX9_token_258 : decode cX9_token 258 = .ok (.iconst 3, 1) := by decide +kernel
theorem dX9_token_259 : decode cX9_token 259 = .ok (.goto 4, 3) := by decide +kernel
theorem dX9_token_262 : decode cX9_token 262 = .ok (.iconst 4, 1) := by decide +kernel
theorem dX9_token_263 : decode cX9_token 263 = .ok (.putfield 130, 3) := by decide +kernel
theorem dX9_token_266 : decode cX9_token 266 = .ok (.return_, 1) := by decide +kernel
theorem dX9_wrong_0 : decode cX9_wrong 0 = .ok (.aload_n 0, 1) := by decide +kernel
theorem dX9_wrong_1 : decode cX9_wrong 1 = .ok (.iload_n 1, 1) := by decide +kernel
theorem dX9_wrong_2 : decode cX9_wrong 2 = .ok (.putfield 136, 3) := by decide +kernel
theorem dX9_wrong_5 : decode cX9_wrong 5 = .ok (.aload_n 0, 1) := by decide +kernel
theorem dX9_wrong_6 : decode cX9_wrong 6 = .ok (.aload_n 0, 1) := by decide +kernel
theorem dX9_wrong_7 : decode cX9_wrong 7 = .ok (.getfield 123, 3) := by decide +kernel
theorem dX9_wrong_10 : decode cX9_wrong 10 = .ok (.putfield 41, 3) := by decide +kernel
theorem dX9_wrong_13 : decode cX9_wrong 13 = .ok (.iconst 0, 1) := by decide +kernel
theorem dX9_wrong_14 : decode cX9_wrong 14 = .ok (.ireturn, 1) := by decide +kernel
theorem dX9_isEvery_0 : decode cX9_isEvery 0 = .ok (.aload_n 0, 1) := by decide +kernel
theorem dX9_isEvery_1 : decode cX9_isEvery 1 = .ok (.getfield 130, 3) := by decide +kernel
theorem dX9_isEvery_4 : decode cX9_isEvery 4 = .ok (.iconst 1, 1) := by decide +kernel
theorem dX9_isEvery_5 : decode cX9_isEvery 5 = .ok (.if_icmp .ne 93, 3) := by decide +kernel
theorem dX9_isEvery_8 : decode cX9_isEvery 8 = .ok (.aload_n 0, 1) := by decide +kernel
theorem dX9_isEvery_9 : decode cX9_isEvery 9 = .ok (.getfield 120, 3) := by decide +kernel
theorem dX9_isEvery_12 : decode cX9_isEvery 12 = .ok (.aload_n 0, 1) := by decide +kernel
theorem dX9_isEvery_13 : decode cX9_isEvery 13 = .ok (.getfield 123, 3) := by decide +kernel
theorem dX9_isEvery_16 : decode cX9_isEvery 16 = .ok (.isub, 1) := by decide +kernel
theorem dX9_isEvery_17 : decode cX9_isEvery 17 = .ok (.iconst 5, 1) := by decide +kernel
theorem dX9_isEvery_18 : decode cX9_isEvery 18 = .ok (.if_icmp .ne 80, 3) := by decide +kernel
theorem dX9_isEvery_21 : decode cX9_isEvery 21 = .ok (.aload_n 0, 1) := by decide +kernel
theorem dX9_isEvery_22 : decode cX9_isEvery 22 = .ok (.aload_n 0, 1) := by decide +kernel
theorem dX9_isEvery_23 : decode cX9_isEvery 23 = .ok (.getfield 123, 3) := by decide +kernel
theorem dX9_isEvery_26 : decode cX9_isEvery 26 = .ok (.invokevirtual 126, 3) := by decide +kernel
theorem dX9_isEvery_29 : decode cX9_isEvery 29 = .ok (.bipush 101, 2) := by decide +kernel
theorem dX9_isEvery_31 : decode cX9_isEvery 31 = .ok (.if_icmp .ne 67, 3) := by decide +kernel
theorem dX9_isEvery_34 : decode cX9_isEvery 34 = .ok (.aload_n 0, 1) := by decide +kernel
theorem dX9_isEvery_35 : decode cX9_isEvery 35 = .ok (.aload_n 0, 1) := by decide +kernel
theorem dX9_isEvery_36 : decode cX9_isEvery 36 = .ok (.getfield 123, 3) := by decide +kernel
theorem dX9_isEvery_39 : decode cX9_isEvery 39 = .ok (.iconst 1, 1) := by decide +kernel
theorem dX9_isEvery_40 : decode cX9_isEvery 40 = .ok (.iadd, 1) := by decide +kernel
theorem dX9_isEvery_41 : decode cX9_isEvery 41 = .ok (.invokevirtual 126, 3) := by decide +kernel
theorem dX9_isEvery_44 : decode cX9_isEvery 44 = .ok (.bipush 118, 2) := by decide +kernel
theorem dX9_isEvery_46 : decode cX9_isEvery 46 = .ok (.if_icmp .ne 52, 3) := by decide +kernel
theorem dX9_isEvery_49 : decode cX9_isEvery 49 = .ok (.aload_n 0, 1) := by decide +kernel
theorem dX9_isEvery_50 : decode cX9_isEvery 50 = .ok (.aload_n 0, 1) := by decide +kernel
theorem dX9_isEvery_51 : decode cX9_isEvery 51 = .ok (.getfield 123, 3) := by decide +kernel
theorem dX9_isEvery_54 : decode cX9_isEvery 54 = .ok (.iconst 2, 1) := by decide +kernel
theorem dX9_isEvery_55 : decode cX9_isEvery 55 = .ok (.iadd, 1) := by decide +kernel
theorem dX9_isEvery_56 : decode cX9_isEvery 56 = .ok (.invokevirtual 126, 3) := by decide +kernel
theorem dX9_isEvery_59 : decode cX9_isEvery 59 = .ok (.bipush 101, 2) := by decide +kernel
theorem dX9_isEvery_61 : decode cX9_isEvery 61 = .ok (.if_icmp .ne 37, 3) := by decide +kernel
theorem dX9_isEvery_64 : decode cX9_isEvery 64 = .ok (.aload_n 0, 1) := by decide +kernel
theorem dX9_isEvery_65 : decode cX9_isEvery 65 = .ok (.aload_n 0, 1) := by decide +kernel
theorem dX9_isEvery_66 : decode cX9_isEvery 66 = .ok (.getfield 123, 3) := by decide +kernel
theorem dX9_isEvery_69 : decode cX9_isEvery 69 = .ok (.iconst 3, 1) := by decide +kernel
theorem dX9_isEvery_70 : decode cX9_isEvery 70 = .ok (.iadd, 1) := by decide +kernel
theorem dX9_isEvery_71 : decode cX9_isEvery 71 = .ok (.invokevirtual 126, 3) := by decide +kernel
theorem dX9_isEvery_74 : decode cX9_isEvery 74 = .ok (.bipush 114, 2) := by decide +kernel
theorem dX9_isEvery_76 : decode cX9_isEvery 76 = .ok (.if_icmp .ne 22, 3) := by decide +kernel
theorem dX9_isEvery_79 : decode cX9_isEvery 79 = .ok (.aload_n 0, 1) := by decide +kernel
theorem dX9_isEvery_80 : decode cX9_isEvery 80 = .ok (.aload_n 0, 1) := by decide +kernel
theorem dX9_isEvery_81 : decode cX9_isEvery 81 = .ok (.getfield 123, 3) := by decide +kernel
theorem dX9_isEvery_84 : decode cX9_isEvery 84 = .ok (.iconst 4, 1) := by decide +kernel
theorem dX9_isEvery_85 : decode cX9_isEvery 85 = .ok (.iadd, 1) := by decide +kernel
theorem dX9_isEvery_86 : decode cX9_isEvery 86 = .ok (.invokevirtual 126, 3) := by decide +kernel
theorem dX9_isEvery_89 : decode cX9_isEvery 89 = .ok (.bipush 121, 2) := by decide +kernel
theorem dX9_isEvery_91 : decode cX9_isEvery 91 = .ok (.if_icmp .ne 7, 3) := by decide +kernel
theorem dX9_isEvery_94 : decode cX9_isEvery 94 = .ok (.iconst 1, 1) := by decide +kernel
theorem dX9_isEvery_95 : decode cX9_isEvery 95 = .ok (.goto 4, 3) := by decide +kernel
theorem dX9_isEvery_98 : decode cX9_isEvery 98 = .ok (.iconst 0, 1) := by decide +kernel
theorem dX9_isEvery_99 : decode cX9_isEvery 99 = .ok (.ireturn, 1) := by decide +kernel
theorem dX9_statement_0 : decode cX9_statement 0 = .ok (.aload_n 0, 1) := by decide +kernel
theorem dX9_statement_1 : decode cX9_statement 1 = .ok (.invokevirtual 139, 3) := by decide +kernel
theorem dX9_statement_4 : decode cX9_statement 4 = .ok (.ifCond .ne 9, 3) := by decide +kernel
theorem dX9_statement_7 : decode cX9_statement 7 = .ok (.aload_n 0, 1) := by decide +kernel
theorem dX9_statement_8 : decode cX9_statement 8 = .ok (.iconst 1, 1) := by decide +kernel
theorem dX9_statement_9 : decode cX9_statement 9 = .ok (.invokevirtual 143, 3) := by decide +kernel
theorem dX9_statement_12 : decode cX9_statement 12 = .ok (.ireturn, 1) := by decide +kernel
theorem dX9_statement_13 : decode cX9_statement 13 = .ok (.aload_n 0, 1) := by decide +kernel
theorem dX9_statement_14 : decode cX9_statement 14 = .ok (.invokevirtual 146, 3) := by decide +kernel
theorem dX9_statement_17 : decode cX9_statement 17 = .ok (.aload_n 0, 1) := by decide +kernel
theorem dX9_statement_18 : decode cX9_statement 18 = .ok (.getfield 130, 3) := by decide +kernel
theorem dX9_statement_21 : decode cX9_statement 21 = .ok (.iconst 2, 1) := by decide +kernel
theorem dX9_statement_22 : decode cX9_statement 22 = .ok (.if_icmp .eq 9, 3) := by decide +kernel
theorem dX9_statement_25 : decode cX9_statement 25 = .ok (.aload_n 0, 1) := by decide +kernel
theorem dX9_statement_26 : decode cX9_statement 26 = .ok (.iconst 1, 1) := by decide +kernel
theorem dX9_statement_27 : decode cX9_statement 27 = .ok (.invokevirtual 143, 3) := by decide +kernel
theorem dX9_statement_30 : decode cX9_statement 30 = .ok (.ireturn, 1) := by decide +kernel
theorem dX9_statement_31 : decode cX9_statement 31 = .ok (.aload_n 0, 1) := by decide +kernel
theorem dX9_statement_32 : decode cX9_statement 32 = .ok (.aload_n 0, 1) := by decide +kernel
theorem dX9_statement_33 : decode cX9_statement 33 = .ok (.getfield 133, 3) := by decide +kernel
theorem dX9_statement_36 : decode cX9_statement 36 = .ok (.invokevirtual 113, 3) := by decide +kernel
theorem dX9_statement_39 : decode cX9_statement 39 = .ok (.ifCond .ne 9, 3) := by decide +kernel
theorem dX9_statement_42 : decode cX9_statement 42 = .ok (.aload_n 0, 1) := by decide +kernel
theorem dX9_statement_43 : decode cX9_statement 43 = .ok (.iconst 2, 1) := by decide +kernel
theorem dX9_statement_44 : decode cX9_statement 44 = .ok (.invokevirtual 143, 3) := by decide +kernel
theorem dX9_statement_47 : decode cX9_statement 47 = .ok (.ireturn, 1) := by decide +kernel
theorem dX9_statement_48 : decode cX9_statement 48 = .ok (.aload_n 0, 1) := by decide +kernel
theorem dX9_statement_49 : decode cX9_statement 49 = .ok (.getfield 133, 3) := by decide +kernel
theorem dX9_statement_52 : decode cX9_statement 52 = .ok (.istore_n 1, 1) := by decide +kernel
theorem dX9_statement_53 : decode cX9_statement 53 = .ok (.aload_n 0, 1) := by decide +kernel
theorem dX9_statement_54 : decode cX9_statement 54 = .ok (.invokevirtual 146, 3) := by decide +kernel
theorem dX9_statement_57 : decode cX9_statement 57 = .ok (.aload_n 0, 1) := by decide +kernel
theorem dX9_statement_58 : decode cX9_statement 58 = .ok (.getfield 130, 3) := by decide +kernel
theorem dX9_statement_61 : decode cX9_statement 61 = .ok (.iconst 2, 1) := by decide +kernel
theorem dX9_statement_62 : decode cX9_statement 62 = .ok (.if_icmp .eq 9, 3) := by decide +kernel
theorem dX9_statement_65 : decode cX9_statement 65 = .ok (.aload_n 0, 1) := by decide +kernel
theorem dX9_statement_66 : decode cX9_statement 66 = .ok (.iconst 1, 1) := by decide +kernel
theorem dX9_statement_67 : decode cX9_statement 67 = .ok (.invokevirtual 143, 3) := by decide +kernel
theorem dX9_statement_70 : decode cX9_statement 70 = .ok (.ireturn, 1) := by decide +kernel
theorem dX9_statement_71 : decode cX9_statement 71 = .ok (.aload_n 0, 1) := by decide +kernel
theorem dX9_statement_72 : decode cX9_statement 72 = .ok (.getfield 133, 3) := by decide +kernel
theorem dX9_statement_75 : decode cX9_statement 75 = .ok (.istore_n 2, 1) := by decide +kernel
theorem dX9_statement_76 : decode cX9_statement 76 = .ok (.aload_n 0, 1) := by decide +kernel
theorem dX9_statement_77 : decode cX9_statement 77 = .ok (.invokevirtual 146, 3) := by decide +kernel
theorem dX9_statement_80 : decode cX9_statement 80 = .ok (.aload_n 0, 1) := by decide +kernel
theorem dX9_statement_81 : decode cX9_statement 81 = .ok (.getfield 130, 3) := by decide +kernel
theorem dX9_statement_84 : decode cX9_statement 84 = .ok (.iconst 3, 1) := by decide +kernel
theorem dX9_statement_85 : decode cX9_statement 85 = .ok (.if_icmp .eq 9, 3) := by decide +kernel
theorem dX9_statement_88 : decode cX9_statement 88 = .ok (.aload_n 0, 1) := by decide +kernel
theorem dX9_statement_89 : decode cX9_statement 89 = .ok (.iconst 1, 1) := by decide +kernel
theorem dX9_statement_90 : decode cX9_statement 90 = .ok (.invokevirtual 143, 3) := by decide +kernel
theorem dX9_statement_93 : decode cX9_statement 93 = .ok (.ireturn, 1) := by decide +kernel
theorem dX9_statement_94 : decode cX9_statement 94 = .ok (.aload_n 0, 1) := by decide +kernel
theorem dX9_statement_95 : decode cX9_statement 95 = .ok (.getfield 38, 3) := by decide +kernel
theorem dX9_statement_98 : decode cX9_statement 98 = .ok (.iload_n 1, 1) := by decide +kernel
theorem dX9_statement_99 : decode cX9_statement 99 = .ok (.iload_n 2, 1) := by decide +kernel
theorem dX9_statement_100 : decode cX9_statement 100 = .ok (.iastore, 1) := by decide +kernel
theorem dX9_statement_101 : decode cX9_statement 101 = .ok (.aload_n 0, 1) := by decide +kernel
theorem dX9_statement_102 : decode cX9_statement 102 = .ok (.invokevirtual 146, 3) := by decide +kernel
theorem dX9_statement_105 : decode cX9_statement 105 = .ok (.iconst 1, 1) := by decide +kernel
theorem dX9_statement_106 : decode cX9_statement 106 = .ok (.ireturn, 1) := by decide +kernel
theorem dX9_law_0 : decode cX9_law 0 = .ok (.aload_n 0, 1) := by decide +kernel
theorem dX9_law_1 : decode cX9_law 1 = .ok (.iconst 0, 1) := by decide +kernel
theorem dX9_law_2 : decode cX9_law 2 = .ok (.putfield 97, 3) := by decide +kernel
theorem dX9_law_5 : decode cX9_law 5 = .ok (.aload_n 0, 1) := by decide +kernel
theorem dX9_law_6 : decode cX9_law 6 = .ok (.getfield 149, 3) := by decide +kernel
theorem dX9_law_9 : decode cX9_law 9 = .ok (.bipush 20, 2) := by decide +kernel
theorem dX9_law_11 : decode cX9_law 11 = .ok (.if_icmp .ne 5, 3) := by decide +kernel
theorem dX9_law_14 : decode cX9_law 14 = .ok (.iconst (-1), 1) := by decide +kernel
theorem dX9_law_15 : decode cX9_law 15 = .ok (.ireturn, 1) := by decide +kernel
theorem dX9_law_16 : decode cX9_law 16 = .ok (.aload_n 0, 1) := by decide +kernel
theorem dX9_law_17 : decode cX9_law 17 = .ok (.iconst 0, 1) := by decide +kernel
theorem dX9_law_18 : decode cX9_law 18 = .ok (.putfield 136, 3) := by decide +kernel
theorem dX9_law_21 : decode cX9_law 21 = .ok (.aload_n 0, 1) := by decide +kernel
theorem dX9_law_22 : decode cX9_law 22 = .ok (.iconst (-1), 1) := by decide +kernel
theorem dX9_law_23 : decode cX9_law 23 = .ok (.putfield 41, 3) := by decide +kernel
theorem dX9_law_26 : decode cX9_law 26 = .ok (.iconst 0, 1) := by decide +kernel
theorem dX9_law_27 : decode cX9_law 27 = .ok (.istore_n 1, 1) := by decide +kernel
theorem dX9_law_28 : decode cX9_law 28 = .ok (.iload_n 1, 1) := by decide +kernel
theorem dX9_law_29 : decode cX9_law 29 = .ok (.bipush 8, 2) := by decide +kernel
theorem dX9_law_31 : decode cX9_law 31 = .ok (.if_icmp .ge 16, 3) := by decide +kernel
theorem dX9_law_34 : decode cX9_law 34 = .ok (.aload_n 0, 1) := by decide +kernel
theorem dX9_law_35 : decode cX9_law 35 = .ok (.getfield 38, 3) := by decide +kernel
theorem dX9_law_38 : decode cX9_law 38 = .ok (.iload_n 1, 1) := by decide +kernel
theorem dX9_law_39 : decode cX9_law 39 = .ok (.iconst (-1), 1) := by decide +kernel
theorem dX9_law_40 : decode cX9_law 40 = .ok (.iastore, 1) := by decide +kernel
theorem dX9_law_41 : decode cX9_law 41 = .ok (.iinc 1 1, 3) := by decide +kernel
theorem dX9_law_44 : decode cX9_law 44 = .ok (.goto (-16), 3) := by decide +kernel
theorem dX9_law_47 : decode cX9_law 47 = .ok (.aload_n 0, 1) := by decide +kernel
theorem dX9_law_48 : decode cX9_law 48 = .ok (.iconst 0, 1) := by decide +kernel
theorem dX9_law_49 : decode cX9_law 49 = .ok (.putfield 120, 3) := by decide +kernel
theorem dX9_law_52 : decode cX9_law 52 = .ok (.aload_n 0, 1) := by decide +kernel
theorem dX9_law_53 : decode cX9_law 53 = .ok (.invokevirtual 146, 3) := by decide +kernel
theorem dX9_law_56 : decode cX9_law 56 = .ok (.iconst 1, 1) := by decide +kernel
theorem dX9_law_57 : decode cX9_law 57 = .ok (.istore_n 1, 1) := by decide +kernel
theorem dX9_law_58 : decode cX9_law 58 = .ok (.iload_n 1, 1) := by decide +kernel
theorem dX9_law_59 : decode cX9_law 59 = .ok (.ifCond .eq 18, 3) := by decide +kernel
theorem dX9_law_62 : decode cX9_law 62 = .ok (.aload_n 0, 1) := by decide +kernel
theorem dX9_law_63 : decode cX9_law 63 = .ok (.getfield 130, 3) := by decide +kernel
theorem dX9_law_66 : decode cX9_law 66 = .ok (.ifCond .eq 11, 3) := by decide +kernel
theorem dX9_law_69 : decode cX9_law 69 = .ok (.aload_n 0, 1) := by decide +kernel
theorem dX9_law_70 : decode cX9_law 70 = .ok (.invokevirtual 152, 3) := by decide +kernel
theorem dX9_law_73 : decode cX9_law 73 = .ok (.istore_n 1, 1) := by decide +kernel
theorem dX9_law_74 : decode cX9_law 74 = .ok (.goto (-16), 3) := by decide +kernel
theorem dX9_law_77 : decode cX9_law 77 = .ok (.aload_n 0, 1) := by decide +kernel
theorem dX9_law_78 : decode cX9_law 78 = .ok (.iconst 0, 1) := by decide +kernel
theorem dX9_law_79 : decode cX9_law 79 = .ok (.putfield 117, 3) := by decide +kernel
theorem dX9_law_82 : decode cX9_law 82 = .ok (.aload_n 0, 1) := by decide +kernel
theorem dX9_law_83 : decode cX9_law 83 = .ok (.getfield 136, 3) := by decide +kernel
theorem dX9_law_86 : decode cX9_law 86 = .ok (.ifCond .le 10, 3) := by decide +kernel
theorem dX9_law_89 : decode cX9_law 89 = .ok (.iconst (-1), 1) := by decide +kernel
theorem dX9_law_90 : decode cX9_law 90 = .ok (.aload_n 0, 1) := by decide +kernel
theorem dX9_law_91 : decode cX9_law 91 = .ok (.getfield 136, 3) := by decide +kernel
theorem dX9_law_94 : decode cX9_law 94 = .ok (.isub, 1) := by decide +kernel
theorem dX9_law_95 : decode cX9_law 95 = .ok (.ireturn, 1) := by decide +kernel
theorem dX9_law_96 : decode cX9_law 96 = .ok (.iconst 0, 1) := by decide +kernel
theorem dX9_law_97 : decode cX9_law 97 = .ok (.istore_n 2, 1) := by decide +kernel
theorem dX9_law_98 : decode cX9_law 98 = .ok (.iload_n 2, 1) := by decide +kernel
theorem dX9_law_99 : decode cX9_law 99 = .ok (.bipush 8, 2) := by decide +kernel
theorem dX9_law_101 : decode cX9_law 101 = .ok (.if_icmp .ge 21, 3) := by decide +kernel
theorem dX9_law_104 : decode cX9_law 104 = .ok (.aload_n 0, 1) := by decide +kernel
theorem dX9_law_105 : decode cX9_law 105 = .ok (.getfield 35, 3) := by decide +kernel
theorem dX9_law_108 : decode cX9_law 108 = .ok (.iload_n 2, 1) := by decide +kernel
theorem dX9_law_109 : decode cX9_law 109 = .ok (.aload_n 0, 1) := by decide +kernel
theorem dX9_law_110 : decode cX9_law 110 = .ok (.getfield 38, 3) := by decide +kernel
theorem dX9_law_113 : decode cX9_law 113 = .ok (.iload_n 2, 1) := by decide +kernel
theorem dX9_law_114 : decode cX9_law 114 = .ok (.iaload, 1) := by decide +kernel
theorem dX9_law_115 : decode cX9_law 115 = .ok (.iastore, 1) := by decide +kernel
theorem dX9_law_116 : decode cX9_law 116 = .ok (.iinc 2 1, 3) := by decide +kernel
theorem dX9_law_119 : decode cX9_law 119 = .ok (.goto (-21), 3) := by decide +kernel
theorem dX9_law_122 : decode cX9_law 122 = .ok (.aload_n 0, 1) := by decide +kernel
theorem dX9_law_123 : decode cX9_law 123 = .ok (.dup, 1) := by decide +kernel
theorem dX9_law_124 : decode cX9_law 124 = .ok (.getfield 149, 3) := by decide +kernel
theorem dX9_law_127 : decode cX9_law 127 = .ok (.iconst 1, 1) := by decide +kernel
theorem dX9_law_128 : decode cX9_law 128 = .ok (.iadd, 1) := by decide +kernel
theorem dX9_law_129 : decode cX9_law 129 = .ok (.putfield 149, 3) := by decide +kernel
theorem dX9_law_132 : decode cX9_law 132 = .ok (.aload_n 0, 1) := by decide +kernel
theorem dX9_law_133 : decode cX9_law 133 = .ok (.getfield 149, 3) := by decide +kernel
theorem dX9_law_136 : decode cX9_law 136 = .ok (.iconst 1, 1) := by decide +kernel
theorem dX9_law_137 : decode cX9_law 137 = .ok (.isub, 1) := by decide +kernel
theorem dX9_law_138 : decode cX9_law 138 = .ok (.ireturn, 1) := by decide +kernel
theorem dX9_place_0 : decode cX9_place 0 = .ok (.aload_n 0, 1) := by decide +kernel
theorem dX9_place_1 : decode cX9_place 1 = .ok (.iconst 0, 1) := by decide +kernel
theorem dX9_place_2 : decode cX9_place 2 = .ok (.putfield 97, 3) := by decide +kernel
theorem dX9_place_5 : decode cX9_place 5 = .ok (.aload_n 0, 1) := by decide +kernel
theorem dX9_place_6 : decode cX9_place 6 = .ok (.getfield 41, 3) := by decide +kernel
theorem dX9_place_9 : decode cX9_place 9 = .ok (.ireturn, 1) := by decide +kernel
theorem dX9_wanted_0 : decode cX9_wanted 0 = .ok (.aload_n 0, 1) := by decide +kernel
theorem dX9_wanted_1 : decode cX9_wanted 1 = .ok (.getfield 149, 3) := by decide +kernel
theorem dX9_wanted_4 : decode cX9_wanted 4 = .ok (.ifCond .ne 7, 3) := by decide +kernel
theorem dX9_wanted_7 : decode cX9_wanted 7 = .ok (.iconst (-1), 1) := by decide +kernel
theorem dX9_wanted_8 : decode cX9_wanted 8 = .ok (.goto 9, 3) := by decide +kernel
theorem dX9_wanted_11 : decode cX9_wanted 11 = .ok (.aload_n 0, 1) := by decide +kernel
theorem dX9_wanted_12 : decode cX9_wanted 12 = .ok (.getfield 35, 3) := by decide +kernel
theorem dX9_wanted_15 : decode cX9_wanted 15 = .ok (.iload_n 1, 1) := by decide +kernel
theorem dX9_wanted_16 : decode cX9_wanted 16 = .ok (.iaload, 1) := by decide +kernel
theorem dX9_wanted_17 : decode cX9_wanted 17 = .ok (.ireturn, 1) := by decide +kernel
theorem dX9_isLawful_0 : decode cX9_isLawful 0 = .ok (.aload_n 0, 1) := by decide +kernel
theorem dX9_isLawful_1 : decode cX9_isLawful 1 = .ok (.aload_n 0, 1) := by decide +kernel
theorem dX9_isLawful_2 : decode cX9_isLawful 2 = .ok (.getfield 19, 3) := by decide +kernel
theorem dX9_isLawful_5 : decode cX9_isLawful 5 = .ok (.iload_n 1, 1) := by decide +kernel
theorem dX9_isLawful_6 : decode cX9_isLawful 6 = .ok (.iaload, 1) := by decide +kernel
theorem dX9_isLawful_7 : decode cX9_isLawful 7 = .ok (.invokevirtual 155, 3) := by decide +kernel
theorem dX9_isLawful_10 : decode cX9_isLawful 10 = .ok (.istore_n 3, 1) := by decide +kernel
theorem dX9_isLawful_11 : decode cX9_isLawful 11 = .ok (.iload_n 3, 1) := by decide +kernel
theorem dX9_isLawful_12 : decode cX9_isLawful 12 = .ok (.iconst (-1), 1) := by decide +kernel
theorem dX9_isLawful_13 : decode cX9_isLawful 13 = .ok (.if_icmp .eq 29, 3) := by decide +kernel
theorem dX9_isLawful_16 : decode cX9_isLawful 16 = .ok (.aload_n 0, 1) := by decide +kernel
theorem dX9_isLawful_17 : decode cX9_isLawful 17 = .ok (.getfield 22, 3) := by decide +kernel
theorem dX9_isLawful_20 : decode cX9_isLawful 20 = .ok (.iload_n 1, 1) := by decide +kernel
theorem dX9_isLawful_21 : decode cX9_isLawful 21 = .ok (.iaload, 1) := by decide +kernel
theorem dX9_isLawful_22 : decode cX9_isLawful 22 = .ok (.iconst (-1), 1) := by decide +kernel
theorem dX9_isLawful_23 : decode cX9_isLawful 23 = .ok (.if_icmp .eq 23, 3) := by decide +kernel
theorem dX9_isLawful_26 : decode cX9_isLawful 26 = .ok (.iload_n 2, 1) := by decide +kernel
theorem dX9_isLawful_27 : decode cX9_isLawful 27 = .ok (.i2l, 1) := by decide +kernel
theorem dX9_isLawful_28 : decode cX9_isLawful 28 = .ok (.aload_n 0, 1) := by decide +kernel
theorem dX9_isLawful_29 : decode cX9_isLawful 29 = .ok (.getfield 22, 3) := by decide +kernel
theorem dX9_isLawful_32 : decode cX9_isLawful 32 = .ok (.iload_n 1, 1) := by decide +kernel
theorem dX9_isLawful_33 : decode cX9_isLawful 33 = .ok (.iaload, 1) := by decide +kernel
theorem dX9_isLawful_34 : decode cX9_isLawful 34 = .ok (.i2l, 1) := by decide +kernel
theorem dX9_isLawful_35 : decode cX9_isLawful 35 = .ok (.lsub, 1) := by decide +kernel
theorem dX9_isLawful_36 : decode cX9_isLawful 36 = .ok (.iload_n 3, 1) := by decide +kernel
theorem dX9_isLawful_37 : decode cX9_isLawful 37 = .ok (.i2l, 1) := by decide +kernel
theorem dX9_isLawful_38 : decode cX9_isLawful 38 = .ok (.lcmp, 1) := by decide +kernel
theorem dX9_isLawful_39 : decode cX9_isLawful 39 = .ok (.ifCond .gt 7, 3) := by decide +kernel
theorem dX9_isLawful_42 : decode cX9_isLawful 42 = .ok (.iconst 1, 1) := by decide +kernel
theorem dX9_isLawful_43 : decode cX9_isLawful 43 = .ok (.goto 4, 3) := by decide +kernel
theorem dX9_isLawful_46 : decode cX9_isLawful 46 = .ok (.iconst 0, 1) := by decide +kernel
theorem dX9_isLawful_47 : decode cX9_isLawful 47 = .ok (.ireturn, 1) := by decide +kernel
theorem dX9_look_0 : decode cX9_look 0 = .ok (.aload_n 0, 1) := by decide +kernel
theorem dX9_look_1 : decode cX9_look 1 = .ok (.iconst 0, 1) := by decide +kernel
theorem dX9_look_2 : decode cX9_look 2 = .ok (.putfield 97, 3) := by decide +kernel
theorem dX9_look_5 : decode cX9_look 5 = .ok (.aload_n 0, 1) := by decide +kernel
theorem dX9_look_6 : decode cX9_look 6 = .ok (.iload_n 1, 1) := by decide +kernel
theorem dX9_look_7 : decode cX9_look 7 = .ok (.invokevirtual 158, 3) := by decide +kernel
theorem dX9_look_10 : decode cX9_look 10 = .ok (.ifCond .eq 12, 3) := by decide +kernel
theorem dX9_look_13 : decode cX9_look 13 = .ok (.aload_n 0, 1) := by decide +kernel
theorem dX9_look_14 : decode cX9_look 14 = .ok (.iload_n 1, 1) := by decide +kernel
theorem dX9_look_15 : decode cX9_look 15 = .ok (.invokevirtual 161, 3) := by decide +kernel
theorem dX9_look_18 : decode cX9_look 18 = .ok (.iconst (-1), 1) := by decide +kernel
theorem dX9_look_19 : decode cX9_look 19 = .ok (.if_icmp .eq 5, 3) := by decide +kernel
theorem dX9_look_22 : decode cX9_look 22 = .ok (.iconst 0, 1) := by decide +kernel
theorem dX9_look_23 : decode cX9_look 23 = .ok (.ireturn, 1) := by decide +kernel
theorem dX9_look_24 : decode cX9_look 24 = .ok (.aload_n 0, 1) := by decide +kernel
theorem dX9_look_25 : decode cX9_look 25 = .ok (.getfield 22, 3) := by decide +kernel
theorem dX9_look_28 : decode cX9_look 28 = .ok (.iload_n 1, 1) := by decide +kernel
theorem dX9_look_29 : decode cX9_look 29 = .ok (.aload_n 0, 1) := by decide +kernel
theorem dX9_look_30 : decode cX9_look 30 = .ok (.getfield 164, 3) := by decide +kernel
theorem dX9_look_33 : decode cX9_look 33 = .ok (.iastore, 1) := by decide +kernel
theorem dX9_look_34 : decode cX9_look 34 = .ok (.iconst 1, 1) := by decide +kernel
theorem dX9_look_35 : decode cX9_look 35 = .ok (.ireturn, 1) := by decide +kernel
theorem dX9_lawful_0 : decode cX9_lawful 0 = .ok (.aload_n 0, 1) := by decide +kernel
theorem dX9_lawful_1 : decode cX9_lawful 1 = .ok (.iconst 0, 1) := by decide +kernel
theorem dX9_lawful_2 : decode cX9_lawful 2 = .ok (.putfield 97, 3) := by decide +kernel
theorem dX9_lawful_5 : decode cX9_lawful 5 = .ok (.aload_n 0, 1) := by decide +kernel
theorem dX9_lawful_6 : decode cX9_lawful 6 = .ok (.iload_n 1, 1) := by decide +kernel
theorem dX9_lawful_7 : decode cX9_lawful 7 = .ok (.invokevirtual 158, 3) := by decide +kernel
theorem dX9_lawful_10 : decode cX9_lawful 10 = .ok (.ifCond .eq 11, 3) := by decide +kernel
theorem dX9_lawful_13 : decode cX9_lawful 13 = .ok (.iload_n 2, 1) := by decide +kernel
theorem dX9_lawful_14 : decode cX9_lawful 14 = .ok (.aload_n 0, 1) := by decide +kernel
theorem dX9_lawful_15 : decode cX9_lawful 15 = .ok (.getfield 164, 3) := by decide +kernel
theorem dX9_lawful_18 : decode cX9_lawful 18 = .ok (.if_icmp .ge 5, 3) := by decide +kernel
theorem dX9_lawful_21 : decode cX9_lawful 21 = .ok (.iconst (-1), 1) := by decide +kernel
theorem dX9_lawful_22 : decode cX9_lawful 22 = .ok (.ireturn, 1) := by decide +kernel
theorem dX9_lawful_23 : decode cX9_lawful 23 = .ok (.aload_n 0, 1) := by decide +kernel
theorem dX9_lawful_24 : decode cX9_lawful 24 = .ok (.iload_n 1, 1) := by decide +kernel
theorem dX9_lawful_25 : decode cX9_lawful 25 = .ok (.iload_n 2, 1) := by decide +kernel
theorem dX9_lawful_26 : decode cX9_lawful 26 = .ok (.invokevirtual 167, 3) := by decide +kernel
theorem dX9_lawful_29 : decode cX9_lawful 29 = .ok (.ifCond .eq 7, 3) := by decide +kernel
theorem dX9_lawful_32 : decode cX9_lawful 32 = .ok (.iconst 1, 1) := by decide +kernel
theorem dX9_lawful_33 : decode cX9_lawful 33 = .ok (.goto 4, 3) := by decide +kernel
theorem dX9_lawful_36 : decode cX9_lawful 36 = .ok (.iconst 0, 1) := by decide +kernel
theorem dX9_lawful_37 : decode cX9_lawful 37 = .ok (.ireturn, 1) := by decide +kernel
theorem dX9_counted_0 : decode cX9_counted 0 = .ok (.iconst 0, 1) := by decide +kernel
theorem dX9_counted_1 : decode cX9_counted 1 = .ok (.istore_n 2, 1) := by decide +kernel
theorem dX9_counted_2 : decode cX9_counted 2 = .ok (.iconst 0, 1) := by decide +kernel
theorem dX9_counted_3 : decode cX9_counted 3 = .ok (.istore_n 3, 1) := by decide +kernel
theorem dX9_counted_4 : decode cX9_counted 4 = .ok (.iload_n 3, 1) := by decide +kernel
theorem dX9_counted_5 : decode cX9_counted 5 = .ok (.aload_n 0, 1) := by decide +kernel
theorem dX9_counted_6 : decode cX9_counted 6 = .ok (.getfield 171, 3) := by decide +kernel
theorem dX9_counted_9 : decode cX9_counted 9 = .ok (.if_icmp .ge 27, 3) := by decide +kernel
theorem dX9_counted_12 : decode cX9_counted 12 = .ok (.iload_n 2, 1) := by decide +kernel
theorem dX9_counted_13 : decode cX9_counted 13 = .ok (.aload_n 0, 1) := by decide +kernel
theorem dX9_counted_14 : decode cX9_counted 14 = .ok (.getfield 45, 3) := by decide +kernel
theorem dX9_counted_17 : decode cX9_counted 17 = .ok (.iload_n 3, 1) := by decide +kernel
theorem dX9_counted_18 : decode cX9_counted 18 = .ok (.iaload, 1) := by decide +kernel
theorem dX9_counted_19 : decode cX9_counted 19 = .ok (.iload_n 1, 1) := by decide +kernel
theorem dX9_counted_20 : decode cX9_counted 20 = .ok (.if_icmp .ne 7, 3) := by decide +kernel
theorem dX9_counted_23 : decode cX9_counted 23 = .ok (.iconst 1, 1) := by decide +kernel
theorem dX9_counted_24 : decode cX9_counted 24 = .ok (.goto 4, 3) := by decide +kernel
theorem dX9_counted_27 : decode cX9_counted 27 = .ok (.iconst 0, 1) := by decide +kernel
theorem dX9_counted_28 : decode cX9_counted 28 = .ok (.iadd, 1) := by decide +kernel
theorem dX9_counted_29 : decode cX9_counted 29 = .ok (.istore_n 2, 1) := by decide +kernel
theorem dX9_counted_30 : decode cX9_counted 30 = .ok (.iinc 3 1, 3) := by decide +kernel
theorem dX9_counted_33 : decode cX9_counted 33 = .ok (.goto (-29), 3) := by decide +kernel
theorem dX9_counted_36 : decode cX9_counted 36 = .ok (.iload_n 2, 1) := by decide +kernel
theorem dX9_counted_37 : decode cX9_counted 37 = .ok (.ireturn, 1) := by decide +kernel
theorem dX9_ask_0 : decode cX9_ask 0 = .ok (.aload_n 0, 1) := by decide +kernel
theorem dX9_ask_1 : decode cX9_ask 1 = .ok (.iconst 0, 1) := by decide +kernel
theorem dX9_ask_2 : decode cX9_ask 2 = .ok (.putfield 97, 3) := by decide +kernel
theorem dX9_ask_5 : decode cX9_ask 5 = .ok (.aload_n 0, 1) := by decide +kernel
theorem dX9_ask_6 : decode cX9_ask 6 = .ok (.iload_n 1, 1) := by decide +kernel
theorem dX9_ask_7 : decode cX9_ask 7 = .ok (.invokevirtual 174, 3) := by decide +kernel
theorem dX9_ask_10 : decode cX9_ask 10 = .ok (.ifCond .eq 78, 3) := by decide +kernel
theorem dX9_ask_13 : decode cX9_ask 13 = .ok (.aload_n 0, 1) := by decide +kernel
theorem dX9_ask_14 : decode cX9_ask 14 = .ok (.iload_n 2, 1) := by decide +kernel
theorem dX9_ask_15 : decode cX9_ask 15 = .ok (.invokevirtual 113, 3) := by decide +kernel
theorem dX9_ask_18 : decode cX9_ask 18 = .ok (.ifCond .eq 70, 3) := by decide +kernel
theorem dX9_ask_21 : decode cX9_ask 21 = .ok (.iload_n 3, 1) := by decide +kernel
theorem dX9_ask_22 : decode cX9_ask 22 = .ok (.iconst 0, 1) := by decide +kernel
theorem dX9_ask_23 : decode cX9_ask 23 = .ok (.sipush 255, 3) := by decide +kernel
theorem dX9_ask_26 : decode cX9_ask 26 = .ok (.invokestatic 100, 3) := by decide +kernel
theorem dX9_ask_29 : decode cX9_ask 29 = .ok (.ifCond .eq 59, 3) := by decide +kernel
theorem dX9_ask_32 : decode cX9_ask 32 = .ok (.iload 4, 2) := by decide +kernel
theorem dX9_ask_34 : decode cX9_ask 34 = .ok (.aload_n 0, 1) := by decide +kernel
theorem dX9_ask_35 : decode cX9_ask 35 = .ok (.getfield 164, 3) := by decide +kernel
theorem dX9_ask_38 : decode cX9_ask 38 = .ok (.aload_n 0, 1) := by decide +kernel
theorem dX9_ask_39 : decode cX9_ask 39 = .ok (.getfield 164, 3) := by decide +kernel
theorem dX9_ask_42 : decode cX9_ask 42 = .ok (.bipush 60, 2) := by decide +kernel
theorem dX9_ask_44 : decode cX9_ask 44 = .ok (.iadd, 1) := by decide +kernel
theorem dX9_ask_45 : decode cX9_ask 45 = .ok (.invokestatic 100, 3) := by decide +kernel
theorem dX9_ask_48 : decode cX9_ask 48 = .ok (.ifCond .eq 40, 3) := by decide +kernel
theorem dX9_ask_51 : decode cX9_ask 51 = .ok (.iload 5, 2) := by decide +kernel
theorem dX9_ask_53 : decode cX9_ask 53 = .ok (.iload 4, 2) := by decide +kernel
theorem dX9_ask_55 : decode cX9_ask 55 = .ok (.aload_n 0, 1) := by decide +kernel
theorem dX9_ask_56 : decode cX9_ask 56 = .ok (.getfield 164, 3) := by decide +kernel
theorem dX9_ask_59 : decode cX9_ask 59 = .ok (.bipush 60, 2) := by decide +kernel
theorem dX9_ask_61 : decode cX9_ask 61 = .ok (.iadd, 1) := by decide +kernel
theorem dX9_ask_62 : decode cX9_ask 62 = .ok (.invokestatic 100, 3) := by decide +kernel
theorem dX9_ask_65 : decode cX9_ask 65 = .ok (.ifCond .eq 23, 3) := by decide +kernel
theorem dX9_ask_68 : decode cX9_ask 68 = .ok (.iload 5, 2) := by decide +kernel
theorem dX9_ask_70 : decode cX9_ask 70 = .ok (.iload 4, 2) := by decide +kernel
theorem dX9_ask_72 : decode cX9_ask 72 = .ok (.isub, 1) := by decide +kernel
theorem dX9_ask_73 : decode cX9_ask 73 = .ok (.bipush 14, 2) := by decide +kernel
theorem dX9_ask_75 : decode cX9_ask 75 = .ok (.if_icmp .gt 13, 3) := by decide +kernel
theorem dX9_ask_78 : decode cX9_ask 78 = .ok (.iload 6, 2) := by decide +kernel
theorem dX9_ask_80 : decode cX9_ask 80 = .ok (.iconst 0, 1) := by decide +kernel
theorem dX9_ask_81 : decode cX9_ask 81 = .ok (.iconst 2, 1) := by decide +kernel
theorem dX9_ask_82 : decode cX9_ask 82 = .ok (.invokestatic 100, 3) := by decide +kernel
theorem dX9_ask_85 : decode cX9_ask 85 = .ok (.ifCond .ne 5, 3) := by decide +kernel
theorem dX9_ask_88 : decode cX9_ask 88 = .ok (.iconst (-1), 1) := by decide +kernel
theorem dX9_ask_89 : decode cX9_ask 89 = .ok (.ireturn, 1) := by decide +kernel
theorem dX9_ask_90 : decode cX9_ask 90 = .ok (.aload_n 0, 1) := by decide +kernel
theorem dX9_ask_91 : decode cX9_ask 91 = .ok (.iconst 0, 1) := by decide +kernel
theorem dX9_ask_92 : decode cX9_ask 92 = .ok (.invokevirtual 177, 3) := by decide +kernel
theorem dX9_ask_95 : decode cX9_ask 95 = .ok (.iconst 5, 1) := by decide +kernel
theorem dX9_ask_96 : decode cX9_ask 96 = .ok (.if_icmp .eq 12, 3) := by decide +kernel
theorem dX9_ask_99 : decode cX9_ask 99 = .ok (.aload_n 0, 1) := by decide +kernel
theorem dX9_ask_100 : decode cX9_ask 100 = .ok (.getfield 171, 3) := by decide +kernel
theorem dX9_ask_103 : decode cX9_ask 103 = .ok (.bipush 120, 2) := by decide +kernel
theorem dX9_ask_105 : decode cX9_ask 105 = .ok (.if_icmp .ne 5, 3) := by decide +kernel
theorem dX9_ask_108 : decode cX9_ask 108 = .ok (.iconst (-1), 1) := by decide +kernel
theorem dX9_ask_109 : decode cX9_ask 109 = .ok (.ireturn, 1) := by decide +kernel
theorem dX9_ask_110 : decode cX9_ask 110 = .ok (.aload_n 0, 1) := by decide +kernel
theorem dX9_ask_111 : decode cX9_ask 111 = .ok (.getfield 45, 3) := by decide +kernel
theorem dX9_ask_114 : decode cX9_ask 114 = .ok (.aload_n 0, 1) := by decide +kernel
theorem dX9_ask_115 : decode cX9_ask 115 = .ok (.getfield 171, 3) := by decide +kernel
theorem dX9_ask_118 : decode cX9_ask 118 = .ok (.iconst 0, 1) := by decide +kernel
theorem dX9_ask_119 : decode cX9_ask 119 = .ok (.iastore, 1) := by decide +kernel
theorem dX9_ask_120 : decode cX9_ask 120 = .ok (.aload_n 0, 1) := by decide +kernel
theorem dX9_ask_121 : decode cX9_ask 121 = .ok (.getfield 48, 3) := by decide +kernel
theorem dX9_ask_124 : decode cX9_ask 124 = .ok (.aload_n 0, 1) := by decide +kernel
theorem dX9_ask_125 : decode cX9_ask 125 = .ok (.getfield 171, 3) := by decide +kernel
theorem dX9_ask_128 : decode cX9_ask 128 = .ok (.iconst (-1), 1) := by decide +kernel
theorem dX9_ask_129 : decode cX9_ask 129 = .ok (.iastore, 1) := by decide +kernel
theorem dX9_ask_130 : decode cX9_ask 130 = .ok (.aload_n 0, 1) := by decide +kernel
theorem dX9_ask_131 : decode cX9_ask 131 = .ok (.getfield 54, 3) := by decide +kernel
theorem dX9_ask_134 : decode cX9_ask 134 = .ok (.aload_n 0, 1) := by decide +kernel
theorem dX9_ask_135 : decode cX9_ask 135 = .ok (.getfield 171, 3) := by decide +kernel
theorem dX9_ask_138 : decode cX9_ask 138 = .ok (.iload_n 1, 1) := by decide +kernel
theorem dX9_ask_139 : decode cX9_ask 139 = .ok (.iastore, 1) := by decide +kernel
theorem dX9_ask_140 : decode cX9_ask 140 = .ok (.aload_n 0, 1) := by decide +kernel
theorem dX9_ask_141 : decode cX9_ask 141 = .ok (.getfield 57, 3) := by decide +kernel
theorem dX9_ask_144 : decode cX9_ask 144 = .ok (.aload_n 0, 1) := by decide +kernel
theorem dX9_ask_145 : decode cX9_ask 145 = .ok (.getfield 171, 3) := by decide +kernel
theorem dX9_ask_148 : decode cX9_ask 148 = .ok (.iload_n 2, 1) := by decide +kernel
theorem dX9_ask_149 : decode cX9_ask 149 = .ok (.iastore, 1) := by decide +kernel
theorem dX9_ask_150 : decode cX9_ask 150 = .ok (.aload_n 0, 1) := by decide +kernel
theorem dX9_ask_151 : decode cX9_ask 151 = .ok (.getfield 60, 3) := by decide +kernel
theorem dX9_ask_154 : decode cX9_ask 154 = .ok (.aload_n 0, 1) := by decide +kernel
theorem dX9_ask_155 : decode cX9_ask 155 = .ok (.getfield 171, 3) := by decide +kernel
theorem dX9_ask_158 : decode cX9_ask 158 = .ok (.iload_n 3, 1) := by decide +kernel
theorem dX9_ask_159 : decode cX9_ask 159 = .ok (.iastore, 1) := by decide +kernel
theorem dX9_ask_160 : decode cX9_ask 160 = .ok (.aload_n 0, 1) := by decide +kernel
theorem dX9_ask_161 : decode cX9_ask 161 = .ok (.getfield 63, 3) := by decide +kernel
theorem dX9_ask_164 : decode cX9_ask 164 = .ok (.aload_n 0, 1) := by decide +kernel
theorem dX9_ask_165 : decode cX9_ask 165 = .ok (.getfield 171, 3) := by decide +kernel
theorem dX9_ask_168 : decode cX9_ask 168 = .ok (.iload 4, 2) := by decide +kernel
theorem dX9_ask_170 : decode cX9_ask 170 = .ok (.iastore, 1) := by decide +kernel
theorem dX9_ask_171 : decode cX9_ask 171 = .ok (.aload_n 0, 1) := by decide +kernel
theorem dX9_ask_172 : decode cX9_ask 172 = .ok (.getfield 66, 3) := by decide +kernel
theorem dX9_ask_175 : decode cX9_ask 175 = .ok (.aload_n 0, 1) := by decide +kernel
theorem dX9_ask_176 : decode cX9_ask 176 = .ok (.getfield 171, 3) := by decide +kernel
theorem dX9_ask_179 : decode cX9_ask 179 = .ok (.iload 5, 2) := by decide +kernel
theorem dX9_ask_181 : decode cX9_ask 181 = .ok (.iastore, 1) := by decide +kernel
theorem dX9_ask_182 : decode cX9_ask 182 = .ok (.aload_n 0, 1) := by decide +kernel
theorem dX9_ask_183 : decode cX9_ask 183 = .ok (.getfield 69, 3) := by decide +kernel
theorem dX9_ask_186 : decode cX9_ask 186 = .ok (.aload_n 0, 1) := by decide +kernel
theorem dX9_ask_187 : decode cX9_ask 187 = .ok (.getfield 171, 3) := by decide +kernel
theorem dX9_ask_190 : decode cX9_ask 190 = .ok (.iload 6, 2) := by decide +kernel
theorem dX9_ask_192 : decode cX9_ask 192 = .ok (.iastore, 1) := by decide +kernel
theorem dX9_ask_193 : decode cX9_ask 193 = .ok (.aload_n 0, 1) := by decide +kernel
theorem dX9_ask_194 : decode cX9_ask 194 = .ok (.dup, 1) := by decide +kernel
theorem dX9_ask_195 : decode cX9_ask 195 = .ok (.getfield 171, 3) := by decide +kernel
theorem dX9_ask_198 : decode cX9_ask 198 = .ok (.iconst 1, 1) := by decide +kernel
theorem dX9_ask_199 : decode cX9_ask 199 = .ok (.iadd, 1) := by decide +kernel
theorem dX9_ask_200 : decode cX9_ask 200 = .ok (.putfield 171, 3) := by decide +kernel
theorem dX9_ask_203 : decode cX9_ask 203 = .ok (.aload_n 0, 1) := by decide +kernel
theorem dX9_ask_204 : decode cX9_ask 204 = .ok (.getfield 171, 3) := by decide +kernel
theorem dX9_ask_207 : decode cX9_ask 207 = .ok (.iconst 1, 1) := by decide +kernel
theorem dX9_ask_208 : decode cX9_ask 208 = .ok (.isub, 1) := by decide +kernel
theorem dX9_ask_209 : decode cX9_ask 209 = .ok (.ireturn, 1) := by decide +kernel
theorem dX9_fits_0 : decode cX9_fits 0 = .ok (.iload_n 1, 1) := by decide +kernel
theorem dX9_fits_1 : decode cX9_fits 1 = .ok (.aload_n 0, 1) := by decide +kernel
theorem dX9_fits_2 : decode cX9_fits 2 = .ok (.getfield 57, 3) := by decide +kernel
theorem dX9_fits_5 : decode cX9_fits 5 = .ok (.iload_n 2, 1) := by decide +kernel
theorem dX9_fits_6 : decode cX9_fits 6 = .ok (.iaload, 1) := by decide +kernel
theorem dX9_fits_7 : decode cX9_fits 7 = .ok (.if_icmp .eq 34, 3) := by decide +kernel
theorem dX9_fits_10 : decode cX9_fits 10 = .ok (.aload_n 0, 1) := by decide +kernel
theorem dX9_fits_11 : decode cX9_fits 11 = .ok (.getfield 60, 3) := by decide +kernel
theorem dX9_fits_14 : decode cX9_fits 14 = .ok (.iload_n 2, 1) := by decide +kernel
theorem dX9_fits_15 : decode cX9_fits 15 = .ok (.iaload, 1) := by decide +kernel
theorem dX9_fits_16 : decode cX9_fits 16 = .ok (.ifCond .eq 29, 3) := by decide +kernel
theorem dX9_fits_19 : decode cX9_fits 19 = .ok (.aload_n 0, 1) := by decide +kernel
theorem dX9_fits_20 : decode cX9_fits 20 = .ok (.getfield 13, 3) := by decide +kernel
theorem dX9_fits_23 : decode cX9_fits 23 = .ok (.iload_n 1, 1) := by decide +kernel
theorem dX9_fits_24 : decode cX9_fits 24 = .ok (.iaload, 1) := by decide +kernel
theorem dX9_fits_25 : decode cX9_fits 25 = .ok (.aload_n 0, 1) := by decide +kernel
theorem dX9_fits_26 : decode cX9_fits 26 = .ok (.getfield 60, 3) := by decide +kernel
theorem dX9_fits_29 : decode cX9_fits 29 = .ok (.iload_n 2, 1) := by decide +kernel
theorem dX9_fits_30 : decode cX9_fits 30 = .ok (.iaload, 1) := by decide +kernel
theorem dX9_fits_31 : decode cX9_fits 31 = .ok (.iand, 1) := by decide +kernel
theorem dX9_fits_32 : decode cX9_fits 32 = .ok (.aload_n 0, 1) := by decide +kernel
theorem dX9_fits_33 : decode cX9_fits 33 = .ok (.getfield 60, 3) := by decide +kernel
theorem dX9_fits_36 : decode cX9_fits 36 = .ok (.iload_n 2, 1) := by decide +kernel
theorem dX9_fits_37 : decode cX9_fits 37 = .ok (.iaload, 1) := by decide +kernel
theorem dX9_fits_38 : decode cX9_fits 38 = .ok (.if_icmp .ne 7, 3) := by decide +kernel
theorem dX9_fits_41 : decode cX9_fits 41 = .ok (.iconst 1, 1) := by decide +kernel
theorem dX9_fits_42 : decode cX9_fits 42 = .ok (.goto 4, 3) := by decide +kernel
theorem dX9_fits_45 : decode cX9_fits 45 = .ok (.iconst 0, 1) := by decide +kernel
theorem dX9_fits_46 : decode cX9_fits 46 = .ok (.ireturn, 1) := by decide +kernel
theorem dX9_outWith_0 : decode cX9_outWith 0 = .ok (.iconst 0, 1) := by decide +kernel
theorem dX9_outWith_1 : decode cX9_outWith 1 = .ok (.istore_n 2, 1) := by decide +kernel
theorem dX9_outWith_2 : decode cX9_outWith 2 = .ok (.iload_n 2, 1) := by decide +kernel
theorem dX9_outWith_3 : decode cX9_outWith 3 = .ok (.aload_n 0, 1) := by decide +kernel
theorem dX9_outWith_4 : decode cX9_outWith 4 = .ok (.getfield 171, 3) := by decide +kernel
theorem dX9_outWith_7 : decode cX9_outWith 7 = .ok (.if_icmp .ge 31, 3) := by decide +kernel
theorem dX9_outWith_10 : decode cX9_outWith 10 = .ok (.aload_n 0, 1) := by decide +kernel
theorem dX9_outWith_11 : decode cX9_outWith 11 = .ok (.getfield 45, 3) := by decide +kernel
theorem dX9_outWith_14 : decode cX9_outWith 14 = .ok (.iload_n 2, 1) := by decide +kernel
theorem dX9_outWith_15 : decode cX9_outWith 15 = .ok (.iaload, 1) := by decide +kernel
theorem dX9_outWith_16 : decode cX9_outWith 16 = .ok (.iconst 3, 1) := by decide +kernel
theorem dX9_outWith_17 : decode cX9_outWith 17 = .ok (.if_icmp .ne 15, 3) := by decide +kernel
theorem dX9_outWith_20 : decode cX9_outWith 20 = .ok (.aload_n 0, 1) := by decide +kernel
theorem dX9_outWith_21 : decode cX9_outWith 21 = .ok (.getfield 48, 3) := by decide +kernel
theorem dX9_outWith_24 : decode cX9_outWith 24 = .ok (.iload_n 2, 1) := by decide +kernel
theorem dX9_outWith_25 : decode cX9_outWith 25 = .ok (.iaload, 1) := by decide +kernel
theorem dX9_outWith_26 : decode cX9_outWith 26 = .ok (.iload_n 1, 1) := by decide +kernel
theorem dX9_outWith_27 : decode cX9_outWith 27 = .ok (.if_icmp .ne 5, 3) := by decide +kernel
theorem dX9_outWith_30 : decode cX9_outWith 30 = .ok (.iload_n 2, 1) := by decide +kernel
theorem dX9_outWith_31 : decode cX9_outWith 31 = .ok (.ireturn, 1) := by decide +kernel
theorem dX9_outWith_32 : decode cX9_outWith 32 = .ok (.iinc 2 1, 3) := by decide +kernel
theorem dX9_outWith_35 : decode cX9_outWith 35 = .ok (.goto (-33), 3) := by decide +kernel
theorem dX9_outWith_38 : decode cX9_outWith 38 = .ok (.iconst (-1), 1) := by decide +kernel
theorem dX9_outWith_39 : decode cX9_outWith 39 = .ok (.ireturn, 1) := by decide +kernel
theorem dX9_endOf_0 : decode cX9_endOf 0 = .ok (.aload_n 0, 1) := by decide +kernel
theorem dX9_endOf_1 : decode cX9_endOf 1 = .ok (.getfield 45, 3) := by decide +kernel
theorem dX9_endOf_4 : decode cX9_endOf 4 = .ok (.iload_n 1, 1) := by decide +kernel
theorem dX9_endOf_5 : decode cX9_endOf 5 = .ok (.iaload, 1) := by decide +kernel
theorem dX9_endOf_6 : decode cX9_endOf 6 = .ok (.iconst 4, 1) := by decide +kernel
theorem dX9_endOf_7 : decode cX9_endOf 7 = .ok (.if_icmp .ne 12, 3) := by decide +kernel
theorem dX9_endOf_10 : decode cX9_endOf 10 = .ok (.aload_n 0, 1) := by decide +kernel
theorem dX9_endOf_11 : decode cX9_endOf 11 = .ok (.getfield 72, 3) := by decide +kernel
theorem dX9_endOf_14 : decode cX9_endOf 14 = .ok (.iload_n 1, 1) := by decide +kernel
theorem dX9_endOf_15 : decode cX9_endOf 15 = .ok (.iaload, 1) := by decide +kernel
theorem dX9_endOf_16 : decode cX9_endOf 16 = .ok (.goto 39, 3) := by decide +kernel
theorem dX9_endOf_19 : decode cX9_endOf 19 = .ok (.aload_n 0, 1) := by decide +kernel
theorem dX9_endOf_20 : decode cX9_endOf 20 = .ok (.getfield 45, 3) := by decide +kernel
theorem dX9_endOf_23 : decode cX9_endOf 23 = .ok (.iload_n 1, 1) := by decide +kernel
theorem dX9_endOf_24 : decode cX9_endOf 24 = .ok (.iaload, 1) := by decide +kernel
theorem dX9_endOf_25 : decode cX9_endOf 25 = .ok (.iconst 3, 1) := by decide +kernel
theorem dX9_endOf_26 : decode cX9_endOf 26 = .ok (.if_icmp .ne 23, 3) := by decide +kernel
theorem dX9_endOf_29 : decode cX9_endOf 29 = .ok (.aload_n 0, 1) := by decide +kernel
theorem dX9_endOf_30 : decode cX9_endOf 30 = .ok (.getfield 164, 3) := by decide +kernel
theorem dX9_endOf_33 : decode cX9_endOf 33 = .ok (.aload_n 0, 1) := by decide +kernel
theorem dX9_endOf_34 : decode cX9_endOf 34 = .ok (.getfield 66, 3) := by decide +kernel
theorem dX9_endOf_37 : decode cX9_endOf 37 = .ok (.iload_n 1, 1) := by decide +kernel
theorem dX9_endOf_38 : decode cX9_endOf 38 = .ok (.iaload, 1) := by decide +kernel
theorem dX9_endOf_39 : decode cX9_endOf 39 = .ok (.if_icmp .le 10, 3) := by decide +kernel
theorem dX9_endOf_42 : decode cX9_endOf 42 = .ok (.aload_n 0, 1) := by decide +kernel
theorem dX9_endOf_43 : decode cX9_endOf 43 = .ok (.getfield 164, 3) := by decide +kernel
theorem dX9_endOf_46 : decode cX9_endOf 46 = .ok (.goto 9, 3) := by decide +kernel
theorem dX9_endOf_49 : decode cX9_endOf 49 = .ok (.aload_n 0, 1) := by decide +kernel
theorem dX9_endOf_50 : decode cX9_endOf 50 = .ok (.getfield 66, 3) := by decide +kernel
theorem dX9_endOf_53 : decode cX9_endOf 53 = .ok (.iload_n 1, 1) := by decide +kernel
theorem dX9_endOf_54 : decode cX9_endOf 54 = .ok (.iaload, 1) := by decide +kernel
theorem dX9_endOf_55 : decode cX9_endOf 55 = .ok (.ireturn, 1) := by decide +kernel
theorem dX9_areNear_0 : decode cX9_areNear 0 = .ok (.lload_n 0, 1) := by decide +kernel
theorem dX9_areNear_1 : decode cX9_areNear 1 = .ok (.lload 6, 2) := by decide +kernel
theorem dX9_areNear_3 : decode cX9_areNear 3 = .ok (.iload 8, 2) := by decide +kernel
theorem dX9_areNear_5 : decode cX9_areNear 5 = .ok (.i2l, 1) := by decide +kernel
theorem dX9_areNear_6 : decode cX9_areNear 6 = .ok (.ladd, 1) := by decide +kernel
theorem dX9_areNear_7 : decode cX9_areNear 7 = .ok (.lcmp, 1) := by decide +kernel
theorem dX9_areNear_8 : decode cX9_areNear 8 = .ok (.ifCond .gt 18, 3) := by decide +kernel
theorem dX9_areNear_11 : decode cX9_areNear 11 = .ok (.lload 4, 2) := by decide +kernel
theorem dX9_areNear_13 : decode cX9_areNear 13 = .ok (.lload_n 2, 1) := by decide +kernel
theorem dX9_areNear_14 : decode cX9_areNear 14 = .ok (.iload 8, 2) := by decide +kernel
theorem dX9_areNear_16 : decode cX9_areNear 16 = .ok (.i2l, 1) := by decide +kernel
theorem dX9_areNear_17 : decode cX9_areNear 17 = .ok (.ladd, 1) := by decide +kernel
theorem dX9_areNear_18 : decode cX9_areNear 18 = .ok (.lcmp, 1) := by decide +kernel
theorem dX9_areNear_19 : decode cX9_areNear 19 = .ok (.ifCond .gt 7, 3) := by decide +kernel
theorem dX9_areNear_22 : decode cX9_areNear 22 = .ok (.iconst 1, 1) := by decide +kernel
theorem dX9_areNear_23 : decode cX9_areNear 23 = .ok (.goto 4, 3) := by decide +kernel
theorem dX9_areNear_26 : decode cX9_areNear 26 = .ok (.iconst 0, 1) := by decide +kernel
theorem dX9_areNear_27 : decode cX9_areNear 27 = .ok (.ireturn, 1) := by decide +kernel
theorem dX9_isFreeFor_0 : decode cX9_isFreeFor 0 = .ok (.iconst 0, 1) := by decide +kernel
theorem dX9_isFreeFor_1 : decode cX9_isFreeFor 1 = .ok (.istore 5, 2) := by decide +kernel
theorem dX9_isFreeFor_3 : decode cX9_isFreeFor 3 = .ok (.iload 5, 2) := by decide +kernel
theorem dX9_isFreeFor_5 : decode cX9_isFreeFor 5 = .ok (.aload_n 0, 1) := by decide +kernel
theorem dX9_isFreeFor_6 : decode cX9_isFreeFor 6 = .ok (.getfield 171, 3) := by decide +kernel
theorem dX9_isFreeFor_9 : decode cX9_isFreeFor 9 = .ok (.if_icmp .ge 101, 3) := by decide +kernel
theorem dX9_isFreeFor_12 : decode cX9_isFreeFor 12 = .ok (.iload 5, 2) := by decide +kernel
theorem dX9_isFreeFor_14 : decode cX9_isFreeFor 14 = .ok (.iload 4, 2) := by decide +kernel
theorem dX9_isFreeFor_16 : decode cX9_isFreeFor 16 = .ok (.if_icmp .eq 88, 3) := by decide +kernel
theorem dX9_isFreeFor_19 : decode cX9_isFreeFor 19 = .ok (.aload_n 0, 1) := by decide +kernel
theorem dX9_isFreeFor_20 : decode cX9_isFreeFor 20 = .ok (.getfield 48, 3) := by decide +kernel
theorem dX9_isFreeFor_23 : decode cX9_isFreeFor 23 = .ok (.iload 5, 2) := by decide +kernel
theorem dX9_isFreeFor_25 : decode cX9_isFreeFor 25 = .ok (.iaload, 1) := by decide +kernel
theorem dX9_isFreeFor_26 : decode cX9_isFreeFor 26 = .ok (.iload_n 1, 1) := by decide +kernel
theorem dX9_isFreeFor_27 : decode cX9_isFreeFor 27 = .ok (.if_icmp .ne 77, 3) := by decide +kernel
theorem dX9_isFreeFor_30 : decode cX9_isFreeFor 30 = .ok (.aload_n 0, 1) := by decide +kernel
theorem dX9_isFreeFor_31 : decode cX9_isFreeFor 31 = .ok (.getfield 45, 3) := by decide +kernel
theorem dX9_isFreeFor_34 : decode cX9_isFreeFor 34 = .ok (.iload 5, 2) := by decide +kernel
theorem dX9_isFreeFor_36 : decode cX9_isFreeFor 36 = .ok (.iaload, 1) := by decide +kernel
theorem dX9_isFreeFor_37 : decode cX9_isFreeFor 37 = .ok (.iconst 1, 1) := by decide +kernel
theorem dX9_isFreeFor_38 : decode cX9_isFreeFor 38 = .ok (.if_icmp .eq 28, 3) := by decide +kernel
theorem dX9_isFreeFor_41 : decode cX9_isFreeFor 41 = .ok (.aload_n 0, 1) := by decide +kernel
theorem dX9_isFreeFor_42 : decode cX9_isFreeFor 42 = .ok (.getfield 45, 3) := by decide +kernel
theorem dX9_isFreeFor_45 : decode cX9_isFreeFor 45 = .ok (.iload 5, 2) := by decide +kernel
theorem dX9_isFreeFor_47 : decode cX9_isFreeFor 47 = .ok (.iaload, 1) := by decide +kernel
theorem dX9_isFreeFor_48 : decode cX9_isFreeFor 48 = .ok (.iconst 3, 1) := by decide +kernel
theorem dX9_isFreeFor_49 : decode cX9_isFreeFor 49 = .ok (.if_icmp .eq 17, 3) := by decide +kernel
theorem dX9_isFreeFor_52 : decode cX9_isFreeFor 52 = .ok (.aload_n 0, 1) := by decide +kernel
theorem dX9_isFreeFor_53 : decode cX9_isFreeFor 53 = .ok (.getfield 45, 3) := by decide +kernel
theorem dX9_isFreeFor_56 : decode cX9_isFreeFor 56 = .ok (.iload 5, 2) := by decide +kernel
theorem dX9_isFreeFor_58 : decode cX9_isFreeFor 58 = .ok (.iaload, 1) := by decide +kernel
theorem dX9_isFreeFor_59 : decode cX9_isFreeFor 59 = .ok (.iconst 4, 1) := by decide +kernel
theorem dX9_isFreeFor_60 : decode cX9_isFreeFor 60 = .ok (.if_icmp .eq 6, 3) := by decide +kernel
theorem dX9_isFreeFor_63 : decode cX9_isFreeFor 63 = .ok (.goto 41, 3) := by decide +kernel
theorem dX9_isFreeFor_66 : decode cX9_isFreeFor 66 = .ok (.iload_n 2, 1) := by decide +kernel
theorem dX9_isFreeFor_67 : decode cX9_isFreeFor 67 = .ok (.i2l, 1) := by decide +kernel
theorem dX9_isFreeFor_68 : decode cX9_isFreeFor 68 = .ok (.iload_n 3, 1) := by decide +kernel
theorem dX9_isFreeFor_69 : decode cX9_isFreeFor 69 = .ok (.i2l, 1) := by decide +kernel
theorem dX9_isFreeFor_70 : decode cX9_isFreeFor 70 = .ok (.aload_n 0, 1) := by decide +kernel
theorem dX9_isFreeFor_71 : decode cX9_isFreeFor 71 = .ok (.getfield 63, 3) := by decide +kernel
theorem dX9_isFreeFor_74 : decode cX9_isFreeFor 74 = .ok (.iload 5, 2) := by decide +kernel
theorem dX9_isFreeFor_76 : decode cX9_isFreeFor 76 = .ok (.iaload, 1) := by decide +kernel
theorem dX9_isFreeFor_77 : decode cX9_isFreeFor 77 = .ok (.i2l, 1) := by decide +kernel
theorem dX9_isFreeFor_78 : decode cX9_isFreeFor 78 = .ok (.aload_n 0, 1) := by decide +kernel
theorem dX9_isFreeFor_79 : decode cX9_isFreeFor 79 = .ok (.iload 5, 2) := by decide +kernel
theorem dX9_isFreeFor_81 : decode cX9_isFreeFor 81 = .ok (.invokevirtual 180, 3) := by decide +kernel
theorem dX9_isFreeFor_84 : decode cX9_isFreeFor 84 = .ok (.i2l, 1) := by decide +kernel
theorem dX9_isFreeFor_85 : decode cX9_isFreeFor 85 = .ok (.aload_n 0, 1) := by decide +kernel
theorem dX9_isFreeFor_86 : decode cX9_isFreeFor 86 = .ok (.getfield 7, 3) := by decide +kernel
theorem dX9_isFreeFor_89 : decode cX9_isFreeFor 89 = .ok (.aload_n 0, 1) := by decide +kernel
theorem dX9_isFreeFor_90 : decode cX9_isFreeFor 90 = .ok (.getfield 19, 3) := by decide +kernel
theorem dX9_isFreeFor_93 : decode cX9_isFreeFor 93 = .ok (.iload_n 1, 1) := by decide +kernel
theorem dX9_isFreeFor_94 : decode cX9_isFreeFor 94 = .ok (.iaload, 1) := by decide +kernel
theorem dX9_isFreeFor_95 : decode cX9_isFreeFor 95 = .ok (.iaload, 1) := by decide +kernel
theorem dX9_isFreeFor_96 : decode cX9_isFreeFor 96 = .ok (.invokestatic 183, 3) := by decide +kernel
theorem dX9_isFreeFor_99 : decode cX9_isFreeFor 99 = .ok (.ifCond .eq 5, 3) := by decide +kernel
theorem dX9_isFreeFor_102 : decode cX9_isFreeFor 102 = .ok (.iconst 0, 1) := by decide +kernel
theorem dX9_isFreeFor_103 : decode cX9_isFreeFor 103 = .ok (.ireturn, 1) := by decide +kernel
theorem dX9_isFreeFor_104 : decode cX9_isFreeFor 104 = .ok (.iinc 5 1, 3) := by decide +kernel
theorem dX9_isFreeFor_107 : decode cX9_isFreeFor 107 = .ok (.goto (-104), 3) := by decide +kernel
theorem dX9_isFreeFor_110 : decode cX9_isFreeFor 110 = .ok (.iconst 1, 1) := by decide +kernel
theorem dX9_isFreeFor_111 : decode cX9_isFreeFor 111 = .ok (.ireturn, 1) := by decide +kernel
theorem dX9_worth_0 : decode cX9_worth 0 = .ok (.iconst 0, 1) := by decide +kernel
theorem dX9_worth_1 : decode cX9_worth 1 = .ok (.istore_n 1, 1) := by decide +kernel
theorem dX9_worth_2 : decode cX9_worth 2 = .ok (.iconst 0, 1) := by decide +kernel
theorem dX9_worth_3 : decode cX9_worth 3 = .ok (.istore_n 2, 1) := by decide +kernel
theorem dX9_worth_4 : decode cX9_worth 4 = .ok (.iload_n 2, 1) := by decide +kernel
theorem dX9_worth_5 : decode cX9_worth 5 = .ok (.aload_n 0, 1) := by decide +kernel
theorem dX9_worth_6 : decode cX9_worth 6 = .ok (.getfield 187, 3) := by decide +kernel
theorem dX9_worth_9 : decode cX9_worth 9 = .ok (.if_icmp .ge 102, 3) := by decide +kernel
theorem dX9_worth_12 : decode cX9_worth 12 = .ok (.aload_n 0, 1) := by decide +kernel
theorem dX9_worth_13 : decode cX9_worth 13 = .ok (.getfield 78, 3) := by decide +kernel
theorem dX9_worth_16 : decode cX9_worth 16 = .ok (.iload_n 2, 1) := by decide +kernel
theorem dX9_worth_17 : decode cX9_worth 17 = .ok (.iaload, 1) := by decide +kernel
theorem dX9_worth_18 : decode cX9_worth 18 = .ok (.iconst (-1), 1) := by decide +kernel
theorem dX9_worth_19 : decode cX9_worth 19 = .ok (.if_icmp .ne 6, 3) := by decide +kernel
theorem dX9_worth_22 : decode cX9_worth 22 = .ok (.goto 83, 3) := by decide +kernel
theorem dX9_worth_25 : decode cX9_worth 25 = .ok (.iload_n 1, 1) := by decide +kernel
theorem dX9_worth_26 : decode cX9_worth 26 = .ok (.aload_n 0, 1) := by decide +kernel
theorem dX9_worth_27 : decode cX9_worth 27 = .ok (.getfield 69, 3) := by decide +kernel
theorem dX9_worth_30 : decode cX9_worth 30 = .ok (.aload_n 0, 1) := by decide +kernel
theorem dX9_worth_31 : decode cX9_worth 31 = .ok (.getfield 75, 3) := by decide +kernel
theorem dX9_worth_34 : decode cX9_worth 34 = .ok (.iload_n 2, 1) := by decide +kernel
theorem dX9_worth_35 : decode cX9_worth 35 = .ok (.iaload, 1) := by decide +kernel
theorem dX9_worth_36 : decode cX9_worth 36 = .ok (.iaload, 1) := by decide +kernel
theorem dX9_worth_37 : decode cX9_worth 37 = .ok (.iconst 2, 1) := by decide +kernel
theorem dX9_worth_38 : decode cX9_worth 38 = .ok (.if_icmp .ne 9, 3) := by decide +kernel
theorem dX9_worth_41 : decode cX9_worth 41 = .ok (.sipush 10000, 3) := by decide +kernel
theorem dX9_worth_44 : decode cX9_worth 44 = .ok (.goto 26, 3) := by decide +kernel
theorem dX9_worth_47 : decode cX9_worth 47 = .ok (.aload_n 0, 1) := by decide +kernel
theorem dX9_worth_48 : decode cX9_worth 48 = .ok (.getfield 69, 3) := by decide +kernel
theorem dX9_worth_51 : decode cX9_worth 51 = .ok (.aload_n 0, 1) := by decide +kernel
theorem dX9_worth_52 : decode cX9_worth 52 = .ok (.getfield 75, 3) := by decide +kernel
theorem dX9_worth_55 : decode cX9_worth 55 = .ok (.iload_n 2, 1) := by decide +kernel
theorem dX9_worth_56 : decode cX9_worth 56 = .ok (.iaload, 1) := by decide +kernel
theorem dX9_worth_57 : decode cX9_worth 57 = .ok (.iaload, 1) := by decide +kernel
theorem dX9_worth_58 : decode cX9_worth 58 = .ok (.iconst 1, 1) := by decide +kernel
theorem dX9_worth_59 : decode cX9_worth 59 = .ok (.if_icmp .ne 9, 3) := by decide +kernel
theorem dX9_worth_62 : decode cX9_worth 62 = .ok (.sipush 1000, 3) := by decide +kernel
theorem dX9_worth_65 : decode cX9_worth 65 = .ok (.goto 5, 3) := by decide +kernel
theorem dX9_worth_68 : decode cX9_worth 68 = .ok (.bipush 100, 2) := by decide +kernel
theorem dX9_worth_70 : decode cX9_worth 70 = .ok (.iadd, 1) := by decide +kernel
theorem dX9_worth_71 : decode cX9_worth 71 = .ok (.istore_n 1, 1) := by decide +kernel
theorem dX9_worth_72 : decode cX9_worth 72 = .ok (.iload_n 1, 1) := by decide +kernel
theorem dX9_worth_73 : decode cX9_worth 73 = .ok (.aload_n 0, 1) := by decide +kernel
theorem dX9_worth_74 : decode cX9_worth 74 = .ok (.getfield 19, 3) := by decide +kernel
theorem dX9_worth_77 : decode cX9_worth 77 = .ok (.aload_n 0, 1) := by decide +kernel
theorem dX9_worth_78 : decode cX9_worth 78 = .ok (.getfield 78, 3) := by decide +kernel
theorem dX9_worth_81 : decode cX9_worth 81 = .ok (.iload_n 2, 1) := by decide +kernel
theorem dX9_worth_82 : decode cX9_worth 82 = .ok (.iaload, 1) := by decide +kernel
theorem dX9_worth_83 : decode cX9_worth 83 = .ok (.iaload, 1) := by decide +kernel
theorem dX9_worth_84 : decode cX9_worth 84 = .ok (.aload_n 0, 1) := by decide +kernel
theorem dX9_worth_85 : decode cX9_worth 85 = .ok (.getfield 57, 3) := by decide +kernel
theorem dX9_worth_88 : decode cX9_worth 88 = .ok (.aload_n 0, 1) := by decide +kernel
theorem dX9_worth_89 : decode cX9_worth 89 = .ok (.getfield 75, 3) := by decide +kernel
theorem dX9_worth_92 : decode cX9_worth 92 = .ok (.iload_n 2, 1) := by decide +kernel
theorem dX9_worth_93 : decode cX9_worth 93 = .ok (.iaload, 1) := by decide +kernel
theorem dX9_worth_94 : decode cX9_worth 94 = .ok (.iaload, 1) := by decide +kernel
theorem dX9_worth_95 : decode cX9_worth 95 = .ok (.if_icmp .ne 7, 3) := by decide +kernel
theorem dX9_worth_98 : decode cX9_worth 98 = .ok (.iconst 0, 1) := by decide +kernel
theorem dX9_worth_99 : decode cX9_worth 99 = .ok (.goto 4, 3) := by decide +kernel
theorem dX9_worth_102 : decode cX9_worth 102 = .ok (.iconst 1, 1) := by decide +kernel
theorem dX9_worth_103 : decode cX9_worth 103 = .ok (.isub, 1) := by decide +kernel
theorem dX9_worth_104 : decode cX9_worth 104 = .ok (.istore_n 1, 1) := by decide +kernel
theorem dX9_worth_105 : decode cX9_worth 105 = .ok (.iinc 2 1, 3) := by decide +kernel
theorem dX9_worth_108 : decode cX9_worth 108 = .ok (.goto (-104), 3) := by decide +kernel
theorem dX9_worth_111 : decode cX9_worth 111 = .ok (.iload_n 1, 1) := by decide +kernel
theorem dX9_worth_112 : decode cX9_worth 112 = .ok (.ireturn, 1) := by decide +kernel
theorem dX9_stands_0 : decode cX9_stands 0 = .ok (.aload_n 0, 1) := by decide +kernel
theorem dX9_stands_1 : decode cX9_stands 1 = .ok (.getfield 84, 3) := by decide +kernel
theorem dX9_stands_4 : decode cX9_stands 4 = .ok (.bipush 12, 2) := by decide +kernel
theorem dX9_stands_6 : decode cX9_stands 6 = .ok (.iload_n 1, 1) := by decide +kernel
theorem dX9_stands_7 : decode cX9_stands 7 = .ok (.imul, 1) := by decide +kernel
theorem dX9_stands_8 : decode cX9_stands 8 = .ok (.iload_n 2, 1) := by decide +kernel
theorem dX9_stands_9 : decode cX9_stands 9 = .ok (.iadd, 1) := by decide +kernel
theorem dX9_stands_10 : decode cX9_stands 10 = .ok (.baload, 1) := by decide +kernel
theorem dX9_stands_11 : decode cX9_stands 11 = .ok (.ifCond .ne 5, 3) := by decide +kernel
theorem dX9_stands_14 : decode cX9_stands 14 = .ok (.iconst 0, 1) := by decide +kernel
theorem dX9_stands_15 : decode cX9_stands 15 = .ok (.ireturn, 1) := by decide +kernel
theorem dX9_stands_16 : decode cX9_stands 16 = .ok (.iconst 0, 1) := by decide +kernel
theorem dX9_stands_17 : decode cX9_stands 17 = .ok (.istore_n 3, 1) := by decide +kernel
theorem dX9_stands_18 : decode cX9_stands 18 = .ok (.iload_n 3, 1) := by decide +kernel
theorem dX9_stands_19 : decode cX9_stands 19 = .ok (.iload_n 1, 1) := by decide +kernel
theorem dX9_stands_20 : decode cX9_stands 20 = .ok (.if_icmp .ge 86, 3) := by decide +kernel
theorem dX9_stands_23 : decode cX9_stands 23 = .ok (.aload_n 0, 1) := by decide +kernel
theorem dX9_stands_24 : decode cX9_stands 24 = .ok (.getfield 78, 3) := by decide +kernel
theorem dX9_stands_27 : decode cX9_stands 27 = .ok (.iload_n 3, 1) := by decide +kernel
theorem dX9_stands_28 : decode cX9_stands 28 = .ok (.iaload, 1) := by decide +kernel
theorem dX9_stands_29 : decode cX9_stands 29 = .ok (.iload_n 2, 1) := by decide +kernel
theorem dX9_stands_30 : decode cX9_stands 30 = .ok (.if_icmp .ne 70, 3) := by decide +kernel
theorem dX9_stands_33 : decode cX9_stands 33 = .ok (.aload_n 0, 1) := by decide +kernel
theorem dX9_stands_34 : decode cX9_stands 34 = .ok (.getfield 63, 3) := by decide +kernel
theorem dX9_stands_37 : decode cX9_stands 37 = .ok (.aload_n 0, 1) := by decide +kernel
theorem dX9_stands_38 : decode cX9_stands 38 = .ok (.getfield 75, 3) := by decide +kernel
theorem dX9_stands_41 : decode cX9_stands 41 = .ok (.iload_n 1, 1) := by decide +kernel
theorem dX9_stands_42 : decode cX9_stands 42 = .ok (.iaload, 1) := by decide +kernel
theorem dX9_stands_43 : decode cX9_stands 43 = .ok (.iaload, 1) := by decide +kernel
theorem dX9_stands_44 : decode cX9_stands 44 = .ok (.i2l, 1) := by decide +kernel
theorem dX9_stands_45 : decode cX9_stands 45 = .ok (.aload_n 0, 1) := by decide +kernel
theorem dX9_stands_46 : decode cX9_stands 46 = .ok (.getfield 66, 3) := by decide +kernel
theorem dX9_stands_49 : decode cX9_stands 49 = .ok (.aload_n 0, 1) := by decide +kernel
theorem dX9_stands_50 : decode cX9_stands 50 = .ok (.getfield 75, 3) := by decide +kernel
theorem dX9_stands_53 : decode cX9_stands 53 = .ok (.iload_n 1, 1) := by decide +kernel
theorem dX9_stands_54 : decode cX9_stands 54 = .ok (.iaload, 1) := by decide +kernel
theorem dX9_stands_55 : decode cX9_stands 55 = .ok (.iaload, 1) := by decide +kernel
theorem dX9_stands_56 : decode cX9_stands 56 = .ok (.i2l, 1) := by decide +kernel
theorem dX9_stands_57 : decode cX9_stands 57 = .ok (.aload_n 0, 1) := by decide +kernel
theorem dX9_stands_58 : decode cX9_stands 58 = .ok (.getfield 63, 3) := by decide +kernel
theorem dX9_stands_61 : decode cX9_stands 61 = .ok (.aload_n 0, 1) := by decide +kernel
theorem dX9_stands_62 : decode cX9_stands 62 = .ok (.getfield 75, 3) := by decide +kernel
theorem dX9_stands_65 : decode cX9_stands 65 = .ok (.iload_n 3, 1) := by decide +kernel
theorem dX9_stands_66 : decode cX9_stands 66 = .ok (.iaload, 1) := by decide +kernel
theorem dX9_stands_67 : decode cX9_stands 67 = .ok (.iaload, 1) := by decide +kernel
theorem dX9_stands_68 : decode cX9_stands 68 = .ok (.i2l, 1) := by decide +kernel
theorem dX9_stands_69 : decode cX9_stands 69 = .ok (.aload_n 0, 1) := by decide +kernel
theorem dX9_stands_70 : decode cX9_stands 70 = .ok (.getfield 66, 3) := by decide +kernel
theorem dX9_stands_73 : decode cX9_stands 73 = .ok (.aload_n 0, 1) := by decide +kernel
theorem dX9_stands_74 : decode cX9_stands 74 = .ok (.getfield 75, 3) := by decide +kernel
theorem dX9_stands_77 : decode cX9_stands 77 = .ok (.iload_n 3, 1) := by decide +kernel
theorem dX9_stands_78 : decode cX9_stands 78 = .ok (.iaload, 1) := by decide +kernel
theorem dX9_stands_79 : decode cX9_stands 79 = .ok (.iaload, 1) := by decide +kernel
theorem dX9_stands_80 : decode cX9_stands 80 = .ok (.i2l, 1) := by decide +kernel
theorem dX9_stands_81 : decode cX9_stands 81 = .ok (.aload_n 0, 1) := by decide +kernel
theorem dX9_stands_82 : decode cX9_stands 82 = .ok (.getfield 7, 3) := by decide +kernel
theorem dX9_stands_85 : decode cX9_stands 85 = .ok (.aload_n 0, 1) := by decide +kernel
theorem dX9_stands_86 : decode cX9_stands 86 = .ok (.getfield 19, 3) := by decide +kernel
theorem dX9_stands_89 : decode cX9_stands 89 = .ok (.iload_n 2, 1) := by decide +kernel
theorem dX9_stands_90 : decode cX9_stands 90 = .ok (.iaload, 1) := by decide +kernel
theorem dX9_stands_91 : decode cX9_stands 91 = .ok (.iaload, 1) := by decide +kernel
theorem dX9_stands_92 : decode cX9_stands 92 = .ok (.invokestatic 183, 3) := by decide +kernel
theorem dX9_stands_95 : decode cX9_stands 95 = .ok (.ifCond .eq 5, 3) := by decide +kernel
theorem dX9_stands_98 : decode cX9_stands 98 = .ok (.iconst 0, 1) := by decide +kernel
theorem dX9_stands_99 : decode cX9_stands 99 = .ok (.ireturn, 1) := by decide +kernel
theorem dX9_stands_100 : decode cX9_stands 100 = .ok (.iinc 3 1, 3) := by decide +kernel
theorem dX9_stands_103 : decode cX9_stands 103 = .ok (.goto (-85), 3) := by decide +kernel
theorem dX9_stands_106 : decode cX9_stands 106 = .ok (.iconst 1, 1) := by decide +kernel
theorem dX9_stands_107 : decode cX9_stands 107 = .ok (.ireturn, 1) := by decide +kernel
theorem dX9_tries_0 : decode cX9_tries 0 = .ok (.iload_n 1, 1) := by decide +kernel
theorem dX9_tries_1 : decode cX9_tries 1 = .ok (.aload_n 0, 1) := by decide +kernel
theorem dX9_tries_2 : decode cX9_tries 2 = .ok (.getfield 187, 3) := by decide +kernel
theorem dX9_tries_5 : decode cX9_tries 5 = .ok (.if_icmp .ne 51, 3) := by decide +kernel
theorem dX9_tries_8 : decode cX9_tries 8 = .ok (.aload_n 0, 1) := by decide +kernel
theorem dX9_tries_9 : decode cX9_tries 9 = .ok (.invokevirtual 190, 3) := by decide +kernel
theorem dX9_tries_12 : decode cX9_tries 12 = .ok (.istore_n 2, 1) := by decide +kernel
theorem dX9_tries_13 : decode cX9_tries 13 = .ok (.iload_n 2, 1) := by decide +kernel
theorem dX9_tries_14 : decode cX9_tries 14 = .ok (.aload_n 0, 1) := by decide +kernel
theorem dX9_tries_15 : decode cX9_tries 15 = .ok (.getfield 194, 3) := by decide +kernel
theorem dX9_tries_18 : decode cX9_tries 18 = .ok (.if_icmp .gt 4, 3) := by decide +kernel
theorem dX9_tries_21 : decode cX9_tries 21 = .ok (.return_, 1) := by decide +kernel
theorem dX9_tries_22 : decode cX9_tries 22 = .ok (.aload_n 0, 1) := by decide +kernel
theorem dX9_tries_23 : decode cX9_tries 23 = .ok (.iload_n 2, 1) := by decide +kernel
theorem dX9_tries_24 : decode cX9_tries 24 = .ok (.putfield 194, 3) := by decide +kernel
theorem dX9_tries_27 : decode cX9_tries 27 = .ok (.iconst 0, 1) := by decide +kernel
theorem dX9_tries_28 : decode cX9_tries 28 = .ok (.istore_n 3, 1) := by decide +kernel
theorem dX9_tries_29 : decode cX9_tries 29 = .ok (.iload_n 3, 1) := by decide +kernel
theorem dX9_tries_30 : decode cX9_tries 30 = .ok (.aload_n 0, 1) := by decide +kernel
theorem dX9_tries_31 : decode cX9_tries 31 = .ok (.getfield 187, 3) := by decide +kernel
theorem dX9_tries_34 : decode cX9_tries 34 = .ok (.if_icmp .ge 21, 3) := by decide +kernel
theorem dX9_tries_37 : decode cX9_tries 37 = .ok (.aload_n 0, 1) := by decide +kernel
theorem dX9_tries_38 : decode cX9_tries 38 = .ok (.getfield 81, 3) := by decide +kernel
theorem dX9_tries_41 : decode cX9_tries 41 = .ok (.iload_n 3, 1) := by decide +kernel
theorem dX9_tries_42 : decode cX9_tries 42 = .ok (.aload_n 0, 1) := by decide +kernel
theorem dX9_tries_43 : decode cX9_tries 43 = .ok (.getfield 78, 3) := by decide +kernel
theorem dX9_tries_46 : decode cX9_tries 46 = .ok (.iload_n 3, 1) := by decide +kernel
theorem dX9_tries_47 : decode cX9_tries 47 = .ok (.iaload, 1) := by decide +kernel
theorem dX9_tries_48 : decode cX9_tries 48 = .ok (.iastore, 1) := by decide +kernel
theorem dX9_tries_49 : decode cX9_tries 49 = .ok (.iinc 3 1, 3) := by decide +kernel
theorem dX9_tries_52 : decode cX9_tries 52 = .ok (.goto (-23), 3) := by decide +kernel
theorem dX9_tries_55 : decode cX9_tries 55 = .ok (.return_, 1) := by decide +kernel
theorem dX9_tries_56 : decode cX9_tries 56 = .ok (.iconst 0, 1) := by decide +kernel
theorem dX9_tries_57 : decode cX9_tries 57 = .ok (.istore_n 2, 1) := by decide +kernel
theorem dX9_tries_58 : decode cX9_tries 58 = .ok (.iload_n 2, 1) := by decide +kernel
theorem dX9_tries_59 : decode cX9_tries 59 = .ok (.aload_n 0, 1) := by decide +kernel
theorem dX9_tries_60 : decode cX9_tries 60 = .ok (.getfield 107, 3) := by decide +kernel
theorem dX9_tries_63 : decode cX9_tries 63 = .ok (.if_icmp .ge 35, 3) := by decide +kernel
theorem dX9_tries_66 : decode cX9_tries 66 = .ok (.aload_n 0, 1) := by decide +kernel
theorem dX9_tries_67 : decode cX9_tries 67 = .ok (.iload_n 1, 1) := by decide +kernel
theorem dX9_tries_68 : decode cX9_tries 68 = .ok (.iload_n 2, 1) := by decide +kernel
theorem dX9_tries_69 : decode cX9_tries 69 = .ok (.invokevirtual 197, 3) := by decide +kernel
theorem dX9_tries_72 : decode cX9_tries 72 = .ok (.ifCond .ne 6, 3) := by decide +kernel
theorem dX9_tries_75 : decode cX9_tries 75 = .ok (.goto 17, 3) := by decide +kernel
theorem dX9_tries_78 : decode cX9_tries 78 = .ok (.aload_n 0, 1) := by decide +kernel
theorem dX9_tries_79 : decode cX9_tries 79 = .ok (.getfield 78, 3) := by decide +kernel
theorem dX9_tries_82 : decode cX9_tries 82 = .ok (.iload_n 1, 1) := by decide +kernel
theorem dX9_tries_83 : decode cX9_tries 83 = .ok (.iload_n 2, 1) := by decide +kernel
theorem dX9_tries_84 : decode cX9_tries 84 = .ok (.iastore, 1) := by decide +kernel
theorem dX9_tries_85 : decode cX9_tries 85 = .ok (.aload_n 0, 1) := by decide +kernel
theorem dX9_tries_86 : decode cX9_tries 86 = .ok (.iload_n 1, 1) := by decide +kernel
theorem dX9_tries_87 : decode cX9_tries 87 = .ok (.iconst 1, 1) := by decide +kernel
theorem dX9_tries_88 : decode cX9_tries 88 = .ok (.iadd, 1) := by decide +kernel
theorem dX9_tries_89 : decode cX9_tries 89 = .ok (.invokevirtual 200, 3) := by decide +kernel
theorem dX9_tries_92 : decode cX9_tries 92 = .ok (.iinc 2 1, 3) := by decide +kernel
theorem dX9_tries_95 : decode cX9_tries 95 = .ok (.goto (-37), 3) := by decide +kernel
theorem dX9_tries_98 : decode cX9_tries 98 = .ok (.aload_n 0, 1) := by decide +kernel
theorem dX9_tries_99 : decode cX9_tries 99 = .ok (.getfield 78, 3) := by decide +kernel
theorem dX9_tries_102 : decode cX9_tries 102 = .ok (.iload_n 1, 1) := by decide +kernel
theorem dX9_tries_103 : decode cX9_tries 103 = .ok (.iconst (-1), 1) := by decide +kernel
theorem dX9_tries_104 : decode cX9_tries 104 = .ok (.iastore, 1) := by decide +kernel
theorem dX9_tries_105 : decode cX9_tries 105 = .ok (.aload_n 0, 1) := by decide +kernel
theorem dX9_tries_106 : decode cX9_tries 106 = .ok (.iload_n 1, 1) := by decide +kernel
theorem dX9_tries_107 : decode cX9_tries 107 = .ok (.iconst 1, 1) := by decide +kernel
theorem dX9_tries_108 : decode cX9_tries 108 = .ok (.iadd, 1) := by decide +kernel
theorem dX9_tries_109 : decode cX9_tries 109 = .ok (.invokevirtual 200, 3) := by decide +kernel
theorem dX9_tries_112 : decode cX9_tries 112 = .ok (.return_, 1) := by decide +kernel
theorem dX9_plan_0 : decode cX9_plan 0 = .ok (.aload_n 0, 1) := by decide +kernel
theorem dX9_plan_1 : decode cX9_plan 1 = .ok (.iconst 0, 1) := by decide +kernel
theorem dX9_plan_2 : decode cX9_plan 2 = .ok (.putfield 97, 3) := by decide +kernel
theorem dX9_plan_5 : decode cX9_plan 5 = .ok (.aload_n 0, 1) := by decide +kernel
theorem dX9_plan_6 : decode cX9_plan 6 = .ok (.iconst 0, 1) := by decide +kernel
theorem dX9_plan_7 : decode cX9_plan 7 = .ok (.putfield 187, 3) := by decide +kernel
theorem dX9_plan_10 : decode cX9_plan 10 = .ok (.iconst 0, 1) := by decide +kernel
theorem dX9_plan_11 : decode cX9_plan 11 = .ok (.istore_n 1, 1) := by decide +kernel
theorem dX9_plan_12 : decode cX9_plan 12 = .ok (.iload_n 1, 1) := by decide +kernel
theorem dX9_plan_13 : decode cX9_plan 13 = .ok (.aload_n 0, 1) := by decide +kernel
theorem dX9_plan_14 : decode cX9_plan 14 = .ok (.getfield 171, 3) := by decide +kernel
theorem dX9_plan_17 : decode cX9_plan 17 = .ok (.if_icmp .ge 111, 3) := by decide +kernel
theorem dX9_plan_20 : decode cX9_plan 20 = .ok (.aload_n 0, 1) := by decide +kernel
theorem dX9_plan_21 : decode cX9_plan 21 = .ok (.getfield 45, 3) := by decide +kernel
theorem dX9_plan_24 : decode cX9_plan 24 = .ok (.iload_n 1, 1) := by decide +kernel
theorem dX9_plan_25 : decode cX9_plan 25 = .ok (.iaload, 1) := by decide +kernel
theorem dX9_plan_26 : decode cX9_plan 26 = .ok (.ifCond .eq 6, 3) := by decide +kernel
theorem dX9_plan_29 : decode cX9_plan 29 = .ok (.goto 93, 3) := by decide +kernel
theorem dX9_plan_32 : decode cX9_plan 32 = .ok (.aload_n 0, 1) := by decide +kernel
theorem dX9_plan_33 : decode cX9_plan 33 = .ok (.getfield 75, 3) := by decide +kernel
theorem dX9_plan_36 : decode cX9_plan 36 = .ok (.aload_n 0, 1) := by decide +kernel
theorem dX9_plan_37 : decode cX9_plan 37 = .ok (.getfield 187, 3) := by decide +kernel
theorem dX9_plan_40 : decode cX9_plan 40 = .ok (.iload_n 1, 1) := by decide +kernel
theorem dX9_plan_41 : decode cX9_plan 41 = .ok (.iastore, 1) := by decide +kernel
theorem dX9_plan_42 : decode cX9_plan 42 = .ok (.iconst 0, 1) := by decide +kernel
theorem dX9_plan_43 : decode cX9_plan 43 = .ok (.istore_n 2, 1) := by decide +kernel
theorem dX9_plan_44 : decode cX9_plan 44 = .ok (.iload_n 2, 1) := by decide +kernel
theorem dX9_plan_45 : decode cX9_plan 45 = .ok (.aload_n 0, 1) := by decide +kernel
theorem dX9_plan_46 : decode cX9_plan 46 = .ok (.getfield 107, 3) := by decide +kernel
theorem dX9_plan_49 : decode cX9_plan 49 = .ok (.if_icmp .ge 63, 3) := by decide +kernel
theorem dX9_plan_52 : decode cX9_plan 52 = .ok (.aload_n 0, 1) := by decide +kernel
theorem dX9_plan_53 : decode cX9_plan 53 = .ok (.getfield 84, 3) := by decide +kernel
theorem dX9_plan_56 : decode cX9_plan 56 = .ok (.bipush 12, 2) := by decide +kernel
theorem dX9_plan_58 : decode cX9_plan 58 = .ok (.aload_n 0, 1) := by decide +kernel
theorem dX9_plan_59 : decode cX9_plan 59 = .ok (.getfield 187, 3) := by decide +kernel
theorem dX9_plan_62 : decode cX9_plan 62 = .ok (.imul, 1) := by decide +kernel
theorem dX9_plan_63 : decode cX9_plan 63 = .ok (.iload_n 2, 1) := by decide +kernel
theorem dX9_plan_64 : decode cX9_plan 64 = .ok (.iadd, 1) := by decide +kernel
theorem dX9_plan_65 : decode cX9_plan 65 = .ok (.aload_n 0, 1) := by decide +kernel
theorem dX9_plan_66 : decode cX9_plan 66 = .ok (.aload_n 0, 1) := by decide +kernel
theorem dX9_plan_67 : decode cX9_plan 67 = .ok (.getfield 19, 3) := by decide +kernel
theorem dX9_plan_70 : decode cX9_plan 70 = .ok (.iload_n 2, 1) := by decide +kernel
theorem dX9_plan_71 : decode cX9_plan 71 = .ok (.iaload, 1) := by decide +kernel
theorem dX9_plan_72 : decode cX9_plan 72 = .ok (.iload_n 1, 1) := by decide +kernel
theorem dX9_plan_73 : decode cX9_plan 73 = .ok (.invokevirtual 204, 3) := by decide +kernel
theorem dX9_plan_76 : decode cX9_plan 76 = .ok (.ifCond .eq 28, 3) := by decide +kernel
theorem dX9_plan_79 : decode cX9_plan 79 = .ok (.aload_n 0, 1) := by decide +kernel
theorem dX9_plan_80 : decode cX9_plan 80 = .ok (.iload_n 2, 1) := by decide +kernel
theorem dX9_plan_81 : decode cX9_plan 81 = .ok (.aload_n 0, 1) := by decide +kernel
theorem dX9_plan_82 : decode cX9_plan 82 = .ok (.getfield 63, 3) := by decide +kernel
theorem dX9_plan_85 : decode cX9_plan 85 = .ok (.iload_n 1, 1) := by decide +kernel
theorem dX9_plan_86 : decode cX9_plan 86 = .ok (.iaload, 1) := by decide +kernel
theorem dX9_plan_87 : decode cX9_plan 87 = .ok (.aload_n 0, 1) := by decide +kernel
theorem dX9_plan_88 : decode cX9_plan 88 = .ok (.getfield 66, 3) := by decide +kernel
theorem dX9_plan_91 : decode cX9_plan 91 = .ok (.iload_n 1, 1) := by decide +kernel
theorem dX9_plan_92 : decode cX9_plan 92 = .ok (.iaload, 1) := by decide +kernel
theorem dX9_plan_93 : decode cX9_plan 93 = .ok (.iload_n 1, 1) := by decide +kernel
theorem dX9_plan_94 : decode cX9_plan 94 = .ok (.invokevirtual 207, 3) := by decide +kernel
theorem dX9_plan_97 : decode cX9_plan 97 = .ok (.ifCond .eq 7, 3) := by decide +kernel
theorem dX9_plan_100 : decode cX9_plan 100 = .ok (.iconst 1, 1) := by decide +kernel
theorem dX9_plan_101 : decode cX9_plan 101 = .ok (.goto 4, 3) := by decide +kernel
theorem dX9_plan_104 : decode cX9_plan 104 = .ok (.iconst 0, 1) := by decide +kernel
theorem dX9_plan_105 : decode cX9_plan 105 = .ok (.bastore, 1) := by decide +kernel
theorem dX9_plan_106 : decode cX9_plan 106 = .ok (.iinc 2 1, 3) := by decide +kernel
theorem dX9_plan_109 : decode cX9_plan 109 = .ok (.goto (-65), 3) := by decide +kernel
theorem dX9_plan_112 : decode cX9_plan 112 = .ok (.aload_n 0, 1) := by decide +kernel
theorem dX9_plan_113 : decode cX9_plan 113 = .ok (.dup, 1) := by decide +kernel
theorem dX9_plan_114 : decode cX9_plan 114 = .ok (.getfield 187, 3) := by decide +kernel
theorem dX9_plan_117 : decode cX9_plan 117 = .ok (.iconst 1, 1) := by decide +kernel
theorem dX9_plan_118 : decode cX9_plan 118 = .ok (.iadd, 1) := by decide +kernel
theorem dX9_plan_119 : decode cX9_plan 119 = .ok (.putfield 187, 3) := by decide +kernel
theorem dX9_plan_122 : decode cX9_plan 122 = .ok (.iinc 1 1, 3) := by decide +kernel
theorem dX9_plan_125 : decode cX9_plan 125 = .ok (.goto (-113), 3) := by decide +kernel
theorem dX9_plan_128 : decode cX9_plan 128 = .ok (.aload_n 0, 1) := by decide +kernel
theorem dX9_plan_129 : decode cX9_plan 129 = .ok (.iconst (-1), 1) := by decide +kernel
theorem dX9_plan_130 : decode cX9_plan 130 = .ok (.putfield 194, 3) := by decide +kernel
theorem dX9_plan_133 : decode cX9_plan 133 = .ok (.aload_n 0, 1) := by decide +kernel
theorem dX9_plan_134 : decode cX9_plan 134 = .ok (.iconst 0, 1) := by decide +kernel
theorem dX9_plan_135 : decode cX9_plan 135 = .ok (.invokevirtual 200, 3) := by decide +kernel
theorem dX9_plan_138 : decode cX9_plan 138 = .ok (.iconst 0, 1) := by decide +kernel
theorem dX9_plan_139 : decode cX9_plan 139 = .ok (.istore_n 1, 1) := by decide +kernel
theorem dX9_plan_140 : decode cX9_plan 140 = .ok (.iconst 0, 1) := by decide +kernel
theorem dX9_plan_141 : decode cX9_plan 141 = .ok (.istore_n 2, 1) := by decide +kernel
theorem dX9_plan_142 : decode cX9_plan 142 = .ok (.iload_n 2, 1) := by decide +kernel
theorem dX9_plan_143 : decode cX9_plan 143 = .ok (.aload_n 0, 1) := by decide +kernel
theorem dX9_plan_144 : decode cX9_plan 144 = .ok (.getfield 187, 3) := by decide +kernel
theorem dX9_plan_147 : decode cX9_plan 147 = .ok (.if_icmp .ge 67, 3) := by decide +kernel
theorem dX9_plan_150 : decode cX9_plan 150 = .ok (.aload_n 0, 1) := by decide +kernel
theorem dX9_plan_151 : decode cX9_plan 151 = .ok (.getfield 75, 3) := by decide +kernel
theorem dX9_plan_154 : decode cX9_plan 154 = .ok (.iload_n 2, 1) := by decide +kernel
theorem dX9_plan_155 : decode cX9_plan 155 = .ok (.iaload, 1) := by decide +kernel
theorem dX9_plan_156 : decode cX9_plan 156 = .ok (.istore_n 3, 1) := by decide +kernel
theorem dX9_plan_157 : decode cX9_plan 157 = .ok (.aload_n 0, 1) := by decide +kernel
theorem dX9_plan_158 : decode cX9_plan 158 = .ok (.getfield 48, 3) := by decide +kernel
theorem dX9_plan_161 : decode cX9_plan 161 = .ok (.iload_n 3, 1) := by decide +kernel
theorem dX9_plan_162 : decode cX9_plan 162 = .ok (.aload_n 0, 1) := by decide +kernel
theorem dX9_plan_163 : decode cX9_plan 163 = .ok (.getfield 81, 3) := by decide +kernel
theorem dX9_plan_166 : decode cX9_plan 166 = .ok (.iload_n 2, 1) := by decide +kernel
theorem dX9_plan_167 : decode cX9_plan 167 = .ok (.iaload, 1) := by decide +kernel
theorem dX9_plan_168 : decode cX9_plan 168 = .ok (.iastore, 1) := by decide +kernel
theorem dX9_plan_169 : decode cX9_plan 169 = .ok (.aload_n 0, 1) := by decide +kernel
theorem dX9_plan_170 : decode cX9_plan 170 = .ok (.getfield 45, 3) := by decide +kernel
theorem dX9_plan_173 : decode cX9_plan 173 = .ok (.iload_n 3, 1) := by decide +kernel
theorem dX9_plan_174 : decode cX9_plan 174 = .ok (.aload_n 0, 1) := by decide +kernel
theorem dX9_plan_175 : decode cX9_plan 175 = .ok (.getfield 81, 3) := by decide +kernel
theorem dX9_plan_178 : decode cX9_plan 178 = .ok (.iload_n 2, 1) := by decide +kernel
theorem dX9_plan_179 : decode cX9_plan 179 = .ok (.iaload, 1) := by decide +kernel
theorem dX9_plan_180 : decode cX9_plan 180 = .ok (.iconst (-1), 1) := by decide +kernel
theorem dX9_plan_181 : decode cX9_plan 181 = .ok (.if_icmp .ne 7, 3) := by decide +kernel
theorem dX9_plan_184 : decode cX9_plan 184 = .ok (.iconst 2, 1) := by decide +kernel
theorem dX9_plan_185 : decode cX9_plan 185 = .ok (.goto 4, 3) := by decide +kernel
theorem dX9_plan_188 : decode cX9_plan 188 = .ok (.iconst 1, 1) := by decide +kernel
theorem dX9_plan_189 : decode cX9_plan 189 = .ok (.iastore, 1) := by decide +kernel
theorem dX9_plan_190 : decode cX9_plan 190 = .ok (.iload_n 1, 1) := by decide +kernel
theorem dX9_plan_191 : decode cX9_plan 191 = .ok (.aload_n 0, 1) := by decide +kernel
theorem dX9_plan_192 : decode cX9_plan 192 = .ok (.getfield 81, 3) := by decide +kernel
theorem dX9_plan_195 : decode cX9_plan 195 = .ok (.iload_n 2, 1) := by decide +kernel
theorem dX9_plan_196 : decode cX9_plan 196 = .ok (.iaload, 1) := by decide +kernel
theorem dX9_plan_197 : decode cX9_plan 197 = .ok (.iconst (-1), 1) := by decide +kernel
theorem dX9_plan_198 : decode cX9_plan 198 = .ok (.if_icmp .ne 7, 3) := by decide +kernel
theorem dX9_plan_201 : decode cX9_plan 201 = .ok (.iconst 0, 1) := by decide +kernel
theorem dX9_plan_202 : decode cX9_plan 202 = .ok (.goto 4, 3) := by decide +kernel
theorem dX9_plan_205 : decode cX9_plan 205 = .ok (.iconst 1, 1) := by decide +kernel
theorem dX9_plan_206 : decode cX9_plan 206 = .ok (.iadd, 1) := by decide +kernel
theorem dX9_plan_207 : decode cX9_plan 207 = .ok (.istore_n 1, 1) := by decide +kernel
theorem dX9_plan_208 : decode cX9_plan 208 = .ok (.iinc 2 1, 3) := by decide +kernel
theorem dX9_plan_211 : decode cX9_plan 211 = .ok (.goto (-69), 3) := by decide +kernel
theorem dX9_plan_214 : decode cX9_plan 214 = .ok (.iload_n 1, 1) := by decide +kernel
theorem dX9_plan_215 : decode cX9_plan 215 = .ok (.ireturn, 1) := by decide +kernel
theorem dX9_off_0 : decode cX9_off 0 = .ok (.aload_n 0, 1) := by decide +kernel
theorem dX9_off_1 : decode cX9_off 1 = .ok (.iconst 0, 1) := by decide +kernel
theorem dX9_off_2 : decode cX9_off 2 = .ok (.putfield 97, 3) := by decide +kernel
theorem dX9_off_5 : decode cX9_off 5 = .ok (.iload_n 1, 1) := by decide +kernel
theorem dX9_off_6 : decode cX9_off 6 = .ok (.iconst 0, 1) := by decide +kernel
theorem dX9_off_7 : decode cX9_off 7 = .ok (.aload_n 0, 1) := by decide +kernel
theorem dX9_off_8 : decode cX9_off 8 = .ok (.getfield 171, 3) := by decide +kernel
theorem dX9_off_11 : decode cX9_off 11 = .ok (.iconst 1, 1) := by decide +kernel
theorem dX9_off_12 : decode cX9_off 12 = .ok (.isub, 1) := by decide +kernel
theorem dX9_off_13 : decode cX9_off 13 = .ok (.invokestatic 100, 3) := by decide +kernel
theorem dX9_off_16 : decode cX9_off 16 = .ok (.ifCond .eq 22, 3) := by decide +kernel
theorem dX9_off_19 : decode cX9_off 19 = .ok (.aload_n 0, 1) := by decide +kernel
theorem dX9_off_20 : decode cX9_off 20 = .ok (.getfield 45, 3) := by decide +kernel
theorem dX9_off_23 : decode cX9_off 23 = .ok (.iload_n 1, 1) := by decide +kernel
theorem dX9_off_24 : decode cX9_off 24 = .ok (.iaload, 1) := by decide +kernel
theorem dX9_off_25 : decode cX9_off 25 = .ok (.ifCond .eq 15, 3) := by decide +kernel
theorem dX9_off_28 : decode cX9_off 28 = .ok (.aload_n 0, 1) := by decide +kernel
theorem dX9_off_29 : decode cX9_off 29 = .ok (.getfield 45, 3) := by decide +kernel
theorem dX9_off_32 : decode cX9_off 32 = .ok (.iload_n 1, 1) := by decide +kernel
theorem dX9_off_33 : decode cX9_off 33 = .ok (.iaload, 1) := by decide +kernel
theorem dX9_off_34 : decode cX9_off 34 = .ok (.iconst 1, 1) := by decide +kernel
theorem dX9_off_35 : decode cX9_off 35 = .ok (.if_icmp .eq 5, 3) := by decide +kernel
theorem dX9_off_38 : decode cX9_off 38 = .ok (.iconst 0, 1) := by decide +kernel
theorem dX9_off_39 : decode cX9_off 39 = .ok (.ireturn, 1) := by decide +kernel
theorem dX9_off_40 : decode cX9_off 40 = .ok (.aload_n 0, 1) := by decide +kernel
theorem dX9_off_41 : decode cX9_off 41 = .ok (.getfield 45, 3) := by decide +kernel
theorem dX9_off_44 : decode cX9_off 44 = .ok (.iload_n 1, 1) := by decide +kernel
theorem dX9_off_45 : decode cX9_off 45 = .ok (.bipush 6, 2) := by decide +kernel
theorem dX9_off_47 : decode cX9_off 47 = .ok (.iastore, 1) := by decide +kernel
theorem dX9_off_48 : decode cX9_off 48 = .ok (.iconst 1, 1) := by decide +kernel
theorem dX9_off_49 : decode cX9_off 49 = .ok (.ireturn, 1) := by decide +kernel
theorem dX9_out_0 : decode cX9_out 0 = .ok (.aload_n 0, 1) := by decide +kernel
theorem dX9_out_1 : decode cX9_out 1 = .ok (.iconst 0, 1) := by decide +kernel
theorem dX9_out_2 : decode cX9_out 2 = .ok (.putfield 97, 3) := by decide +kernel
theorem dX9_out_5 : decode cX9_out 5 = .ok (.iload_n 1, 1) := by decide +kernel
theorem dX9_out_6 : decode cX9_out 6 = .ok (.iconst 0, 1) := by decide +kernel
theorem dX9_out_7 : decode cX9_out 7 = .ok (.aload_n 0, 1) := by decide +kernel
theorem dX9_out_8 : decode cX9_out 8 = .ok (.getfield 171, 3) := by decide +kernel
theorem dX9_out_11 : decode cX9_out 11 = .ok (.iconst 1, 1) := by decide +kernel
theorem dX9_out_12 : decode cX9_out 12 = .ok (.isub, 1) := by decide +kernel
theorem dX9_out_13 : decode cX9_out 13 = .ok (.invokestatic 100, 3) := by decide +kernel
theorem dX9_out_16 : decode cX9_out 16 = .ok (.ifCond .eq 13, 3) := by decide +kernel
theorem dX9_out_19 : decode cX9_out 19 = .ok (.aload_n 0, 1) := by decide +kernel
theorem dX9_out_20 : decode cX9_out 20 = .ok (.getfield 45, 3) := by decide +kernel
theorem dX9_out_23 : decode cX9_out 23 = .ok (.iload_n 1, 1) := by decide +kernel
theorem dX9_out_24 : decode cX9_out 24 = .ok (.iaload, 1) := by decide +kernel
theorem dX9_out_25 : decode cX9_out 25 = .ok (.iconst 1, 1) := by decide +kernel
theorem dX9_out_26 : decode cX9_out 26 = .ok (.if_icmp .eq 5, 3) := by decide +kernel
theorem dX9_out_29 : decode cX9_out 29 = .ok (.iconst (-1), 1) := by decide +kernel
theorem dX9_out_30 : decode cX9_out 30 = .ok (.ireturn, 1) := by decide +kernel
end
section
theorem dX9_out_31 : decode cX9_out 31 = .ok (.aload_n 0, 1) := by decide +kernel
theorem dX9_out_32 : decode cX9_out 32 = .ok (.getfield 48, 3) := by decide +kernel
theorem dX9_out_35 : decode cX9_out 35 = .ok (.iload_n 1, 1) := by decide +kernel
theorem dX9_out_36 : decode cX9_out 36 = .ok (.iaload, 1) := by decide +kernel
theorem dX9_out_37 : decode cX9_out 37 = .ok (.istore_n 2, 1) := by decide +kernel
theorem dX9_out_38 : decode cX9_out 38 = .ok (.aload_n 0, 1) := by decide +kernel
theorem dX9_out_39 : decode cX9_out 39 = .ok (.getfield 164, 3) := by decide +kernel
theorem dX9_out_42 : decode cX9_out 42 = .ok (.aload_n 0, 1) := by decide +kernel
theorem dX9_out_43 : decode cX9_out 43 = .ok (.getfield 63, 3) := by decide +kernel
theorem dX9_out_46 : decode cX9_out 46 = .ok (.iload_n 1, 1) := by decide +kernel
theorem dX9_out_47 : decode cX9_out 47 = .ok (.iaload, 1) := by decide +kernel
theorem dX9_out_48 : decode cX9_out 48 = .ok (.if_icmp .ge 6, 3) := by decide +kernel
theorem dX9_out_51 : decode cX9_out 51 = .ok (.bipush (-2), 2) := by decide +kernel
theorem dX9_out_53 : decode cX9_out 53 = .ok (.ireturn, 1) := by decide +kernel
theorem dX9_out_54 : decode cX9_out 54 = .ok (.aload_n 0, 1) := by decide +kernel
theorem dX9_out_55 : decode cX9_out 55 = .ok (.getfield 25, 3) := by decide +kernel
theorem dX9_out_58 : decode cX9_out 58 = .ok (.aload_n 0, 1) := by decide +kernel
theorem dX9_out_59 : decode cX9_out 59 = .ok (.getfield 54, 3) := by decide +kernel
theorem dX9_out_62 : decode cX9_out 62 = .ok (.iload_n 1, 1) := by decide +kernel
theorem dX9_out_63 : decode cX9_out 63 = .ok (.iaload, 1) := by decide +kernel
theorem dX9_out_64 : decode cX9_out 64 = .ok (.iaload, 1) := by decide +kernel
theorem dX9_out_65 : decode cX9_out 65 = .ok (.bipush 40, 2) := by decide +kernel
theorem dX9_out_67 : decode cX9_out 67 = .ok (.if_icmp .le 6, 3) := by decide +kernel
theorem dX9_out_70 : decode cX9_out 70 = .ok (.bipush (-3), 2) := by decide +kernel
theorem dX9_out_72 : decode cX9_out 72 = .ok (.ireturn, 1) := by decide +kernel
theorem dX9_out_73 : decode cX9_out 73 = .ok (.aload_n 0, 1) := by decide +kernel
theorem dX9_out_74 : decode cX9_out 74 = .ok (.iload_n 2, 1) := by decide +kernel
theorem dX9_out_75 : decode cX9_out 75 = .ok (.invokevirtual 161, 3) := by decide +kernel
theorem dX9_out_78 : decode cX9_out 78 = .ok (.iconst (-1), 1) := by decide +kernel
theorem dX9_out_79 : decode cX9_out 79 = .ok (.if_icmp .eq 6, 3) := by decide +kernel
theorem dX9_out_82 : decode cX9_out 82 = .ok (.bipush (-4), 2) := by decide +kernel
theorem dX9_out_84 : decode cX9_out 84 = .ok (.ireturn, 1) := by decide +kernel
theorem dX9_out_85 : decode cX9_out 85 = .ok (.aload_n 0, 1) := by decide +kernel
theorem dX9_out_86 : decode cX9_out 86 = .ok (.iload_n 2, 1) := by decide +kernel
theorem dX9_out_87 : decode cX9_out 87 = .ok (.aload_n 0, 1) := by decide +kernel
theorem dX9_out_88 : decode cX9_out 88 = .ok (.getfield 66, 3) := by decide +kernel
theorem dX9_out_91 : decode cX9_out 91 = .ok (.iload_n 1, 1) := by decide +kernel
theorem dX9_out_92 : decode cX9_out 92 = .ok (.iaload, 1) := by decide +kernel
theorem dX9_out_93 : decode cX9_out 93 = .ok (.invokevirtual 167, 3) := by decide +kernel
theorem dX9_out_96 : decode cX9_out 96 = .ok (.ifCond .ne 6, 3) := by decide +kernel
theorem dX9_out_99 : decode cX9_out 99 = .ok (.bipush (-5), 2) := by decide +kernel
theorem dX9_out_101 : decode cX9_out 101 = .ok (.ireturn, 1) := by decide +kernel
theorem dX9_out_102 : decode cX9_out 102 = .ok (.iconst 0, 1) := by decide +kernel
theorem dX9_out_103 : decode cX9_out 103 = .ok (.istore_n 3, 1) := by decide +kernel
theorem dX9_out_104 : decode cX9_out 104 = .ok (.iload_n 3, 1) := by decide +kernel
theorem dX9_out_105 : decode cX9_out 105 = .ok (.aload_n 0, 1) := by decide +kernel
theorem dX9_out_106 : decode cX9_out 106 = .ok (.getfield 171, 3) := by decide +kernel
theorem dX9_out_109 : decode cX9_out 109 = .ok (.if_icmp .ge 57, 3) := by decide +kernel
theorem dX9_out_112 : decode cX9_out 112 = .ok (.aload_n 0, 1) := by decide +kernel
theorem dX9_out_113 : decode cX9_out 113 = .ok (.getfield 48, 3) := by decide +kernel
theorem dX9_out_116 : decode cX9_out 116 = .ok (.iload_n 3, 1) := by decide +kernel
theorem dX9_out_117 : decode cX9_out 117 = .ok (.iaload, 1) := by decide +kernel
theorem dX9_out_118 : decode cX9_out 118 = .ok (.iload_n 2, 1) := by decide +kernel
theorem dX9_out_119 : decode cX9_out 119 = .ok (.if_icmp .ne 41, 3) := by decide +kernel
theorem dX9_out_122 : decode cX9_out 122 = .ok (.aload_n 0, 1) := by decide +kernel
theorem dX9_out_123 : decode cX9_out 123 = .ok (.getfield 45, 3) := by decide +kernel
theorem dX9_out_126 : decode cX9_out 126 = .ok (.iload_n 3, 1) := by decide +kernel
theorem dX9_out_127 : decode cX9_out 127 = .ok (.iaload, 1) := by decide +kernel
theorem dX9_out_128 : decode cX9_out 128 = .ok (.iconst 4, 1) := by decide +kernel
theorem dX9_out_129 : decode cX9_out 129 = .ok (.if_icmp .ne 31, 3) := by decide +kernel
theorem dX9_out_132 : decode cX9_out 132 = .ok (.aload_n 0, 1) := by decide +kernel
theorem dX9_out_133 : decode cX9_out 133 = .ok (.getfield 164, 3) := by decide +kernel
theorem dX9_out_136 : decode cX9_out 136 = .ok (.aload_n 0, 1) := by decide +kernel
theorem dX9_out_137 : decode cX9_out 137 = .ok (.getfield 72, 3) := by decide +kernel
theorem dX9_out_140 : decode cX9_out 140 = .ok (.iload_n 3, 1) := by decide +kernel
theorem dX9_out_141 : decode cX9_out 141 = .ok (.iaload, 1) := by decide +kernel
theorem dX9_out_142 : decode cX9_out 142 = .ok (.aload_n 0, 1) := by decide +kernel
theorem dX9_out_143 : decode cX9_out 143 = .ok (.getfield 7, 3) := by decide +kernel
theorem dX9_out_146 : decode cX9_out 146 = .ok (.aload_n 0, 1) := by decide +kernel
theorem dX9_out_147 : decode cX9_out 147 = .ok (.getfield 19, 3) := by decide +kernel
theorem dX9_out_150 : decode cX9_out 150 = .ok (.iload_n 2, 1) := by decide +kernel
theorem dX9_out_151 : decode cX9_out 151 = .ok (.iaload, 1) := by decide +kernel
theorem dX9_out_152 : decode cX9_out 152 = .ok (.iaload, 1) := by decide +kernel
theorem dX9_out_153 : decode cX9_out 153 = .ok (.iadd, 1) := by decide +kernel
theorem dX9_out_154 : decode cX9_out 154 = .ok (.if_icmp .gt 6, 3) := by decide +kernel
theorem dX9_out_157 : decode cX9_out 157 = .ok (.bipush (-6), 2) := by decide +kernel
theorem dX9_out_159 : decode cX9_out 159 = .ok (.ireturn, 1) := by decide +kernel
theorem dX9_out_160 : decode cX9_out 160 = .ok (.iinc 3 1, 3) := by decide +kernel
theorem dX9_out_163 : decode cX9_out 163 = .ok (.goto (-59), 3) := by decide +kernel
theorem dX9_out_166 : decode cX9_out 166 = .ok (.aload_n 0, 1) := by decide +kernel
theorem dX9_out_167 : decode cX9_out 167 = .ok (.getfield 45, 3) := by decide +kernel
theorem dX9_out_170 : decode cX9_out 170 = .ok (.iload_n 1, 1) := by decide +kernel
theorem dX9_out_171 : decode cX9_out 171 = .ok (.iconst 3, 1) := by decide +kernel
theorem dX9_out_172 : decode cX9_out 172 = .ok (.iastore, 1) := by decide +kernel
theorem dX9_out_173 : decode cX9_out 173 = .ok (.iconst 0, 1) := by decide +kernel
theorem dX9_out_174 : decode cX9_out 174 = .ok (.ireturn, 1) := by decide +kernel
theorem dX9_back_0 : decode cX9_back 0 = .ok (.aload_n 0, 1) := by decide +kernel
theorem dX9_back_1 : decode cX9_back 1 = .ok (.iconst 0, 1) := by decide +kernel
theorem dX9_back_2 : decode cX9_back 2 = .ok (.putfield 97, 3) := by decide +kernel
theorem dX9_back_5 : decode cX9_back 5 = .ok (.iload_n 1, 1) := by decide +kernel
theorem dX9_back_6 : decode cX9_back 6 = .ok (.iconst 0, 1) := by decide +kernel
theorem dX9_back_7 : decode cX9_back 7 = .ok (.aload_n 0, 1) := by decide +kernel
theorem dX9_back_8 : decode cX9_back 8 = .ok (.getfield 171, 3) := by decide +kernel
theorem dX9_back_11 : decode cX9_back 11 = .ok (.iconst 1, 1) := by decide +kernel
theorem dX9_back_12 : decode cX9_back 12 = .ok (.isub, 1) := by decide +kernel
theorem dX9_back_13 : decode cX9_back 13 = .ok (.invokestatic 100, 3) := by decide +kernel
theorem dX9_back_16 : decode cX9_back 16 = .ok (.ifCond .eq 13, 3) := by decide +kernel
theorem dX9_back_19 : decode cX9_back 19 = .ok (.aload_n 0, 1) := by decide +kernel
theorem dX9_back_20 : decode cX9_back 20 = .ok (.getfield 45, 3) := by decide +kernel
theorem dX9_back_23 : decode cX9_back 23 = .ok (.iload_n 1, 1) := by decide +kernel
theorem dX9_back_24 : decode cX9_back 24 = .ok (.iaload, 1) := by decide +kernel
theorem dX9_back_25 : decode cX9_back 25 = .ok (.iconst 3, 1) := by decide +kernel
theorem dX9_back_26 : decode cX9_back 26 = .ok (.if_icmp .eq 5, 3) := by decide +kernel
theorem dX9_back_29 : decode cX9_back 29 = .ok (.iconst (-1), 1) := by decide +kernel
theorem dX9_back_30 : decode cX9_back 30 = .ok (.ireturn, 1) := by decide +kernel
theorem dX9_back_31 : decode cX9_back 31 = .ok (.aload_n 0, 1) := by decide +kernel
theorem dX9_back_32 : decode cX9_back 32 = .ok (.getfield 164, 3) := by decide +kernel
theorem dX9_back_35 : decode cX9_back 35 = .ok (.aload_n 0, 1) := by decide +kernel
theorem dX9_back_36 : decode cX9_back 36 = .ok (.getfield 66, 3) := by decide +kernel
theorem dX9_back_39 : decode cX9_back 39 = .ok (.iload_n 1, 1) := by decide +kernel
theorem dX9_back_40 : decode cX9_back 40 = .ok (.iaload, 1) := by decide +kernel
theorem dX9_back_41 : decode cX9_back 41 = .ok (.if_icmp .le 17, 3) := by decide +kernel
theorem dX9_back_44 : decode cX9_back 44 = .ok (.aload_n 0, 1) := by decide +kernel
theorem dX9_back_45 : decode cX9_back 45 = .ok (.getfield 164, 3) := by decide +kernel
theorem dX9_back_48 : decode cX9_back 48 = .ok (.aload_n 0, 1) := by decide +kernel
theorem dX9_back_49 : decode cX9_back 49 = .ok (.getfield 66, 3) := by decide +kernel
theorem dX9_back_52 : decode cX9_back 52 = .ok (.iload_n 1, 1) := by decide +kernel
theorem dX9_back_53 : decode cX9_back 53 = .ok (.iaload, 1) := by decide +kernel
theorem dX9_back_54 : decode cX9_back 54 = .ok (.isub, 1) := by decide +kernel
theorem dX9_back_55 : decode cX9_back 55 = .ok (.goto 4, 3) := by decide +kernel
theorem dX9_back_58 : decode cX9_back 58 = .ok (.iconst 0, 1) := by decide +kernel
theorem dX9_back_59 : decode cX9_back 59 = .ok (.istore_n 2, 1) := by decide +kernel
theorem dX9_back_60 : decode cX9_back 60 = .ok (.aload_n 0, 1) := by decide +kernel
theorem dX9_back_61 : decode cX9_back 61 = .ok (.getfield 66, 3) := by decide +kernel
theorem dX9_back_64 : decode cX9_back 64 = .ok (.iload_n 1, 1) := by decide +kernel
theorem dX9_back_65 : decode cX9_back 65 = .ok (.iaload, 1) := by decide +kernel
theorem dX9_back_66 : decode cX9_back 66 = .ok (.aload_n 0, 1) := by decide +kernel
theorem dX9_back_67 : decode cX9_back 67 = .ok (.getfield 63, 3) := by decide +kernel
theorem dX9_back_70 : decode cX9_back 70 = .ok (.iload_n 1, 1) := by decide +kernel
theorem dX9_back_71 : decode cX9_back 71 = .ok (.iaload, 1) := by decide +kernel
theorem dX9_back_72 : decode cX9_back 72 = .ok (.isub, 1) := by decide +kernel
theorem dX9_back_73 : decode cX9_back 73 = .ok (.iconst 1, 1) := by decide +kernel
theorem dX9_back_74 : decode cX9_back 74 = .ok (.iadd, 1) := by decide +kernel
theorem dX9_back_75 : decode cX9_back 75 = .ok (.iconst 2, 1) := by decide +kernel
theorem dX9_back_76 : decode cX9_back 76 = .ok (.iload_n 2, 1) := by decide +kernel
theorem dX9_back_77 : decode cX9_back 77 = .ok (.imul, 1) := by decide +kernel
theorem dX9_back_78 : decode cX9_back 78 = .ok (.iadd, 1) := by decide +kernel
theorem dX9_back_79 : decode cX9_back 79 = .ok (.istore_n 3, 1) := by decide +kernel
theorem dX9_back_80 : decode cX9_back 80 = .ok (.aload_n 0, 1) := by decide +kernel
theorem dX9_back_81 : decode cX9_back 81 = .ok (.getfield 25, 3) := by decide +kernel
theorem dX9_back_84 : decode cX9_back 84 = .ok (.aload_n 0, 1) := by decide +kernel
theorem dX9_back_85 : decode cX9_back 85 = .ok (.getfield 54, 3) := by decide +kernel
theorem dX9_back_88 : decode cX9_back 88 = .ok (.iload_n 1, 1) := by decide +kernel
theorem dX9_back_89 : decode cX9_back 89 = .ok (.iaload, 1) := by decide +kernel
theorem dX9_back_90 : decode cX9_back 90 = .ok (.dup2, 1) := by decide +kernel
theorem dX9_back_91 : decode cX9_back 91 = .ok (.iaload, 1) := by decide +kernel
theorem dX9_back_92 : decode cX9_back 92 = .ok (.iload_n 3, 1) := by decide +kernel
theorem dX9_back_93 : decode cX9_back 93 = .ok (.iadd, 1) := by decide +kernel
theorem dX9_back_94 : decode cX9_back 94 = .ok (.iastore, 1) := by decide +kernel
theorem dX9_back_95 : decode cX9_back 95 = .ok (.aload_n 0, 1) := by decide +kernel
theorem dX9_back_96 : decode cX9_back 96 = .ok (.getfield 28, 3) := by decide +kernel
theorem dX9_back_99 : decode cX9_back 99 = .ok (.aload_n 0, 1) := by decide +kernel
theorem dX9_back_100 : decode cX9_back 100 = .ok (.getfield 54, 3) := by decide +kernel
theorem dX9_back_103 : decode cX9_back 103 = .ok (.iload_n 1, 1) := by decide +kernel
theorem dX9_back_104 : decode cX9_back 104 = .ok (.iaload, 1) := by decide +kernel
theorem dX9_back_105 : decode cX9_back 105 = .ok (.dup2, 1) := by decide +kernel
theorem dX9_back_106 : decode cX9_back 106 = .ok (.iaload, 1) := by decide +kernel
theorem dX9_back_107 : decode cX9_back 107 = .ok (.iload_n 3, 1) := by decide +kernel
theorem dX9_back_108 : decode cX9_back 108 = .ok (.aload_n 0, 1) := by decide +kernel
theorem dX9_back_109 : decode cX9_back 109 = .ok (.getfield 16, 3) := by decide +kernel
theorem dX9_back_112 : decode cX9_back 112 = .ok (.aload_n 0, 1) := by decide +kernel
theorem dX9_back_113 : decode cX9_back 113 = .ok (.getfield 19, 3) := by decide +kernel
theorem dX9_back_116 : decode cX9_back 116 = .ok (.aload_n 0, 1) := by decide +kernel
theorem dX9_back_117 : decode cX9_back 117 = .ok (.getfield 48, 3) := by decide +kernel
theorem dX9_back_120 : decode cX9_back 120 = .ok (.iload_n 1, 1) := by decide +kernel
theorem dX9_back_121 : decode cX9_back 121 = .ok (.iaload, 1) := by decide +kernel
theorem dX9_back_122 : decode cX9_back 122 = .ok (.iaload, 1) := by decide +kernel
theorem dX9_back_123 : decode cX9_back 123 = .ok (.iaload, 1) := by decide +kernel
theorem dX9_back_124 : decode cX9_back 124 = .ok (.imul, 1) := by decide +kernel
theorem dX9_back_125 : decode cX9_back 125 = .ok (.iadd, 1) := by decide +kernel
theorem dX9_back_126 : decode cX9_back 126 = .ok (.iastore, 1) := by decide +kernel
theorem dX9_back_127 : decode cX9_back 127 = .ok (.aload_n 0, 1) := by decide +kernel
theorem dX9_back_128 : decode cX9_back 128 = .ok (.getfield 45, 3) := by decide +kernel
theorem dX9_back_131 : decode cX9_back 131 = .ok (.iload_n 1, 1) := by decide +kernel
theorem dX9_back_132 : decode cX9_back 132 = .ok (.iconst 4, 1) := by decide +kernel
theorem dX9_back_133 : decode cX9_back 133 = .ok (.iastore, 1) := by decide +kernel
theorem dX9_back_134 : decode cX9_back 134 = .ok (.aload_n 0, 1) := by decide +kernel
theorem dX9_back_135 : decode cX9_back 135 = .ok (.getfield 72, 3) := by decide +kernel
theorem dX9_back_138 : decode cX9_back 138 = .ok (.iload_n 1, 1) := by decide +kernel
theorem dX9_back_139 : decode cX9_back 139 = .ok (.aload_n 0, 1) := by decide +kernel
theorem dX9_back_140 : decode cX9_back 140 = .ok (.getfield 164, 3) := by decide +kernel
theorem dX9_back_143 : decode cX9_back 143 = .ok (.iastore, 1) := by decide +kernel
theorem dX9_back_144 : decode cX9_back 144 = .ok (.iload_n 2, 1) := by decide +kernel
theorem dX9_back_145 : decode cX9_back 145 = .ok (.ireturn, 1) := by decide +kernel
theorem dX9_work_0 : decode cX9_work 0 = .ok (.aload_n 0, 1) := by decide +kernel
theorem dX9_work_1 : decode cX9_work 1 = .ok (.iconst 0, 1) := by decide +kernel
theorem dX9_work_2 : decode cX9_work 2 = .ok (.putfield 97, 3) := by decide +kernel
theorem dX9_work_5 : decode cX9_work 5 = .ok (.aload_n 0, 1) := by decide +kernel
theorem dX9_work_6 : decode cX9_work 6 = .ok (.iload_n 1, 1) := by decide +kernel
theorem dX9_work_7 : decode cX9_work 7 = .ok (.invokevirtual 174, 3) := by decide +kernel
theorem dX9_work_10 : decode cX9_work 10 = .ok (.ifCond .eq 13, 3) := by decide +kernel
theorem dX9_work_13 : decode cX9_work 13 = .ok (.iload_n 2, 1) := by decide +kernel
theorem dX9_work_14 : decode cX9_work 14 = .ok (.iconst 1, 1) := by decide +kernel
theorem dX9_work_15 : decode cX9_work 15 = .ok (.bipush 100, 2) := by decide +kernel
theorem dX9_work_17 : decode cX9_work 17 = .ok (.invokestatic 100, 3) := by decide +kernel
theorem dX9_work_20 : decode cX9_work 20 = .ok (.ifCond .ne 5, 3) := by decide +kernel
theorem dX9_work_23 : decode cX9_work 23 = .ok (.iconst (-1), 1) := by decide +kernel
theorem dX9_work_24 : decode cX9_work 24 = .ok (.ireturn, 1) := by decide +kernel
theorem dX9_work_25 : decode cX9_work 25 = .ok (.aload_n 0, 1) := by decide +kernel
theorem dX9_work_26 : decode cX9_work 26 = .ok (.getfield 25, 3) := by decide +kernel
theorem dX9_work_29 : decode cX9_work 29 = .ok (.iload_n 1, 1) := by decide +kernel
theorem dX9_work_30 : decode cX9_work 30 = .ok (.aload_n 0, 1) := by decide +kernel
theorem dX9_work_31 : decode cX9_work 31 = .ok (.getfield 25, 3) := by decide +kernel
theorem dX9_work_34 : decode cX9_work 34 = .ok (.iload_n 1, 1) := by decide +kernel
theorem dX9_work_35 : decode cX9_work 35 = .ok (.iaload, 1) := by decide +kernel
theorem dX9_work_36 : decode cX9_work 36 = .ok (.iload_n 2, 1) := by decide +kernel
theorem dX9_work_37 : decode cX9_work 37 = .ok (.if_icmp .le 14, 3) := by decide +kernel
theorem dX9_work_40 : decode cX9_work 40 = .ok (.aload_n 0, 1) := by decide +kernel
theorem dX9_work_41 : decode cX9_work 41 = .ok (.getfield 25, 3) := by decide +kernel
theorem dX9_work_44 : decode cX9_work 44 = .ok (.iload_n 1, 1) := by decide +kernel
theorem dX9_work_45 : decode cX9_work 45 = .ok (.iaload, 1) := by decide +kernel
theorem dX9_work_46 : decode cX9_work 46 = .ok (.iload_n 2, 1) := by decide +kernel
theorem dX9_work_47 : decode cX9_work 47 = .ok (.isub, 1) := by decide +kernel
theorem dX9_work_48 : decode cX9_work 48 = .ok (.goto 4, 3) := by decide +kernel
theorem dX9_work_51 : decode cX9_work 51 = .ok (.iconst 0, 1) := by decide +kernel
theorem dX9_work_52 : decode cX9_work 52 = .ok (.iastore, 1) := by decide +kernel
theorem dX9_work_53 : decode cX9_work 53 = .ok (.aload_n 0, 1) := by decide +kernel
theorem dX9_work_54 : decode cX9_work 54 = .ok (.getfield 25, 3) := by decide +kernel
theorem dX9_work_57 : decode cX9_work 57 = .ok (.iload_n 1, 1) := by decide +kernel
theorem dX9_work_58 : decode cX9_work 58 = .ok (.iaload, 1) := by decide +kernel
theorem dX9_work_59 : decode cX9_work 59 = .ok (.ireturn, 1) := by decide +kernel
theorem dX9_isLate_0 : decode cX9_isLate 0 = .ok (.aload_n 0, 1) := by decide +kernel
theorem dX9_isLate_1 : decode cX9_isLate 1 = .ok (.iload_n 1, 1) := by decide +kernel
theorem dX9_isLate_2 : decode cX9_isLate 2 = .ok (.invokevirtual 161, 3) := by decide +kernel
theorem dX9_isLate_5 : decode cX9_isLate 5 = .ok (.istore_n 2, 1) := by decide +kernel
theorem dX9_isLate_6 : decode cX9_isLate 6 = .ok (.iload_n 2, 1) := by decide +kernel
theorem dX9_isLate_7 : decode cX9_isLate 7 = .ok (.iconst (-1), 1) := by decide +kernel
theorem dX9_isLate_8 : decode cX9_isLate 8 = .ok (.if_icmp .eq 20, 3) := by decide +kernel
theorem dX9_isLate_11 : decode cX9_isLate 11 = .ok (.aload_n 0, 1) := by decide +kernel
theorem dX9_isLate_12 : decode cX9_isLate 12 = .ok (.getfield 66, 3) := by decide +kernel
theorem dX9_isLate_15 : decode cX9_isLate 15 = .ok (.iload_n 2, 1) := by decide +kernel
theorem dX9_isLate_16 : decode cX9_isLate 16 = .ok (.iaload, 1) := by decide +kernel
theorem dX9_isLate_17 : decode cX9_isLate 17 = .ok (.aload_n 0, 1) := by decide +kernel
theorem dX9_isLate_18 : decode cX9_isLate 18 = .ok (.getfield 164, 3) := by decide +kernel
theorem dX9_isLate_21 : decode cX9_isLate 21 = .ok (.if_icmp .ge 7, 3) := by decide +kernel
theorem dX9_isLate_24 : decode cX9_isLate 24 = .ok (.iconst 1, 1) := by decide +kernel
theorem dX9_isLate_25 : decode cX9_isLate 25 = .ok (.goto 4, 3) := by decide +kernel
theorem dX9_isLate_28 : decode cX9_isLate 28 = .ok (.iconst 0, 1) := by decide +kernel
theorem dX9_isLate_29 : decode cX9_isLate 29 = .ok (.ireturn, 1) := by decide +kernel
theorem dX9_days_0 : decode cX9_days 0 = .ok (.aload_n 0, 1) := by decide +kernel
theorem dX9_days_1 : decode cX9_days 1 = .ok (.iconst 0, 1) := by decide +kernel
theorem dX9_days_2 : decode cX9_days 2 = .ok (.putfield 97, 3) := by decide +kernel
theorem dX9_days_5 : decode cX9_days 5 = .ok (.iload_n 1, 1) := by decide +kernel
theorem dX9_days_6 : decode cX9_days 6 = .ok (.iconst 1, 1) := by decide +kernel
theorem dX9_days_7 : decode cX9_days 7 = .ok (.bipush 60, 2) := by decide +kernel
theorem dX9_days_9 : decode cX9_days 9 = .ok (.invokestatic 100, 3) := by decide +kernel
theorem dX9_days_12 : decode cX9_days 12 = .ok (.ifCond .eq 15, 3) := by decide +kernel
theorem dX9_days_15 : decode cX9_days 15 = .ok (.aload_n 0, 1) := by decide +kernel
theorem dX9_days_16 : decode cX9_days 16 = .ok (.getfield 164, 3) := by decide +kernel
theorem dX9_days_19 : decode cX9_days 19 = .ok (.iload_n 1, 1) := by decide +kernel
theorem dX9_days_20 : decode cX9_days 20 = .ok (.iadd, 1) := by decide +kernel
theorem dX9_days_21 : decode cX9_days 21 = .ok (.sipush 5000, 3) := by decide +kernel
theorem dX9_days_24 : decode cX9_days 24 = .ok (.if_icmp .le 5, 3) := by decide +kernel
theorem dX9_days_27 : decode cX9_days 27 = .ok (.iconst (-1), 1) := by decide +kernel
theorem dX9_days_28 : decode cX9_days 28 = .ok (.ireturn, 1) := by decide +kernel
theorem dX9_days_29 : decode cX9_days 29 = .ok (.iconst 0, 1) := by decide +kernel
theorem dX9_days_30 : decode cX9_days 30 = .ok (.istore_n 2, 1) := by decide +kernel
theorem dX9_days_31 : decode cX9_days 31 = .ok (.iload_n 2, 1) := by decide +kernel
theorem dX9_days_32 : decode cX9_days 32 = .ok (.iload_n 1, 1) := by decide +kernel
theorem dX9_days_33 : decode cX9_days 33 = .ok (.if_icmp .ge 69, 3) := by decide +kernel
theorem dX9_days_36 : decode cX9_days 36 = .ok (.aload_n 0, 1) := by decide +kernel
theorem dX9_days_37 : decode cX9_days 37 = .ok (.dup, 1) := by decide +kernel
theorem dX9_days_38 : decode cX9_days 38 = .ok (.getfield 164, 3) := by decide +kernel
theorem dX9_days_41 : decode cX9_days 41 = .ok (.iconst 1, 1) := by decide +kernel
theorem dX9_days_42 : decode cX9_days 42 = .ok (.iadd, 1) := by decide +kernel
theorem dX9_days_43 : decode cX9_days 43 = .ok (.putfield 164, 3) := by decide +kernel
theorem dX9_days_46 : decode cX9_days 46 = .ok (.iconst 0, 1) := by decide +kernel
theorem dX9_days_47 : decode cX9_days 47 = .ok (.istore_n 3, 1) := by decide +kernel
theorem dX9_days_48 : decode cX9_days 48 = .ok (.iload_n 3, 1) := by decide +kernel
theorem dX9_days_49 : decode cX9_days 49 = .ok (.aload_n 0, 1) := by decide +kernel
theorem dX9_days_50 : decode cX9_days 50 = .ok (.getfield 171, 3) := by decide +kernel
theorem dX9_days_53 : decode cX9_days 53 = .ok (.if_icmp .ge 39, 3) := by decide +kernel
theorem dX9_days_56 : decode cX9_days 56 = .ok (.aload_n 0, 1) := by decide +kernel
theorem dX9_days_57 : decode cX9_days 57 = .ok (.getfield 45, 3) := by decide +kernel
theorem dX9_days_60 : decode cX9_days 60 = .ok (.iload_n 3, 1) := by decide +kernel
theorem dX9_days_61 : decode cX9_days 61 = .ok (.iaload, 1) := by decide +kernel
theorem dX9_days_62 : decode cX9_days 62 = .ok (.iconst 1, 1) := by decide +kernel
theorem dX9_days_63 : decode cX9_days 63 = .ok (.if_icmp .ne 23, 3) := by decide +kernel
theorem dX9_days_66 : decode cX9_days 66 = .ok (.aload_n 0, 1) := by decide +kernel
theorem dX9_days_67 : decode cX9_days 67 = .ok (.getfield 66, 3) := by decide +kernel
theorem dX9_days_70 : decode cX9_days 70 = .ok (.iload_n 3, 1) := by decide +kernel
theorem dX9_days_71 : decode cX9_days 71 = .ok (.iaload, 1) := by decide +kernel
theorem dX9_days_72 : decode cX9_days 72 = .ok (.aload_n 0, 1) := by decide +kernel
theorem dX9_days_73 : decode cX9_days 73 = .ok (.getfield 164, 3) := by decide +kernel
theorem dX9_days_76 : decode cX9_days 76 = .ok (.if_icmp .ge 10, 3) := by decide +kernel
theorem dX9_days_79 : decode cX9_days 79 = .ok (.aload_n 0, 1) := by decide +kernel
theorem dX9_days_80 : decode cX9_days 80 = .ok (.getfield 45, 3) := by decide +kernel
theorem dX9_days_83 : decode cX9_days 83 = .ok (.iload_n 3, 1) := by decide +kernel
theorem dX9_days_84 : decode cX9_days 84 = .ok (.iconst 5, 1) := by decide +kernel
theorem dX9_days_85 : decode cX9_days 85 = .ok (.iastore, 1) := by decide +kernel
theorem dX9_days_86 : decode cX9_days 86 = .ok (.iinc 3 1, 3) := by decide +kernel
theorem dX9_days_89 : decode cX9_days 89 = .ok (.goto (-41), 3) := by decide +kernel
theorem dX9_days_92 : decode cX9_days 92 = .ok (.aload_n 0, 1) := by decide +kernel
theorem dX9_days_93 : decode cX9_days 93 = .ok (.invokevirtual 211, 3) := by decide +kernel
theorem dX9_days_96 : decode cX9_days 96 = .ok (.iinc 2 1, 3) := by decide +kernel
theorem dX9_days_99 : decode cX9_days 99 = .ok (.goto (-68), 3) := by decide +kernel
theorem dX9_days_102 : decode cX9_days 102 = .ok (.aload_n 0, 1) := by decide +kernel
theorem dX9_days_103 : decode cX9_days 103 = .ok (.getfield 164, 3) := by decide +kernel
theorem dX9_days_106 : decode cX9_days 106 = .ok (.ireturn, 1) := by decide +kernel
theorem dX9_moves_0 : decode cX9_moves 0 = .ok (.iconst 0, 1) := by decide +kernel
theorem dX9_moves_1 : decode cX9_moves 1 = .ok (.istore_n 1, 1) := by decide +kernel
theorem dX9_moves_2 : decode cX9_moves 2 = .ok (.iload_n 1, 1) := by decide +kernel
theorem dX9_moves_3 : decode cX9_moves 3 = .ok (.aload_n 0, 1) := by decide +kernel
theorem dX9_moves_4 : decode cX9_moves 4 = .ok (.getfield 171, 3) := by decide +kernel
theorem dX9_moves_7 : decode cX9_moves 7 = .ok (.if_icmp .ge 43, 3) := by decide +kernel
theorem dX9_moves_10 : decode cX9_moves 10 = .ok (.aload_n 0, 1) := by decide +kernel
theorem dX9_moves_11 : decode cX9_moves 11 = .ok (.getfield 88, 3) := by decide +kernel
theorem dX9_moves_14 : decode cX9_moves 14 = .ok (.iload_n 1, 1) := by decide +kernel
theorem dX9_moves_15 : decode cX9_moves 15 = .ok (.aload_n 0, 1) := by decide +kernel
theorem dX9_moves_16 : decode cX9_moves 16 = .ok (.getfield 45, 3) := by decide +kernel
theorem dX9_moves_19 : decode cX9_moves 19 = .ok (.iload_n 1, 1) := by decide +kernel
theorem dX9_moves_20 : decode cX9_moves 20 = .ok (.iaload, 1) := by decide +kernel
theorem dX9_moves_21 : decode cX9_moves 21 = .ok (.iconst 1, 1) := by decide +kernel
theorem dX9_moves_22 : decode cX9_moves 22 = .ok (.if_icmp .ne 16, 3) := by decide +kernel
theorem dX9_moves_25 : decode cX9_moves 25 = .ok (.aload_n 0, 1) := by decide +kernel
theorem dX9_moves_26 : decode cX9_moves 26 = .ok (.aload_n 0, 1) := by decide +kernel
theorem dX9_moves_27 : decode cX9_moves 27 = .ok (.getfield 48, 3) := by decide +kernel
theorem dX9_moves_30 : decode cX9_moves 30 = .ok (.iload_n 1, 1) := by decide +kernel
theorem dX9_moves_31 : decode cX9_moves 31 = .ok (.iaload, 1) := by decide +kernel
theorem dX9_moves_32 : decode cX9_moves 32 = .ok (.invokevirtual 214, 3) := by decide +kernel
theorem dX9_moves_35 : decode cX9_moves 35 = .ok (.ifCond .ne 7, 3) := by decide +kernel
theorem dX9_moves_38 : decode cX9_moves 38 = .ok (.iconst 1, 1) := by decide +kernel
theorem dX9_moves_39 : decode cX9_moves 39 = .ok (.goto 4, 3) := by decide +kernel
theorem dX9_moves_42 : decode cX9_moves 42 = .ok (.iconst 0, 1) := by decide +kernel
theorem dX9_moves_43 : decode cX9_moves 43 = .ok (.bastore, 1) := by decide +kernel
theorem dX9_moves_44 : decode cX9_moves 44 = .ok (.iinc 1 1, 3) := by decide +kernel
theorem dX9_moves_47 : decode cX9_moves 47 = .ok (.goto (-45), 3) := by decide +kernel
theorem dX9_moves_50 : decode cX9_moves 50 = .ok (.iconst (-1), 1) := by decide +kernel
theorem dX9_moves_51 : decode cX9_moves 51 = .ok (.istore_n 1, 1) := by decide +kernel
theorem dX9_moves_52 : decode cX9_moves 52 = .ok (.iconst (-1), 1) := by decide +kernel
theorem dX9_moves_53 : decode cX9_moves 53 = .ok (.istore_n 1, 1) := by decide +kernel
theorem dX9_moves_54 : decode cX9_moves 54 = .ok (.iconst 0, 1) := by decide +kernel
theorem dX9_moves_55 : decode cX9_moves 55 = .ok (.istore_n 2, 1) := by decide +kernel
theorem dX9_moves_56 : decode cX9_moves 56 = .ok (.iload_n 2, 1) := by decide +kernel
theorem dX9_moves_57 : decode cX9_moves 57 = .ok (.aload_n 0, 1) := by decide +kernel
theorem dX9_moves_58 : decode cX9_moves 58 = .ok (.getfield 171, 3) := by decide +kernel
theorem dX9_moves_61 : decode cX9_moves 61 = .ok (.if_icmp .ge 34, 3) := by decide +kernel
theorem dX9_moves_64 : decode cX9_moves 64 = .ok (.aload_n 0, 1) := by decide +kernel
theorem dX9_moves_65 : decode cX9_moves 65 = .ok (.getfield 88, 3) := by decide +kernel
theorem dX9_moves_68 : decode cX9_moves 68 = .ok (.iload_n 2, 1) := by decide +kernel
theorem dX9_moves_69 : decode cX9_moves 69 = .ok (.baload, 1) := by decide +kernel
theorem dX9_moves_70 : decode cX9_moves 70 = .ok (.ifCond .ne 19, 3) := by decide +kernel
theorem dX9_moves_73 : decode cX9_moves 73 = .ok (.iload_n 1, 1) := by decide +kernel
theorem dX9_moves_74 : decode cX9_moves 74 = .ok (.iconst (-1), 1) := by decide +kernel
theorem dX9_moves_75 : decode cX9_moves 75 = .ok (.if_icmp .eq 12, 3) := by decide +kernel
theorem dX9_moves_78 : decode cX9_moves 78 = .ok (.aload_n 0, 1) := by decide +kernel
theorem dX9_moves_79 : decode cX9_moves 79 = .ok (.iload_n 2, 1) := by decide +kernel
theorem dX9_moves_80 : decode cX9_moves 80 = .ok (.iload_n 1, 1) := by decide +kernel
theorem dX9_moves_81 : decode cX9_moves 81 = .ok (.invokevirtual 217, 3) := by decide +kernel
theorem dX9_moves_84 : decode cX9_moves 84 = .ok (.ifCond .eq 5, 3) := by decide +kernel
theorem dX9_moves_87 : decode cX9_moves 87 = .ok (.iload_n 2, 1) := by decide +kernel
theorem dX9_moves_88 : decode cX9_moves 88 = .ok (.istore_n 1, 1) := by decide +kernel
theorem dX9_moves_89 : decode cX9_moves 89 = .ok (.iinc 2 1, 3) := by decide +kernel
theorem dX9_moves_92 : decode cX9_moves 92 = .ok (.goto (-36), 3) := by decide +kernel
theorem dX9_moves_95 : decode cX9_moves 95 = .ok (.iload_n 1, 1) := by decide +kernel
theorem dX9_moves_96 : decode cX9_moves 96 = .ok (.iconst (-1), 1) := by decide +kernel
theorem dX9_moves_97 : decode cX9_moves 97 = .ok (.if_icmp .ne 6, 3) := by decide +kernel
theorem dX9_moves_100 : decode cX9_moves 100 = .ok (.goto 41, 3) := by decide +kernel
theorem dX9_moves_103 : decode cX9_moves 103 = .ok (.aload_n 0, 1) := by decide +kernel
theorem dX9_moves_104 : decode cX9_moves 104 = .ok (.getfield 88, 3) := by decide +kernel
theorem dX9_moves_107 : decode cX9_moves 107 = .ok (.iload_n 1, 1) := by decide +kernel
theorem dX9_moves_108 : decode cX9_moves 108 = .ok (.iconst 1, 1) := by decide +kernel
theorem dX9_moves_109 : decode cX9_moves 109 = .ok (.bastore, 1) := by decide +kernel
theorem dX9_moves_110 : decode cX9_moves 110 = .ok (.aload_n 0, 1) := by decide +kernel
theorem dX9_moves_111 : decode cX9_moves 111 = .ok (.aload_n 0, 1) := by decide +kernel
theorem dX9_moves_112 : decode cX9_moves 112 = .ok (.getfield 48, 3) := by decide +kernel
theorem dX9_moves_115 : decode cX9_moves 115 = .ok (.iload_n 1, 1) := by decide +kernel
theorem dX9_moves_116 : decode cX9_moves 116 = .ok (.iaload, 1) := by decide +kernel
theorem dX9_moves_117 : decode cX9_moves 117 = .ok (.aload_n 0, 1) := by decide +kernel
theorem dX9_moves_118 : decode cX9_moves 118 = .ok (.getfield 63, 3) := by decide +kernel
theorem dX9_moves_121 : decode cX9_moves 121 = .ok (.iload_n 1, 1) := by decide +kernel
theorem dX9_moves_122 : decode cX9_moves 122 = .ok (.iaload, 1) := by decide +kernel
theorem dX9_moves_123 : decode cX9_moves 123 = .ok (.aload_n 0, 1) := by decide +kernel
theorem dX9_moves_124 : decode cX9_moves 124 = .ok (.getfield 66, 3) := by decide +kernel
theorem dX9_moves_127 : decode cX9_moves 127 = .ok (.iload_n 1, 1) := by decide +kernel
theorem dX9_moves_128 : decode cX9_moves 128 = .ok (.iaload, 1) := by decide +kernel
theorem dX9_moves_129 : decode cX9_moves 129 = .ok (.iload_n 1, 1) := by decide +kernel
theorem dX9_moves_130 : decode cX9_moves 130 = .ok (.invokevirtual 207, 3) := by decide +kernel
theorem dX9_moves_133 : decode cX9_moves 133 = .ok (.ifCond .ne 8, 3) := by decide +kernel
theorem dX9_moves_136 : decode cX9_moves 136 = .ok (.aload_n 0, 1) := by decide +kernel
theorem dX9_moves_137 : decode cX9_moves 137 = .ok (.iload_n 1, 1) := by decide +kernel
theorem dX9_moves_138 : decode cX9_moves 138 = .ok (.invokevirtual 220, 3) := by decide +kernel
theorem dX9_moves_141 : decode cX9_moves 141 = .ok (.iload_n 1, 1) := by decide +kernel
theorem dX9_moves_142 : decode cX9_moves 142 = .ok (.iconst (-1), 1) := by decide +kernel
theorem dX9_moves_143 : decode cX9_moves 143 = .ok (.if_icmp .ne (-91), 3) := by decide +kernel
theorem dX9_moves_146 : decode cX9_moves 146 = .ok (.return_, 1) := by decide +kernel
theorem dX9_isAhead_0 : decode cX9_isAhead 0 = .ok (.aload_n 0, 1) := by decide +kernel
theorem dX9_isAhead_1 : decode cX9_isAhead 1 = .ok (.getfield 69, 3) := by decide +kernel
theorem dX9_isAhead_4 : decode cX9_isAhead 4 = .ok (.iload_n 1, 1) := by decide +kernel
theorem dX9_isAhead_5 : decode cX9_isAhead 5 = .ok (.iaload, 1) := by decide +kernel
theorem dX9_isAhead_6 : decode cX9_isAhead 6 = .ok (.aload_n 0, 1) := by decide +kernel
theorem dX9_isAhead_7 : decode cX9_isAhead 7 = .ok (.getfield 69, 3) := by decide +kernel
theorem dX9_isAhead_10 : decode cX9_isAhead 10 = .ok (.iload_n 2, 1) := by decide +kernel
theorem dX9_isAhead_11 : decode cX9_isAhead 11 = .ok (.iaload, 1) := by decide +kernel
theorem dX9_isAhead_12 : decode cX9_isAhead 12 = .ok (.if_icmp .eq 26, 3) := by decide +kernel
theorem dX9_isAhead_15 : decode cX9_isAhead 15 = .ok (.aload_n 0, 1) := by decide +kernel
theorem dX9_isAhead_16 : decode cX9_isAhead 16 = .ok (.getfield 69, 3) := by decide +kernel
theorem dX9_isAhead_19 : decode cX9_isAhead 19 = .ok (.iload_n 1, 1) := by decide +kernel
theorem dX9_isAhead_20 : decode cX9_isAhead 20 = .ok (.iaload, 1) := by decide +kernel
theorem dX9_isAhead_21 : decode cX9_isAhead 21 = .ok (.aload_n 0, 1) := by decide +kernel
theorem dX9_isAhead_22 : decode cX9_isAhead 22 = .ok (.getfield 69, 3) := by decide +kernel
theorem dX9_isAhead_25 : decode cX9_isAhead 25 = .ok (.iload_n 2, 1) := by decide +kernel
theorem dX9_isAhead_26 : decode cX9_isAhead 26 = .ok (.iaload, 1) := by decide +kernel
theorem dX9_isAhead_27 : decode cX9_isAhead 27 = .ok (.if_icmp .le 7, 3) := by decide +kernel
theorem dX9_isAhead_30 : decode cX9_isAhead 30 = .ok (.iconst 1, 1) := by decide +kernel
theorem dX9_isAhead_31 : decode cX9_isAhead 31 = .ok (.goto 27, 3) := by decide +kernel
theorem dX9_isAhead_34 : decode cX9_isAhead 34 = .ok (.iconst 0, 1) := by decide +kernel
theorem dX9_isAhead_35 : decode cX9_isAhead 35 = .ok (.goto 23, 3) := by decide +kernel
theorem dX9_isAhead_38 : decode cX9_isAhead 38 = .ok (.aload_n 0, 1) := by decide +kernel
theorem dX9_isAhead_39 : decode cX9_isAhead 39 = .ok (.getfield 63, 3) := by decide +kernel
theorem dX9_isAhead_42 : decode cX9_isAhead 42 = .ok (.iload_n 1, 1) := by decide +kernel
theorem dX9_isAhead_43 : decode cX9_isAhead 43 = .ok (.iaload, 1) := by decide +kernel
theorem dX9_isAhead_44 : decode cX9_isAhead 44 = .ok (.aload_n 0, 1) := by decide +kernel
theorem dX9_isAhead_45 : decode cX9_isAhead 45 = .ok (.getfield 63, 3) := by decide +kernel
theorem dX9_isAhead_48 : decode cX9_isAhead 48 = .ok (.iload_n 2, 1) := by decide +kernel
theorem dX9_isAhead_49 : decode cX9_isAhead 49 = .ok (.iaload, 1) := by decide +kernel
theorem dX9_isAhead_50 : decode cX9_isAhead 50 = .ok (.if_icmp .ge 7, 3) := by decide +kernel
theorem dX9_isAhead_53 : decode cX9_isAhead 53 = .ok (.iconst 1, 1) := by decide +kernel
theorem dX9_isAhead_54 : decode cX9_isAhead 54 = .ok (.goto 4, 3) := by decide +kernel
theorem dX9_isAhead_57 : decode cX9_isAhead 57 = .ok (.iconst 0, 1) := by decide +kernel
theorem dX9_isAhead_58 : decode cX9_isAhead 58 = .ok (.ireturn, 1) := by decide +kernel
theorem dX9_moves__0 : decode cX9_moves_ 0 = .ok (.iconst 0, 1) := by decide +kernel
theorem dX9_moves__1 : decode cX9_moves_ 1 = .ok (.istore_n 2, 1) := by decide +kernel
theorem dX9_moves__2 : decode cX9_moves_ 2 = .ok (.iload_n 2, 1) := by decide +kernel
theorem dX9_moves__3 : decode cX9_moves_ 3 = .ok (.aload_n 0, 1) := by decide +kernel
theorem dX9_moves__4 : decode cX9_moves_ 4 = .ok (.getfield 107, 3) := by decide +kernel
theorem dX9_moves__7 : decode cX9_moves_ 7 = .ok (.if_icmp .ge 83, 3) := by decide +kernel
theorem dX9_moves__10 : decode cX9_moves_ 10 = .ok (.iload_n 2, 1) := by decide +kernel
theorem dX9_moves__11 : decode cX9_moves_ 11 = .ok (.aload_n 0, 1) := by decide +kernel
theorem dX9_moves__12 : decode cX9_moves_ 12 = .ok (.getfield 48, 3) := by decide +kernel
theorem dX9_moves__15 : decode cX9_moves_ 15 = .ok (.iload_n 1, 1) := by decide +kernel
theorem dX9_moves__16 : decode cX9_moves_ 16 = .ok (.iaload, 1) := by decide +kernel
theorem dX9_moves__17 : decode cX9_moves_ 17 = .ok (.if_icmp .eq 67, 3) := by decide +kernel
theorem dX9_moves__20 : decode cX9_moves_ 20 = .ok (.aload_n 0, 1) := by decide +kernel
theorem dX9_moves__21 : decode cX9_moves_ 21 = .ok (.iload_n 2, 1) := by decide +kernel
theorem dX9_moves__22 : decode cX9_moves_ 22 = .ok (.invokevirtual 214, 3) := by decide +kernel
theorem dX9_moves__25 : decode cX9_moves_ 25 = .ok (.ifCond .ne 59, 3) := by decide +kernel
theorem dX9_moves__28 : decode cX9_moves_ 28 = .ok (.aload_n 0, 1) := by decide +kernel
theorem dX9_moves__29 : decode cX9_moves_ 29 = .ok (.aload_n 0, 1) := by decide +kernel
theorem dX9_moves__30 : decode cX9_moves_ 30 = .ok (.getfield 19, 3) := by decide +kernel
theorem dX9_moves__33 : decode cX9_moves_ 33 = .ok (.iload_n 2, 1) := by decide +kernel
theorem dX9_moves__34 : decode cX9_moves_ 34 = .ok (.iaload, 1) := by decide +kernel
theorem dX9_moves__35 : decode cX9_moves_ 35 = .ok (.iload_n 1, 1) := by decide +kernel
theorem dX9_moves__36 : decode cX9_moves_ 36 = .ok (.invokevirtual 204, 3) := by decide +kernel
theorem dX9_moves__39 : decode cX9_moves_ 39 = .ok (.ifCond .eq 45, 3) := by decide +kernel
theorem dX9_moves__42 : decode cX9_moves_ 42 = .ok (.aload_n 0, 1) := by decide +kernel
theorem dX9_moves__43 : decode cX9_moves_ 43 = .ok (.iload_n 2, 1) := by decide +kernel
theorem dX9_moves__44 : decode cX9_moves_ 44 = .ok (.aload_n 0, 1) := by decide +kernel
theorem dX9_moves__45 : decode cX9_moves_ 45 = .ok (.getfield 63, 3) := by decide +kernel
theorem dX9_moves__48 : decode cX9_moves_ 48 = .ok (.iload_n 1, 1) := by decide +kernel
theorem dX9_moves__49 : decode cX9_moves_ 49 = .ok (.iaload, 1) := by decide +kernel
theorem dX9_moves__50 : decode cX9_moves_ 50 = .ok (.aload_n 0, 1) := by decide +kernel
theorem dX9_moves__51 : decode cX9_moves_ 51 = .ok (.getfield 66, 3) := by decide +kernel
theorem dX9_moves__54 : decode cX9_moves_ 54 = .ok (.iload_n 1, 1) := by decide +kernel
theorem dX9_moves__55 : decode cX9_moves_ 55 = .ok (.iaload, 1) := by decide +kernel
theorem dX9_moves__56 : decode cX9_moves_ 56 = .ok (.iload_n 1, 1) := by decide +kernel
theorem dX9_moves__57 : decode cX9_moves_ 57 = .ok (.invokevirtual 207, 3) := by decide +kernel
theorem dX9_moves__60 : decode cX9_moves_ 60 = .ok (.ifCond .ne 6, 3) := by decide +kernel
theorem dX9_moves__63 : decode cX9_moves_ 63 = .ok (.goto 21, 3) := by decide +kernel
theorem dX9_moves__66 : decode cX9_moves_ 66 = .ok (.aload_n 0, 1) := by decide +kernel
theorem dX9_moves__67 : decode cX9_moves_ 67 = .ok (.getfield 48, 3) := by decide +kernel
theorem dX9_moves__70 : decode cX9_moves_ 70 = .ok (.iload_n 1, 1) := by decide +kernel
theorem dX9_moves__71 : decode cX9_moves_ 71 = .ok (.iload_n 2, 1) := by decide +kernel
theorem dX9_moves__72 : decode cX9_moves_ 72 = .ok (.iastore, 1) := by decide +kernel
theorem dX9_moves__73 : decode cX9_moves_ 73 = .ok (.aload_n 0, 1) := by decide +kernel
theorem dX9_moves__74 : decode cX9_moves_ 74 = .ok (.getfield 51, 3) := by decide +kernel
theorem dX9_moves__77 : decode cX9_moves_ 77 = .ok (.iload_n 1, 1) := by decide +kernel
theorem dX9_moves__78 : decode cX9_moves_ 78 = .ok (.dup2, 1) := by decide +kernel
theorem dX9_moves__79 : decode cX9_moves_ 79 = .ok (.iaload, 1) := by decide +kernel
theorem dX9_moves__80 : decode cX9_moves_ 80 = .ok (.iconst 1, 1) := by decide +kernel
theorem dX9_moves__81 : decode cX9_moves_ 81 = .ok (.iadd, 1) := by decide +kernel
theorem dX9_moves__82 : decode cX9_moves_ 82 = .ok (.iastore, 1) := by decide +kernel
theorem dX9_moves__83 : decode cX9_moves_ 83 = .ok (.return_, 1) := by decide +kernel
theorem dX9_moves__84 : decode cX9_moves_ 84 = .ok (.iinc 2 1, 3) := by decide +kernel
theorem dX9_moves__87 : decode cX9_moves_ 87 = .ok (.goto (-85), 3) := by decide +kernel
theorem dX9_moves__90 : decode cX9_moves_ 90 = .ok (.aload_n 0, 1) := by decide +kernel
theorem dX9_moves__91 : decode cX9_moves_ 91 = .ok (.getfield 45, 3) := by decide +kernel
theorem dX9_moves__94 : decode cX9_moves_ 94 = .ok (.iload_n 1, 1) := by decide +kernel
theorem dX9_moves__95 : decode cX9_moves_ 95 = .ok (.iconst 5, 1) := by decide +kernel
theorem dX9_moves__96 : decode cX9_moves_ 96 = .ok (.iastore, 1) := by decide +kernel
theorem dX9_moves__97 : decode cX9_moves_ 97 = .ok (.return_, 1) := by decide +kernel
theorem dX9_buy_0 : decode cX9_buy 0 = .ok (.aload_n 0, 1) := by decide +kernel
theorem dX9_buy_1 : decode cX9_buy 1 = .ok (.iconst 0, 1) := by decide +kernel
theorem dX9_buy_2 : decode cX9_buy 2 = .ok (.putfield 97, 3) := by decide +kernel
theorem dX9_buy_5 : decode cX9_buy 5 = .ok (.aload_n 0, 1) := by decide +kernel
theorem dX9_buy_6 : decode cX9_buy 6 = .ok (.iload_n 1, 1) := by decide +kernel
theorem dX9_buy_7 : decode cX9_buy 7 = .ok (.invokevirtual 113, 3) := by decide +kernel
theorem dX9_buy_10 : decode cX9_buy 10 = .ok (.ifCond .ne 5, 3) := by decide +kernel
theorem dX9_buy_13 : decode cX9_buy 13 = .ok (.iconst (-1), 1) := by decide +kernel
theorem dX9_buy_14 : decode cX9_buy 14 = .ok (.ireturn, 1) := by decide +kernel
theorem dX9_buy_15 : decode cX9_buy 15 = .ok (.iconst 0, 1) := by decide +kernel
theorem dX9_buy_16 : decode cX9_buy 16 = .ok (.istore_n 2, 1) := by decide +kernel
theorem dX9_buy_17 : decode cX9_buy 17 = .ok (.iconst 0, 1) := by decide +kernel
theorem dX9_buy_18 : decode cX9_buy 18 = .ok (.istore_n 3, 1) := by decide +kernel
theorem dX9_buy_19 : decode cX9_buy 19 = .ok (.iload_n 3, 1) := by decide +kernel
theorem dX9_buy_20 : decode cX9_buy 20 = .ok (.aload_n 0, 1) := by decide +kernel
theorem dX9_buy_21 : decode cX9_buy 21 = .ok (.getfield 171, 3) := by decide +kernel
theorem dX9_buy_24 : decode cX9_buy 24 = .ok (.if_icmp .ge 95, 3) := by decide +kernel
theorem dX9_buy_27 : decode cX9_buy 27 = .ok (.aload_n 0, 1) := by decide +kernel
theorem dX9_buy_28 : decode cX9_buy 28 = .ok (.getfield 45, 3) := by decide +kernel
theorem dX9_buy_31 : decode cX9_buy 31 = .ok (.iload_n 3, 1) := by decide +kernel
theorem dX9_buy_32 : decode cX9_buy 32 = .ok (.iaload, 1) := by decide +kernel
theorem dX9_buy_33 : decode cX9_buy 33 = .ok (.iconst 2, 1) := by decide +kernel
theorem dX9_buy_34 : decode cX9_buy 34 = .ok (.if_icmp .ne 79, 3) := by decide +kernel
theorem dX9_buy_37 : decode cX9_buy 37 = .ok (.aload_n 0, 1) := by decide +kernel
theorem dX9_buy_38 : decode cX9_buy 38 = .ok (.iload_n 1, 1) := by decide +kernel
theorem dX9_buy_39 : decode cX9_buy 39 = .ok (.iload_n 3, 1) := by decide +kernel
theorem dX9_buy_40 : decode cX9_buy 40 = .ok (.invokevirtual 204, 3) := by decide +kernel
theorem dX9_buy_43 : decode cX9_buy 43 = .ok (.ifCond .ne 6, 3) := by decide +kernel
theorem dX9_buy_46 : decode cX9_buy 46 = .ok (.goto 67, 3) := by decide +kernel
theorem dX9_buy_49 : decode cX9_buy 49 = .ok (.iload_n 2, 1) := by decide +kernel
theorem dX9_buy_50 : decode cX9_buy 50 = .ok (.istore 4, 2) := by decide +kernel
theorem dX9_buy_52 : decode cX9_buy 52 = .ok (.iload 4, 2) := by decide +kernel
theorem dX9_buy_54 : decode cX9_buy 54 = .ok (.ifCond .le 48, 3) := by decide +kernel
theorem dX9_buy_57 : decode cX9_buy 57 = .ok (.aload_n 0, 1) := by decide +kernel
theorem dX9_buy_58 : decode cX9_buy 58 = .ok (.getfield 66, 3) := by decide +kernel
theorem dX9_buy_61 : decode cX9_buy 61 = .ok (.aload_n 0, 1) := by decide +kernel
theorem dX9_buy_62 : decode cX9_buy 62 = .ok (.getfield 91, 3) := by decide +kernel
theorem dX9_buy_65 : decode cX9_buy 65 = .ok (.iload 4, 2) := by decide +kernel
theorem dX9_buy_67 : decode cX9_buy 67 = .ok (.iconst 1, 1) := by decide +kernel
theorem dX9_buy_68 : decode cX9_buy 68 = .ok (.isub, 1) := by decide +kernel
theorem dX9_buy_69 : decode cX9_buy 69 = .ok (.iaload, 1) := by decide +kernel
theorem dX9_buy_70 : decode cX9_buy 70 = .ok (.iaload, 1) := by decide +kernel
theorem dX9_buy_71 : decode cX9_buy 71 = .ok (.aload_n 0, 1) := by decide +kernel
theorem dX9_buy_72 : decode cX9_buy 72 = .ok (.getfield 66, 3) := by decide +kernel
theorem dX9_buy_75 : decode cX9_buy 75 = .ok (.iload_n 3, 1) := by decide +kernel
theorem dX9_buy_76 : decode cX9_buy 76 = .ok (.iaload, 1) := by decide +kernel
theorem dX9_buy_77 : decode cX9_buy 77 = .ok (.if_icmp .le 25, 3) := by decide +kernel
theorem dX9_buy_80 : decode cX9_buy 80 = .ok (.aload_n 0, 1) := by decide +kernel
theorem dX9_buy_81 : decode cX9_buy 81 = .ok (.getfield 91, 3) := by decide +kernel
theorem dX9_buy_84 : decode cX9_buy 84 = .ok (.iload 4, 2) := by decide +kernel
theorem dX9_buy_86 : decode cX9_buy 86 = .ok (.aload_n 0, 1) := by decide +kernel
theorem dX9_buy_87 : decode cX9_buy 87 = .ok (.getfield 91, 3) := by decide +kernel
theorem dX9_buy_90 : decode cX9_buy 90 = .ok (.iload 4, 2) := by decide +kernel
theorem dX9_buy_92 : decode cX9_buy 92 = .ok (.iconst 1, 1) := by decide +kernel
theorem dX9_buy_93 : decode cX9_buy 93 = .ok (.isub, 1) := by decide +kernel
theorem dX9_buy_94 : decode cX9_buy 94 = .ok (.iaload, 1) := by decide +kernel
theorem dX9_buy_95 : decode cX9_buy 95 = .ok (.iastore, 1) := by decide +kernel
theorem dX9_buy_96 : decode cX9_buy 96 = .ok (.iinc 4 (-1), 3) := by decide +kernel
theorem dX9_buy_99 : decode cX9_buy 99 = .ok (.goto (-47), 3) := by decide +kernel
theorem dX9_buy_102 : decode cX9_buy 102 = .ok (.aload_n 0, 1) := by decide +kernel
theorem dX9_buy_103 : decode cX9_buy 103 = .ok (.getfield 91, 3) := by decide +kernel
theorem dX9_buy_106 : decode cX9_buy 106 = .ok (.iload 4, 2) := by decide +kernel
theorem dX9_buy_108 : decode cX9_buy 108 = .ok (.iload_n 3, 1) := by decide +kernel
theorem dX9_buy_109 : decode cX9_buy 109 = .ok (.iastore, 1) := by decide +kernel
theorem dX9_buy_110 : decode cX9_buy 110 = .ok (.iinc 2 1, 3) := by decide +kernel
theorem dX9_buy_113 : decode cX9_buy 113 = .ok (.iinc 3 1, 3) := by decide +kernel
theorem dX9_buy_116 : decode cX9_buy 116 = .ok (.goto (-97), 3) := by decide +kernel
theorem dX9_buy_119 : decode cX9_buy 119 = .ok (.iconst 0, 1) := by decide +kernel
theorem dX9_buy_120 : decode cX9_buy 120 = .ok (.istore_n 3, 1) := by decide +kernel
theorem dX9_buy_121 : decode cX9_buy 121 = .ok (.iconst 0, 1) := by decide +kernel
theorem dX9_buy_122 : decode cX9_buy 122 = .ok (.istore 4, 2) := by decide +kernel
theorem dX9_buy_124 : decode cX9_buy 124 = .ok (.iload 4, 2) := by decide +kernel
theorem dX9_buy_126 : decode cX9_buy 126 = .ok (.iload_n 2, 1) := by decide +kernel
theorem dX9_buy_127 : decode cX9_buy 127 = .ok (.if_icmp .ge 125, 3) := by decide +kernel
theorem dX9_buy_130 : decode cX9_buy 130 = .ok (.aload_n 0, 1) := by decide +kernel
theorem dX9_buy_131 : decode cX9_buy 131 = .ok (.getfield 94, 3) := by decide +kernel
theorem dX9_buy_134 : decode cX9_buy 134 = .ok (.iload 4, 2) := by decide +kernel
theorem dX9_buy_136 : decode cX9_buy 136 = .ok (.iconst 1, 1) := by decide +kernel
theorem dX9_buy_137 : decode cX9_buy 137 = .ok (.iastore, 1) := by decide +kernel
theorem dX9_buy_138 : decode cX9_buy 138 = .ok (.iconst 0, 1) := by decide +kernel
theorem dX9_buy_139 : decode cX9_buy 139 = .ok (.istore 5, 2) := by decide +kernel
theorem dX9_buy_141 : decode cX9_buy 141 = .ok (.iload 5, 2) := by decide +kernel
theorem dX9_buy_143 : decode cX9_buy 143 = .ok (.iload 4, 2) := by decide +kernel
theorem dX9_buy_145 : decode cX9_buy 145 = .ok (.if_icmp .ge 78, 3) := by decide +kernel
theorem dX9_buy_148 : decode cX9_buy 148 = .ok (.aload_n 0, 1) := by decide +kernel
theorem dX9_buy_149 : decode cX9_buy 149 = .ok (.getfield 63, 3) := by decide +kernel
theorem dX9_buy_152 : decode cX9_buy 152 = .ok (.aload_n 0, 1) := by decide +kernel
theorem dX9_buy_153 : decode cX9_buy 153 = .ok (.getfield 91, 3) := by decide +kernel
theorem dX9_buy_156 : decode cX9_buy 156 = .ok (.iload 4, 2) := by decide +kernel
theorem dX9_buy_158 : decode cX9_buy 158 = .ok (.iaload, 1) := by decide +kernel
theorem dX9_buy_159 : decode cX9_buy 159 = .ok (.iaload, 1) := by decide +kernel
theorem dX9_buy_160 : decode cX9_buy 160 = .ok (.aload_n 0, 1) := by decide +kernel
theorem dX9_buy_161 : decode cX9_buy 161 = .ok (.getfield 66, 3) := by decide +kernel
theorem dX9_buy_164 : decode cX9_buy 164 = .ok (.aload_n 0, 1) := by decide +kernel
theorem dX9_buy_165 : decode cX9_buy 165 = .ok (.getfield 91, 3) := by decide +kernel
theorem dX9_buy_168 : decode cX9_buy 168 = .ok (.iload 5, 2) := by decide +kernel
theorem dX9_buy_170 : decode cX9_buy 170 = .ok (.iaload, 1) := by decide +kernel
theorem dX9_buy_171 : decode cX9_buy 171 = .ok (.iaload, 1) := by decide +kernel
theorem dX9_buy_172 : decode cX9_buy 172 = .ok (.aload_n 0, 1) := by decide +kernel
theorem dX9_buy_173 : decode cX9_buy 173 = .ok (.getfield 7, 3) := by decide +kernel
theorem dX9_buy_176 : decode cX9_buy 176 = .ok (.iload_n 1, 1) := by decide +kernel
theorem dX9_buy_177 : decode cX9_buy 177 = .ok (.iaload, 1) := by decide +kernel
theorem dX9_buy_178 : decode cX9_buy 178 = .ok (.iadd, 1) := by decide +kernel
theorem dX9_buy_179 : decode cX9_buy 179 = .ok (.if_icmp .le 38, 3) := by decide +kernel
theorem dX9_buy_182 : decode cX9_buy 182 = .ok (.aload_n 0, 1) := by decide +kernel
theorem dX9_buy_183 : decode cX9_buy 183 = .ok (.getfield 94, 3) := by decide +kernel
theorem dX9_buy_186 : decode cX9_buy 186 = .ok (.iload 5, 2) := by decide +kernel
theorem dX9_buy_188 : decode cX9_buy 188 = .ok (.iaload, 1) := by decide +kernel
theorem dX9_buy_189 : decode cX9_buy 189 = .ok (.iconst 1, 1) := by decide +kernel
theorem dX9_buy_190 : decode cX9_buy 190 = .ok (.iadd, 1) := by decide +kernel
theorem dX9_buy_191 : decode cX9_buy 191 = .ok (.aload_n 0, 1) := by decide +kernel
theorem dX9_buy_192 : decode cX9_buy 192 = .ok (.getfield 94, 3) := by decide +kernel
theorem dX9_buy_195 : decode cX9_buy 195 = .ok (.iload 4, 2) := by decide +kernel
theorem dX9_buy_197 : decode cX9_buy 197 = .ok (.iaload, 1) := by decide +kernel
theorem dX9_buy_198 : decode cX9_buy 198 = .ok (.if_icmp .le 19, 3) := by decide +kernel
theorem dX9_buy_201 : decode cX9_buy 201 = .ok (.aload_n 0, 1) := by decide +kernel
theorem dX9_buy_202 : decode cX9_buy 202 = .ok (.getfield 94, 3) := by decide +kernel
theorem dX9_buy_205 : decode cX9_buy 205 = .ok (.iload 4, 2) := by decide +kernel
theorem dX9_buy_207 : decode cX9_buy 207 = .ok (.aload_n 0, 1) := by decide +kernel
theorem dX9_buy_208 : decode cX9_buy 208 = .ok (.getfield 94, 3) := by decide +kernel
theorem dX9_buy_211 : decode cX9_buy 211 = .ok (.iload 5, 2) := by decide +kernel
theorem dX9_buy_213 : decode cX9_buy 213 = .ok (.iaload, 1) := by decide +kernel
theorem dX9_buy_214 : decode cX9_buy 214 = .ok (.iconst 1, 1) := by decide +kernel
theorem dX9_buy_215 : decode cX9_buy 215 = .ok (.iadd, 1) := by decide +kernel
theorem dX9_buy_216 : decode cX9_buy 216 = .ok (.iastore, 1) := by decide +kernel
theorem dX9_buy_217 : decode cX9_buy 217 = .ok (.iinc 5 1, 3) := by decide +kernel
theorem dX9_buy_220 : decode cX9_buy 220 = .ok (.goto (-79), 3) := by decide +kernel
theorem dX9_buy_223 : decode cX9_buy 223 = .ok (.aload_n 0, 1) := by decide +kernel
theorem dX9_buy_224 : decode cX9_buy 224 = .ok (.getfield 94, 3) := by decide +kernel
theorem dX9_buy_227 : decode cX9_buy 227 = .ok (.iload 4, 2) := by decide +kernel
theorem dX9_buy_229 : decode cX9_buy 229 = .ok (.iaload, 1) := by decide +kernel
theorem dX9_buy_230 : decode cX9_buy 230 = .ok (.iload_n 3, 1) := by decide +kernel
theorem dX9_buy_231 : decode cX9_buy 231 = .ok (.if_icmp .le 13, 3) := by decide +kernel
theorem dX9_buy_234 : decode cX9_buy 234 = .ok (.aload_n 0, 1) := by decide +kernel
theorem dX9_buy_235 : decode cX9_buy 235 = .ok (.getfield 94, 3) := by decide +kernel
theorem dX9_buy_238 : decode cX9_buy 238 = .ok (.iload 4, 2) := by decide +kernel
theorem dX9_buy_240 : decode cX9_buy 240 = .ok (.iaload, 1) := by decide +kernel
theorem dX9_buy_241 : decode cX9_buy 241 = .ok (.goto 4, 3) := by decide +kernel
theorem dX9_buy_244 : decode cX9_buy 244 = .ok (.iload_n 3, 1) := by decide +kernel
theorem dX9_buy_245 : decode cX9_buy 245 = .ok (.istore_n 3, 1) := by decide +kernel
theorem dX9_buy_246 : decode cX9_buy 246 = .ok (.iinc 4 1, 3) := by decide +kernel
theorem dX9_buy_249 : decode cX9_buy 249 = .ok (.goto (-125), 3) := by decide +kernel
theorem dX9_buy_252 : decode cX9_buy 252 = .ok (.iload_n 3, 1) := by decide +kernel
theorem dX9_buy_253 : decode cX9_buy 253 = .ok (.ireturn, 1) := by decide +kernel
theorem dX9_of_0 : decode cX9_of 0 = .ok (.iload_n 1, 1) := by decide +kernel
theorem dX9_of_1 : decode cX9_of 1 = .ok (.iconst 0, 1) := by decide +kernel
theorem dX9_of_2 : decode cX9_of 2 = .ok (.aload_n 0, 1) := by decide +kernel
theorem dX9_of_3 : decode cX9_of 3 = .ok (.getfield 171, 3) := by decide +kernel
theorem dX9_of_6 : decode cX9_of 6 = .ok (.iconst 1, 1) := by decide +kernel
theorem dX9_of_7 : decode cX9_of 7 = .ok (.isub, 1) := by decide +kernel
theorem dX9_of_8 : decode cX9_of 8 = .ok (.invokestatic 100, 3) := by decide +kernel
theorem dX9_of_11 : decode cX9_of 11 = .ok (.ifCond .eq 17, 3) := by decide +kernel
theorem dX9_of_14 : decode cX9_of 14 = .ok (.iload_n 2, 1) := by decide +kernel
theorem dX9_of_15 : decode cX9_of 15 = .ok (.iconst 0, 1) := by decide +kernel
theorem dX9_of_16 : decode cX9_of 16 = .ok (.bipush 8, 2) := by decide +kernel
theorem dX9_of_18 : decode cX9_of 18 = .ok (.invokestatic 100, 3) := by decide +kernel
theorem dX9_of_21 : decode cX9_of 21 = .ok (.ifCond .eq 7, 3) := by decide +kernel
theorem dX9_of_24 : decode cX9_of 24 = .ok (.iconst 1, 1) := by decide +kernel
theorem dX9_of_25 : decode cX9_of 25 = .ok (.goto 4, 3) := by decide +kernel
theorem dX9_of_28 : decode cX9_of 28 = .ok (.iconst 0, 1) := by decide +kernel
theorem dX9_of_29 : decode cX9_of 29 = .ok (.istore_n 3, 1) := by decide +kernel
theorem dX9_of_30 : decode cX9_of 30 = .ok (.aload_n 0, 1) := by decide +kernel
theorem dX9_of_31 : decode cX9_of 31 = .ok (.iload_n 3, 1) := by decide +kernel
theorem dX9_of_32 : decode cX9_of 32 = .ok (.ifCond .eq 7, 3) := by decide +kernel
theorem dX9_of_35 : decode cX9_of 35 = .ok (.iconst 0, 1) := by decide +kernel
theorem dX9_of_36 : decode cX9_of 36 = .ok (.goto 4, 3) := by decide +kernel
theorem dX9_of_39 : decode cX9_of 39 = .ok (.iconst 1, 1) := by decide +kernel
theorem dX9_of_40 : decode cX9_of 40 = .ok (.putfield 97, 3) := by decide +kernel
theorem dX9_of_43 : decode cX9_of 43 = .ok (.iload_n 3, 1) := by decide +kernel
theorem dX9_of_44 : decode cX9_of 44 = .ok (.ifCond .ne 5, 3) := by decide +kernel
theorem dX9_of_47 : decode cX9_of 47 = .ok (.iconst 0, 1) := by decide +kernel
theorem dX9_of_48 : decode cX9_of 48 = .ok (.ireturn, 1) := by decide +kernel
theorem dX9_of_49 : decode cX9_of 49 = .ok (.iload_n 2, 1) := by decide +kernel
theorem dX9_of_50 : decode cX9_of 50 = .ok (.tableswitch 102 0 7 #[46, 53, 60, 67, 74, 81, 88, 95], 46) := by decide +kernel
theorem dX9_of_96 : decode cX9_of 96 = .ok (.aload_n 0, 1) := by decide +kernel
theorem dX9_of_97 : decode cX9_of 97 = .ok (.getfield 45, 3) := by decide +kernel
theorem dX9_of_100 : decode cX9_of 100 = .ok (.iload_n 1, 1) := by decide +kernel
theorem dX9_of_101 : decode cX9_of 101 = .ok (.iaload, 1) := by decide +kernel
theorem dX9_of_102 : decode cX9_of 102 = .ok (.ireturn, 1) := by decide +kernel
theorem dX9_of_103 : decode cX9_of 103 = .ok (.aload_n 0, 1) := by decide +kernel
theorem dX9_of_104 : decode cX9_of 104 = .ok (.getfield 48, 3) := by decide +kernel
theorem dX9_of_107 : decode cX9_of 107 = .ok (.iload_n 1, 1) := by decide +kernel
theorem dX9_of_108 : decode cX9_of 108 = .ok (.iaload, 1) := by decide +kernel
theorem dX9_of_109 : decode cX9_of 109 = .ok (.ireturn, 1) := by decide +kernel
theorem dX9_of_110 : decode cX9_of 110 = .ok (.aload_n 0, 1) := by decide +kernel
theorem dX9_of_111 : decode cX9_of 111 = .ok (.getfield 51, 3) := by decide +kernel
theorem dX9_of_114 : decode cX9_of 114 = .ok (.iload_n 1, 1) := by decide +kernel
theorem dX9_of_115 : decode cX9_of 115 = .ok (.iaload, 1) := by decide +kernel
theorem dX9_of_116 : decode cX9_of 116 = .ok (.ireturn, 1) := by decide +kernel
theorem dX9_of_117 : decode cX9_of 117 = .ok (.aload_n 0, 1) := by decide +kernel
theorem dX9_of_118 : decode cX9_of 118 = .ok (.getfield 54, 3) := by decide +kernel
theorem dX9_of_121 : decode cX9_of 121 = .ok (.iload_n 1, 1) := by decide +kernel
theorem dX9_of_122 : decode cX9_of 122 = .ok (.iaload, 1) := by decide +kernel
theorem dX9_of_123 : decode cX9_of 123 = .ok (.ireturn, 1) := by decide +kernel
theorem dX9_of_124 : decode cX9_of 124 = .ok (.aload_n 0, 1) := by decide +kernel
theorem dX9_of_125 : decode cX9_of 125 = .ok (.getfield 57, 3) := by decide +kernel
theorem dX9_of_128 : decode cX9_of 128 = .ok (.iload_n 1, 1) := by decide +kernel
theorem dX9_of_129 : decode cX9_of 129 = .ok (.iaload, 1) := by decide +kernel
theorem dX9_of_130 : decode cX9_of 130 = .ok (.ireturn, 1) := by decide +kernel
theorem dX9_of_131 : decode cX9_of 131 = .ok (.aload_n 0, 1) := by decide +kernel
theorem dX9_of_132 : decode cX9_of 132 = .ok (.getfield 63, 3) := by decide +kernel
theorem dX9_of_135 : decode cX9_of 135 = .ok (.iload_n 1, 1) := by decide +kernel
theorem dX9_of_136 : decode cX9_of 136 = .ok (.iaload, 1) := by decide +kernel
theorem dX9_of_137 : decode cX9_of 137 = .ok (.ireturn, 1) := by decide +kernel
theorem dX9_of_138 : decode cX9_of 138 = .ok (.aload_n 0, 1) := by decide +kernel
theorem dX9_of_139 : decode cX9_of 139 = .ok (.getfield 66, 3) := by decide +kernel
theorem dX9_of_142 : decode cX9_of 142 = .ok (.iload_n 1, 1) := by decide +kernel
theorem dX9_of_143 : decode cX9_of 143 = .ok (.iaload, 1) := by decide +kernel
theorem dX9_of_144 : decode cX9_of 144 = .ok (.ireturn, 1) := by decide +kernel
theorem dX9_of_145 : decode cX9_of 145 = .ok (.aload_n 0, 1) := by decide +kernel
theorem dX9_of_146 : decode cX9_of 146 = .ok (.getfield 69, 3) := by decide +kernel
theorem dX9_of_149 : decode cX9_of 149 = .ok (.iload_n 1, 1) := by decide +kernel
theorem dX9_of_150 : decode cX9_of 150 = .ok (.iaload, 1) := by decide +kernel
theorem dX9_of_151 : decode cX9_of 151 = .ok (.ireturn, 1) := by decide +kernel
theorem dX9_of_152 : decode cX9_of 152 = .ok (.aload_n 0, 1) := by decide +kernel
theorem dX9_of_153 : decode cX9_of 153 = .ok (.getfield 48, 3) := by decide +kernel
theorem dX9_of_156 : decode cX9_of 156 = .ok (.iload_n 1, 1) := by decide +kernel
theorem dX9_of_157 : decode cX9_of 157 = .ok (.iaload, 1) := by decide +kernel
theorem dX9_of_158 : decode cX9_of 158 = .ok (.iconst (-1), 1) := by decide +kernel
theorem dX9_of_159 : decode cX9_of 159 = .ok (.if_icmp .ne 7, 3) := by decide +kernel
theorem dX9_of_162 : decode cX9_of 162 = .ok (.iconst (-1), 1) := by decide +kernel
theorem dX9_of_163 : decode cX9_of 163 = .ok (.goto 28, 3) := by decide +kernel
theorem dX9_of_166 : decode cX9_of 166 = .ok (.aload_n 0, 1) := by decide +kernel
theorem dX9_of_167 : decode cX9_of 167 = .ok (.getfield 19, 3) := by decide +kernel
theorem dX9_of_170 : decode cX9_of 170 = .ok (.aload_n 0, 1) := by decide +kernel
theorem dX9_of_171 : decode cX9_of 171 = .ok (.getfield 48, 3) := by decide +kernel
theorem dX9_of_174 : decode cX9_of 174 = .ok (.iload_n 1, 1) := by decide +kernel
theorem dX9_of_175 : decode cX9_of 175 = .ok (.iaload, 1) := by decide +kernel
theorem dX9_of_176 : decode cX9_of 176 = .ok (.iaload, 1) := by decide +kernel
theorem dX9_of_177 : decode cX9_of 177 = .ok (.aload_n 0, 1) := by decide +kernel
theorem dX9_of_178 : decode cX9_of 178 = .ok (.getfield 57, 3) := by decide +kernel
theorem dX9_of_181 : decode cX9_of 181 = .ok (.iload_n 1, 1) := by decide +kernel
theorem dX9_of_182 : decode cX9_of 182 = .ok (.iaload, 1) := by decide +kernel
theorem dX9_of_183 : decode cX9_of 183 = .ok (.if_icmp .ne 7, 3) := by decide +kernel
theorem dX9_of_186 : decode cX9_of 186 = .ok (.iconst 0, 1) := by decide +kernel
theorem dX9_of_187 : decode cX9_of 187 = .ok (.goto 4, 3) := by decide +kernel
theorem dX9_of_190 : decode cX9_of 190 = .ok (.iconst 1, 1) := by decide +kernel
theorem dX9_of_191 : decode cX9_of 191 = .ok (.ireturn, 1) := by decide +kernel
theorem dX9_thingOf_0 : decode cX9_thingOf 0 = .ok (.aload_n 0, 1) := by decide +kernel
theorem dX9_thingOf_1 : decode cX9_thingOf 1 = .ok (.iconst 0, 1) := by decide +kernel
theorem dX9_thingOf_2 : decode cX9_thingOf 2 = .ok (.putfield 97, 3) := by decide +kernel
theorem dX9_thingOf_5 : decode cX9_thingOf 5 = .ok (.aload_n 0, 1) := by decide +kernel
theorem dX9_thingOf_6 : decode cX9_thingOf 6 = .ok (.iload_n 1, 1) := by decide +kernel
theorem dX9_thingOf_7 : decode cX9_thingOf 7 = .ok (.invokevirtual 158, 3) := by decide +kernel
theorem dX9_thingOf_10 : decode cX9_thingOf 10 = .ok (.ifCond .ne 5, 3) := by decide +kernel
theorem dX9_thingOf_13 : decode cX9_thingOf 13 = .ok (.iconst (-1), 1) := by decide +kernel
theorem dX9_thingOf_14 : decode cX9_thingOf 14 = .ok (.ireturn, 1) := by decide +kernel
theorem dX9_thingOf_15 : decode cX9_thingOf 15 = .ok (.iload_n 2, 1) := by decide +kernel
theorem dX9_thingOf_16 : decode cX9_thingOf 16 = .ok (.tableswitch 122 0 4 #[36, 43, 50, 56, 70], 36) := by decide +kernel
theorem dX9_thingOf_52 : decode cX9_thingOf 52 = .ok (.aload_n 0, 1) := by decide +kernel
theorem dX9_thingOf_53 : decode cX9_thingOf 53 = .ok (.getfield 19, 3) := by decide +kernel
theorem dX9_thingOf_56 : decode cX9_thingOf 56 = .ok (.iload_n 1, 1) := by decide +kernel
theorem dX9_thingOf_57 : decode cX9_thingOf 57 = .ok (.iaload, 1) := by decide +kernel
theorem dX9_thingOf_58 : decode cX9_thingOf 58 = .ok (.ireturn, 1) := by decide +kernel
theorem dX9_thingOf_59 : decode cX9_thingOf 59 = .ok (.aload_n 0, 1) := by decide +kernel
theorem dX9_thingOf_60 : decode cX9_thingOf 60 = .ok (.getfield 22, 3) := by decide +kernel
theorem dX9_thingOf_63 : decode cX9_thingOf 63 = .ok (.iload_n 1, 1) := by decide +kernel
theorem dX9_thingOf_64 : decode cX9_thingOf 64 = .ok (.iaload, 1) := by decide +kernel
theorem dX9_thingOf_65 : decode cX9_thingOf 65 = .ok (.ireturn, 1) := by decide +kernel
theorem dX9_thingOf_66 : decode cX9_thingOf 66 = .ok (.aload_n 0, 1) := by decide +kernel
theorem dX9_thingOf_67 : decode cX9_thingOf 67 = .ok (.iload_n 1, 1) := by decide +kernel
theorem dX9_thingOf_68 : decode cX9_thingOf 68 = .ok (.invokevirtual 161, 3) := by decide +kernel
theorem dX9_thingOf_71 : decode cX9_thingOf 71 = .ok (.ireturn, 1) := by decide +kernel
theorem dX9_thingOf_72 : decode cX9_thingOf 72 = .ok (.aload_n 0, 1) := by decide +kernel
theorem dX9_thingOf_73 : decode cX9_thingOf 73 = .ok (.iload_n 1, 1) := by decide +kernel
theorem dX9_thingOf_74 : decode cX9_thingOf 74 = .ok (.invokevirtual 214, 3) := by decide +kernel
theorem dX9_thingOf_77 : decode cX9_thingOf 77 = .ok (.ifCond .eq 7, 3) := by decide +kernel
theorem dX9_thingOf_80 : decode cX9_thingOf 80 = .ok (.iconst 1, 1) := by decide +kernel
theorem dX9_thingOf_81 : decode cX9_thingOf 81 = .ok (.goto 4, 3) := by decide +kernel
theorem dX9_thingOf_84 : decode cX9_thingOf 84 = .ok (.iconst 0, 1) := by decide +kernel
theorem dX9_thingOf_85 : decode cX9_thingOf 85 = .ok (.ireturn, 1) := by decide +kernel
theorem dX9_thingOf_86 : decode cX9_thingOf 86 = .ok (.iconst 0, 1) := by decide +kernel
theorem dX9_thingOf_87 : decode cX9_thingOf 87 = .ok (.istore_n 3, 1) := by decide +kernel
theorem dX9_thingOf_88 : decode cX9_thingOf 88 = .ok (.iconst 0, 1) := by decide +kernel
theorem dX9_thingOf_89 : decode cX9_thingOf 89 = .ok (.istore 4, 2) := by decide +kernel
theorem dX9_thingOf_91 : decode cX9_thingOf 91 = .ok (.iload 4, 2) := by decide +kernel
theorem dX9_thingOf_93 : decode cX9_thingOf 93 = .ok (.aload_n 0, 1) := by decide +kernel
theorem dX9_thingOf_94 : decode cX9_thingOf 94 = .ok (.getfield 171, 3) := by decide +kernel
theorem dX9_thingOf_97 : decode cX9_thingOf 97 = .ok (.if_icmp .ge 39, 3) := by decide +kernel
theorem dX9_thingOf_100 : decode cX9_thingOf 100 = .ok (.iload_n 3, 1) := by decide +kernel
theorem dX9_thingOf_101 : decode cX9_thingOf 101 = .ok (.aload_n 0, 1) := by decide +kernel
theorem dX9_thingOf_102 : decode cX9_thingOf 102 = .ok (.getfield 45, 3) := by decide +kernel
theorem dX9_thingOf_105 : decode cX9_thingOf 105 = .ok (.iload 4, 2) := by decide +kernel
theorem dX9_thingOf_107 : decode cX9_thingOf 107 = .ok (.iaload, 1) := by decide +kernel
theorem dX9_thingOf_108 : decode cX9_thingOf 108 = .ok (.iconst 1, 1) := by decide +kernel
theorem dX9_thingOf_109 : decode cX9_thingOf 109 = .ok (.if_icmp .ne 18, 3) := by decide +kernel
theorem dX9_thingOf_112 : decode cX9_thingOf 112 = .ok (.aload_n 0, 1) := by decide +kernel
theorem dX9_thingOf_113 : decode cX9_thingOf 113 = .ok (.getfield 48, 3) := by decide +kernel
theorem dX9_thingOf_116 : decode cX9_thingOf 116 = .ok (.iload 4, 2) := by decide +kernel
theorem dX9_thingOf_118 : decode cX9_thingOf 118 = .ok (.iaload, 1) := by decide +kernel
theorem dX9_thingOf_119 : decode cX9_thingOf 119 = .ok (.iload_n 1, 1) := by decide +kernel
theorem dX9_thingOf_120 : decode cX9_thingOf 120 = .ok (.if_icmp .ne 7, 3) := by decide +kernel
theorem dX9_thingOf_123 : decode cX9_thingOf 123 = .ok (.iconst 1, 1) := by decide +kernel
theorem dX9_thingOf_124 : decode cX9_thingOf 124 = .ok (.goto 4, 3) := by decide +kernel
theorem dX9_thingOf_127 : decode cX9_thingOf 127 = .ok (.iconst 0, 1) := by decide +kernel
theorem dX9_thingOf_128 : decode cX9_thingOf 128 = .ok (.iadd, 1) := by decide +kernel
theorem dX9_thingOf_129 : decode cX9_thingOf 129 = .ok (.istore_n 3, 1) := by decide +kernel
theorem dX9_thingOf_130 : decode cX9_thingOf 130 = .ok (.iinc 4 1, 3) := by decide +kernel
theorem dX9_thingOf_133 : decode cX9_thingOf 133 = .ok (.goto (-42), 3) := by decide +kernel
theorem dX9_thingOf_136 : decode cX9_thingOf 136 = .ok (.iload_n 3, 1) := by decide +kernel
theorem dX9_thingOf_137 : decode cX9_thingOf 137 = .ok (.ireturn, 1) := by decide +kernel
theorem dX9_thingOf_138 : decode cX9_thingOf 138 = .ok (.iconst (-1), 1) := by decide +kernel
theorem dX9_thingOf_139 : decode cX9_thingOf 139 = .ok (.ireturn, 1) := by decide +kernel
theorem dX9_isFree_0 : decode cX9_isFree 0 = .ok (.aload_n 0, 1) := by decide +kernel
theorem dX9_isFree_1 : decode cX9_isFree 1 = .ok (.iconst 0, 1) := by decide +kernel
theorem dX9_isFree_2 : decode cX9_isFree 2 = .ok (.putfield 97, 3) := by decide +kernel
theorem dX9_isFree_5 : decode cX9_isFree 5 = .ok (.aload_n 0, 1) := by decide +kernel
theorem dX9_isFree_6 : decode cX9_isFree 6 = .ok (.iload_n 1, 1) := by decide +kernel
theorem dX9_isFree_7 : decode cX9_isFree 7 = .ok (.invokevirtual 158, 3) := by decide +kernel
theorem dX9_isFree_10 : decode cX9_isFree 10 = .ok (.ifCond .eq 16, 3) := by decide +kernel
theorem dX9_isFree_13 : decode cX9_isFree 13 = .ok (.iload_n 2, 1) := by decide +kernel
theorem dX9_isFree_14 : decode cX9_isFree 14 = .ok (.aload_n 0, 1) := by decide +kernel
theorem dX9_isFree_15 : decode cX9_isFree 15 = .ok (.getfield 164, 3) := by decide +kernel
theorem dX9_isFree_18 : decode cX9_isFree 18 = .ok (.if_icmp .lt 8, 3) := by decide +kernel
theorem dX9_isFree_21 : decode cX9_isFree 21 = .ok (.iload_n 3, 1) := by decide +kernel
theorem dX9_isFree_22 : decode cX9_isFree 22 = .ok (.iload_n 2, 1) := by decide +kernel
theorem dX9_isFree_23 : decode cX9_isFree 23 = .ok (.if_icmp .ge 5, 3) := by decide +kernel
theorem dX9_isFree_26 : decode cX9_isFree 26 = .ok (.iconst (-1), 1) := by decide +kernel
theorem dX9_isFree_27 : decode cX9_isFree 27 = .ok (.ireturn, 1) := by decide +kernel
theorem dX9_isFree_28 : decode cX9_isFree 28 = .ok (.aload_n 0, 1) := by decide +kernel
theorem dX9_isFree_29 : decode cX9_isFree 29 = .ok (.iload_n 1, 1) := by decide +kernel
theorem dX9_isFree_30 : decode cX9_isFree 30 = .ok (.iload_n 2, 1) := by decide +kernel
theorem dX9_isFree_31 : decode cX9_isFree 31 = .ok (.iload_n 3, 1) := by decide +kernel
theorem dX9_isFree_32 : decode cX9_isFree 32 = .ok (.iconst (-1), 1) := by decide +kernel
theorem dX9_isFree_33 : decode cX9_isFree 33 = .ok (.invokevirtual 207, 3) := by decide +kernel
theorem dX9_isFree_36 : decode cX9_isFree 36 = .ok (.ifCond .eq 7, 3) := by decide +kernel
theorem dX9_isFree_39 : decode cX9_isFree 39 = .ok (.iconst 1, 1) := by decide +kernel
theorem dX9_isFree_40 : decode cX9_isFree 40 = .ok (.goto 4, 3) := by decide +kernel
theorem dX9_isFree_43 : decode cX9_isFree 43 = .ok (.iconst 0, 1) := by decide +kernel
theorem dX9_isFree_44 : decode cX9_isFree 44 = .ok (.ireturn, 1) := by decide +kernel
theorem dX9_memberOf_0 : decode cX9_memberOf 0 = .ok (.aload_n 0, 1) := by decide +kernel
theorem dX9_memberOf_1 : decode cX9_memberOf 1 = .ok (.iconst 0, 1) := by decide +kernel
theorem dX9_memberOf_2 : decode cX9_memberOf 2 = .ok (.putfield 97, 3) := by decide +kernel
theorem dX9_memberOf_5 : decode cX9_memberOf 5 = .ok (.aload_n 0, 1) := by decide +kernel
theorem dX9_memberOf_6 : decode cX9_memberOf 6 = .ok (.iload_n 1, 1) := by decide +kernel
theorem dX9_memberOf_7 : decode cX9_memberOf 7 = .ok (.invokevirtual 174, 3) := by decide +kernel
theorem dX9_memberOf_10 : decode cX9_memberOf 10 = .ok (.ifCond .ne 5, 3) := by decide +kernel
theorem dX9_memberOf_13 : decode cX9_memberOf 13 = .ok (.iconst (-1), 1) := by decide +kernel
theorem dX9_memberOf_14 : decode cX9_memberOf 14 = .ok (.ireturn, 1) := by decide +kernel
theorem dX9_memberOf_15 : decode cX9_memberOf 15 = .ok (.iload_n 2, 1) := by decide +kernel
theorem dX9_memberOf_16 : decode cX9_memberOf 16 = .ok (.tableswitch 94 0 2 #[28, 35, 42], 28) := by decide +kernel
theorem dX9_memberOf_44 : decode cX9_memberOf 44 = .ok (.aload_n 0, 1) := by decide +kernel
theorem dX9_memberOf_45 : decode cX9_memberOf 45 = .ok (.getfield 25, 3) := by decide +kernel
theorem dX9_memberOf_48 : decode cX9_memberOf 48 = .ok (.iload_n 1, 1) := by decide +kernel
theorem dX9_memberOf_49 : decode cX9_memberOf 49 = .ok (.iaload, 1) := by decide +kernel
theorem dX9_memberOf_50 : decode cX9_memberOf 50 = .ok (.ireturn, 1) := by decide +kernel
theorem dX9_memberOf_51 : decode cX9_memberOf 51 = .ok (.aload_n 0, 1) := by decide +kernel
theorem dX9_memberOf_52 : decode cX9_memberOf 52 = .ok (.getfield 28, 3) := by decide +kernel
theorem dX9_memberOf_55 : decode cX9_memberOf 55 = .ok (.iload_n 1, 1) := by decide +kernel
theorem dX9_memberOf_56 : decode cX9_memberOf 56 = .ok (.iaload, 1) := by decide +kernel
theorem dX9_memberOf_57 : decode cX9_memberOf 57 = .ok (.ireturn, 1) := by decide +kernel
theorem dX9_memberOf_58 : decode cX9_memberOf 58 = .ok (.iconst 0, 1) := by decide +kernel
theorem dX9_memberOf_59 : decode cX9_memberOf 59 = .ok (.istore_n 3, 1) := by decide +kernel
theorem dX9_memberOf_60 : decode cX9_memberOf 60 = .ok (.iconst 0, 1) := by decide +kernel
theorem dX9_memberOf_61 : decode cX9_memberOf 61 = .ok (.istore 4, 2) := by decide +kernel
theorem dX9_memberOf_63 : decode cX9_memberOf 63 = .ok (.iload 4, 2) := by decide +kernel
theorem dX9_memberOf_65 : decode cX9_memberOf 65 = .ok (.aload_n 0, 1) := by decide +kernel
theorem dX9_memberOf_66 : decode cX9_memberOf 66 = .ok (.getfield 171, 3) := by decide +kernel
theorem dX9_memberOf_69 : decode cX9_memberOf 69 = .ok (.if_icmp .ge 39, 3) := by decide +kernel
theorem dX9_memberOf_72 : decode cX9_memberOf 72 = .ok (.iload_n 3, 1) := by decide +kernel
theorem dX9_memberOf_73 : decode cX9_memberOf 73 = .ok (.aload_n 0, 1) := by decide +kernel
theorem dX9_memberOf_74 : decode cX9_memberOf 74 = .ok (.getfield 45, 3) := by decide +kernel
theorem dX9_memberOf_77 : decode cX9_memberOf 77 = .ok (.iload 4, 2) := by decide +kernel
theorem dX9_memberOf_79 : decode cX9_memberOf 79 = .ok (.iaload, 1) := by decide +kernel
theorem dX9_memberOf_80 : decode cX9_memberOf 80 = .ok (.iconst 3, 1) := by decide +kernel
theorem dX9_memberOf_81 : decode cX9_memberOf 81 = .ok (.if_icmp .ne 18, 3) := by decide +kernel
theorem dX9_memberOf_84 : decode cX9_memberOf 84 = .ok (.aload_n 0, 1) := by decide +kernel
theorem dX9_memberOf_85 : decode cX9_memberOf 85 = .ok (.getfield 54, 3) := by decide +kernel
theorem dX9_memberOf_88 : decode cX9_memberOf 88 = .ok (.iload 4, 2) := by decide +kernel
theorem dX9_memberOf_90 : decode cX9_memberOf 90 = .ok (.iaload, 1) := by decide +kernel
theorem dX9_memberOf_91 : decode cX9_memberOf 91 = .ok (.iload_n 1, 1) := by decide +kernel
theorem dX9_memberOf_92 : decode cX9_memberOf 92 = .ok (.if_icmp .ne 7, 3) := by decide +kernel
theorem dX9_memberOf_95 : decode cX9_memberOf 95 = .ok (.iconst 1, 1) := by decide +kernel
theorem dX9_memberOf_96 : decode cX9_memberOf 96 = .ok (.goto 4, 3) := by decide +kernel
theorem dX9_memberOf_99 : decode cX9_memberOf 99 = .ok (.iconst 0, 1) := by decide +kernel
theorem dX9_memberOf_100 : decode cX9_memberOf 100 = .ok (.iadd, 1) := by decide +kernel
theorem dX9_memberOf_101 : decode cX9_memberOf 101 = .ok (.istore_n 3, 1) := by decide +kernel
theorem dX9_memberOf_102 : decode cX9_memberOf 102 = .ok (.iinc 4 1, 3) := by decide +kernel
theorem dX9_memberOf_105 : decode cX9_memberOf 105 = .ok (.goto (-42), 3) := by decide +kernel
theorem dX9_memberOf_108 : decode cX9_memberOf 108 = .ok (.iload_n 3, 1) := by decide +kernel
theorem dX9_memberOf_109 : decode cX9_memberOf 109 = .ok (.ireturn, 1) := by decide +kernel
theorem dX9_memberOf_110 : decode cX9_memberOf 110 = .ok (.iconst (-1), 1) := by decide +kernel
theorem dX9_memberOf_111 : decode cX9_memberOf 111 = .ok (.ireturn, 1) := by decide +kernel
theorem dX9_count_0 : decode cX9_count 0 = .ok (.aload_n 0, 1) := by decide +kernel
theorem dX9_count_1 : decode cX9_count 1 = .ok (.iconst 0, 1) := by decide +kernel
theorem dX9_count_2 : decode cX9_count 2 = .ok (.putfield 97, 3) := by decide +kernel
theorem dX9_count_5 : decode cX9_count 5 = .ok (.iload_n 1, 1) := by decide +kernel
theorem dX9_count_6 : decode cX9_count 6 = .ok (.tableswitch 77 0 6 #[42, 47, 52, 57, 62, 67, 72], 42) := by decide +kernel
theorem dX9_count_48 : decode cX9_count 48 = .ok (.aload_n 0, 1) := by decide +kernel
theorem dX9_count_49 : decode cX9_count 49 = .ok (.getfield 104, 3) := by decide +kernel
theorem dX9_count_52 : decode cX9_count 52 = .ok (.ireturn, 1) := by decide +kernel
theorem dX9_count_53 : decode cX9_count 53 = .ok (.aload_n 0, 1) := by decide +kernel
theorem dX9_count_54 : decode cX9_count 54 = .ok (.getfield 107, 3) := by decide +kernel
theorem dX9_count_57 : decode cX9_count 57 = .ok (.ireturn, 1) := by decide +kernel
theorem dX9_count_58 : decode cX9_count 58 = .ok (.aload_n 0, 1) := by decide +kernel
theorem dX9_count_59 : decode cX9_count 59 = .ok (.getfield 110, 3) := by decide +kernel
theorem dX9_count_62 : decode cX9_count 62 = .ok (.ireturn, 1) := by decide +kernel
theorem dX9_count_63 : decode cX9_count 63 = .ok (.aload_n 0, 1) := by decide +kernel
theorem dX9_count_64 : decode cX9_count 64 = .ok (.getfield 149, 3) := by decide +kernel
theorem dX9_count_67 : decode cX9_count 67 = .ok (.ireturn, 1) := by decide +kernel
theorem dX9_count_68 : decode cX9_count 68 = .ok (.aload_n 0, 1) := by decide +kernel
theorem dX9_count_69 : decode cX9_count 69 = .ok (.getfield 164, 3) := by decide +kernel
theorem dX9_count_72 : decode cX9_count 72 = .ok (.ireturn, 1) := by decide +kernel
theorem dX9_count_73 : decode cX9_count 73 = .ok (.aload_n 0, 1) := by decide +kernel
theorem dX9_count_74 : decode cX9_count 74 = .ok (.getfield 171, 3) := by decide +kernel
theorem dX9_count_77 : decode cX9_count 77 = .ok (.ireturn, 1) := by decide +kernel
theorem dX9_count_78 : decode cX9_count 78 = .ok (.aload_n 0, 1) := by decide +kernel
theorem dX9_count_79 : decode cX9_count 79 = .ok (.getfield 117, 3) := by decide +kernel
theorem dX9_count_82 : decode cX9_count 82 = .ok (.ireturn, 1) := by decide +kernel
theorem dX9_count_83 : decode cX9_count 83 = .ok (.iload_n 1, 1) := by decide +kernel
theorem dX9_count_84 : decode cX9_count 84 = .ok (.bipush 10, 2) := by decide +kernel
theorem dX9_count_86 : decode cX9_count 86 = .ok (.bipush 16, 2) := by decide +kernel
theorem dX9_count_88 : decode cX9_count 88 = .ok (.invokestatic 100, 3) := by decide +kernel
theorem dX9_count_91 : decode cX9_count 91 = .ok (.ifCond .eq 12, 3) := by decide +kernel
theorem dX9_count_94 : decode cX9_count 94 = .ok (.aload_n 0, 1) := by decide +kernel
theorem dX9_count_95 : decode cX9_count 95 = .ok (.iload_n 1, 1) := by decide +kernel
theorem dX9_count_96 : decode cX9_count 96 = .ok (.bipush 10, 2) := by decide +kernel
theorem dX9_count_98 : decode cX9_count 98 = .ok (.isub, 1) := by decide +kernel
theorem dX9_count_99 : decode cX9_count 99 = .ok (.invokevirtual 177, 3) := by decide +kernel
theorem dX9_count_102 : decode cX9_count 102 = .ok (.ireturn, 1) := by decide +kernel
theorem dX9_count_103 : decode cX9_count 103 = .ok (.aload_n 0, 1) := by decide +kernel
theorem dX9_count_104 : decode cX9_count 104 = .ok (.iload_n 1, 1) := by decide +kernel
theorem dX9_count_105 : decode cX9_count 105 = .ok (.bipush 20, 2) := by decide +kernel
theorem dX9_count_107 : decode cX9_count 107 = .ok (.isub, 1) := by decide +kernel
theorem dX9_count_108 : decode cX9_count 108 = .ok (.invokevirtual 113, 3) := by decide +kernel
theorem dX9_count_111 : decode cX9_count 111 = .ok (.ifCond .eq 14, 3) := by decide +kernel
theorem dX9_count_114 : decode cX9_count 114 = .ok (.aload_n 0, 1) := by decide +kernel
theorem dX9_count_115 : decode cX9_count 115 = .ok (.iload_n 1, 1) := by decide +kernel
theorem dX9_count_116 : decode cX9_count 116 = .ok (.bipush 20, 2) := by decide +kernel
theorem dX9_count_118 : decode cX9_count 118 = .ok (.isub, 1) := by decide +kernel
theorem dX9_count_119 : decode cX9_count 119 = .ok (.invokevirtual 155, 3) := by decide +kernel
theorem dX9_count_122 : decode cX9_count 122 = .ok (.goto 4, 3) := by decide +kernel
theorem dX9_count_125 : decode cX9_count 125 = .ok (.iconst (-1), 1) := by decide +kernel
theorem dX9_count_126 : decode cX9_count 126 = .ok (.ireturn, 1) := by decide +kernel
theorem dJ9_max_7cf53_0 : decode cJ9_max_7cf53 0 = .ok (.iload_n 0, 1) := by decide +kernel
theorem dJ9_max_7cf53_1 : decode cJ9_max_7cf53 1 = .ok (.iload_n 1, 1) := by decide +kernel
theorem dJ9_max_7cf53_2 : decode cJ9_max_7cf53 2 = .ok (.if_icmp .lt 7, 3) := by decide +kernel
theorem dJ9_max_7cf53_5 : decode cJ9_max_7cf53 5 = .ok (.iload_n 0, 1) := by decide +kernel
theorem dJ9_max_7cf53_6 : decode cJ9_max_7cf53 6 = .ok (.goto 4, 3) := by decide +kernel
theorem dJ9_max_7cf53_9 : decode cJ9_max_7cf53 9 = .ok (.iload_n 1, 1) := by decide +kernel
theorem dJ9_max_7cf53_10 : decode cJ9_max_7cf53 10 = .ok (.ireturn, 1) := by decide +kernel
theorem dJ9_min_7cf53_0 : decode cJ9_min_7cf53 0 = .ok (.iload_n 0, 1) := by decide +kernel
theorem dJ9_min_7cf53_1 : decode cJ9_min_7cf53 1 = .ok (.iload_n 1, 1) := by decide +kernel
theorem dJ9_min_7cf53_2 : decode cJ9_min_7cf53 2 = .ok (.if_icmp .gt 7, 3) := by decide +kernel
theorem dJ9_min_7cf53_5 : decode cJ9_min_7cf53 5 = .ok (.iload_n 0, 1) := by decide +kernel
theorem dJ9_min_7cf53_6 : decode cJ9_min_7cf53 6 = .ok (.goto 4, 3) := by decide +kernel
theorem dJ9_min_7cf53_9 : decode cJ9_min_7cf53 9 = .ok (.iload_n 1, 1) := by decide +kernel
theorem dJ9_min_7cf53_10 : decode cJ9_min_7cf53 10 = .ok (.ireturn, 1) := by decide +kernel
theorem dJ0_length_8abf5_0 : decode cJ0_length_8abf5 0 = .ok (.aload_n 0, 1) := by decide +kernel
theorem dJ0_length_8abf5_1 : decode cJ0_length_8abf5 1 = .ok (.getfield 9, 3) := by decide +kernel
theorem dJ0_length_8abf5_4 : decode cJ0_length_8abf5 4 = .ok (.arraylength, 1) := by decide +kernel
theorem dJ0_length_8abf5_5 : decode cJ0_length_8abf5 5 = .ok (.aload_n 0, 1) := by decide +kernel
theorem dJ0_length_8abf5_6 : decode cJ0_length_8abf5 6 = .ok (.invokevirtual 335, 3) := by decide +kernel
theorem dJ0_length_8abf5_9 : decode cJ0_length_8abf5 9 = .ok (.ishr, 1) := by decide +kernel
theorem dJ0_length_8abf5_10 : decode cJ0_length_8abf5 10 = .ok (.ireturn, 1) := by decide +kernel
theorem dJ0_charAt_5068e_0 : decode cJ0_charAt_5068e 0 = .ok (.aload_n 0, 1) := by decide +kernel
theorem dJ0_charAt_5068e_1 : decode cJ0_charAt_5068e 1 = .ok (.invokevirtual 492, 3) := by decide +kernel
theorem dJ0_charAt_5068e_4 : decode cJ0_charAt_5068e 4 = .ok (.ifCond .eq 12, 3) := by decide +kernel
theorem dJ0_charAt_5068e_7 : decode cJ0_charAt_5068e 7 = .ok (.aload_n 0, 1) := by decide +kernel
theorem dJ0_charAt_5068e_8 : decode cJ0_charAt_5068e 8 = .ok (.getfield 9, 3) := by decide +kernel
theorem dJ0_charAt_5068e_11 : decode cJ0_charAt_5068e 11 = .ok (.iload_n 1, 1) := by decide +kernel
theorem dJ0_charAt_5068e_12 : decode cJ0_charAt_5068e 12 = .ok (.invokestatic 495, 3) := by decide +kernel
theorem dJ0_charAt_5068e_15 : decode cJ0_charAt_5068e 15 = .ok (.ireturn, 1) := by decide +kernel
theorem dJ0_charAt_5068e_16 : decode cJ0_charAt_5068e 16 = .ok (.aload_n 0, 1) := by decide +kernel
theorem dJ0_charAt_5068e_17 : decode cJ0_charAt_5068e 17 = .ok (.getfield 9, 3) := by decide +kernel
theorem dJ0_charAt_5068e_20 : decode cJ0_charAt_5068e 20 = .ok (.iload_n 1, 1) := by decide +kernel
theorem dJ0_charAt_5068e_21 : decode cJ0_charAt_5068e 21 = .ok (.invokestatic 498, 3) := by decide +kernel
theorem dJ0_charAt_5068e_24 : decode cJ0_charAt_5068e 24 = .ok (.ireturn, 1) := by decide +kernel
theorem dJ0_coder_7d493_0 : decode cJ0_coder_7d493 0 = .ok (.getstatic 38, 3) := by decide +kernel
theorem dJ0_coder_7d493_3 : decode cJ0_coder_7d493 3 = .ok (.ifCond .eq 10, 3) := by decide +kernel
theorem dJ0_coder_7d493_6 : decode cJ0_coder_7d493 6 = .ok (.aload_n 0, 1) := by decide +kernel
theorem dJ0_coder_7d493_7 : decode cJ0_coder_7d493 7 = .ok (.getfield 15, 3) := by decide +kernel
theorem dJ0_coder_7d493_10 : decode cJ0_coder_7d493 10 = .ok (.goto 4, 3) := by decide +kernel
theorem dJ0_coder_7d493_13 : decode cJ0_coder_7d493 13 = .ok (.iconst 1, 1) := by decide +kernel
theorem dJ0_coder_7d493_14 : decode cJ0_coder_7d493 14 = .ok (.ireturn, 1) := by decide +kernel
theorem dJ0_isLatin1_aae02_0 : decode cJ0_isLatin1_aae02 0 = .ok (.getstatic 38, 3) := by decide +kernel
theorem dJ0_isLatin1_aae02_3 : decode cJ0_isLatin1_aae02 3 = .ok (.ifCond .eq 14, 3) := by decide +kernel
theorem dJ0_isLatin1_aae02_6 : decode cJ0_isLatin1_aae02 6 = .ok (.aload_n 0, 1) := by decide +kernel
theorem dJ0_isLatin1_aae02_7 : decode cJ0_isLatin1_aae02 7 = .ok (.getfield 15, 3) := by decide +kernel
theorem dJ0_isLatin1_aae02_10 : decode cJ0_isLatin1_aae02 10 = .ok (.ifCond .ne 7, 3) := by decide +kernel
theorem dJ0_isLatin1_aae02_13 : decode cJ0_isLatin1_aae02 13 = .ok (.iconst 1, 1) := by decide +kernel
theorem dJ0_isLatin1_aae02_14 : decode cJ0_isLatin1_aae02 14 = .ok (.goto 4, 3) := by decide +kernel
theorem dJ0_isLatin1_aae02_17 : decode cJ0_isLatin1_aae02 17 = .ok (.iconst 0, 1) := by decide +kernel
theorem dJ0_isLatin1_aae02_18 : decode cJ0_isLatin1_aae02 18 = .ok (.ireturn, 1) := by decide +kernel
theorem dJ0_checkIndex_df160_0 : decode cJ0_checkIndex_df160 0 = .ok (.iload_n 0, 1) := by decide +kernel
theorem dJ0_checkIndex_df160_1 : decode cJ0_checkIndex_df160 1 = .ok (.iload_n 1, 1) := by decide +kernel
theorem dJ0_checkIndex_df160_2 : decode cJ0_checkIndex_df160 2 = .ok (.getstatic 1053, 3) := by decide +kernel
theorem dJ0_checkIndex_df160_5 : decode cJ0_checkIndex_df160 5 = .ok (.invokestatic 1059, 3) := by decide +kernel
theorem dJ0_checkIndex_df160_8 : decode cJ0_checkIndex_df160 8 = .ok (.pop, 1) := by decide +kernel
theorem dJ0_checkIndex_df160_9 : decode cJ0_checkIndex_df160 9 = .ok (.return_, 1) := by decide +kernel
theorem dJ1_charAt_3b067_0 : decode cJ1_charAt_3b067 0 = .ok (.iload_n 1, 1) := by decide +kernel
theorem dJ1_charAt_3b067_1 : decode cJ1_charAt_3b067 1 = .ok (.aload_n 0, 1) := by decide +kernel
theorem dJ1_charAt_3b067_2 : decode cJ1_charAt_3b067 2 = .ok (.arraylength, 1) := by decide +kernel
theorem dJ1_charAt_3b067_3 : decode cJ1_charAt_3b067 3 = .ok (.invokestatic 9, 3) := by decide +kernel
theorem dJ1_charAt_3b067_6 : decode cJ1_charAt_3b067 6 = .ok (.aload_n 0, 1) := by decide +kernel
theorem dJ1_charAt_3b067_7 : decode cJ1_charAt_3b067 7 = .ok (.iload_n 1, 1) := by decide +kernel
theorem dJ1_charAt_3b067_8 : decode cJ1_charAt_3b067 8 = .ok (.baload, 1) := by decide +kernel
theorem dJ1_charAt_3b067_9 : decode cJ1_charAt_3b067 9 = .ok (.sipush 255, 3) := by decide +kernel
theorem dJ1_charAt_3b067_12 : decode cJ1_charAt_3b067 12 = .ok (.iand, 1) := by decide +kernel
theorem dJ1_charAt_3b067_13 : decode cJ1_charAt_3b067 13 = .ok (.i2c, 1) := by decide +kernel
theorem dJ1_charAt_3b067_14 : decode cJ1_charAt_3b067 14 = .ok (.ireturn, 1) := by decide +kernel
theorem dJ2_getChar_3b067_0 : decode cJ2_getChar_3b067 0 = .ok (.getstatic 44, 3) := by decide +kernel
theorem dJ2_getChar_3b067_3 : decode cJ2_getChar_3b067 3 = .ok (.ifCond .ne 25, 3) := by decide +kernel
theorem dJ2_getChar_3b067_6 : decode cJ2_getChar_3b067 6 = .ok (.iload_n 1, 1) := by decide +kernel
theorem dJ2_getChar_3b067_7 : decode cJ2_getChar_3b067 7 = .ok (.ifCond .lt 11, 3) := by decide +kernel
theorem dJ2_getChar_3b067_10 : decode cJ2_getChar_3b067 10 = .ok (.iload_n 1, 1) := by decide +kernel
theorem dJ2_getChar_3b067_11 : decode cJ2_getChar_3b067 11 = .ok (.aload_n 0, 1) := by decide +kernel
theorem dJ2_getChar_3b067_12 : decode cJ2_getChar_3b067 12 = .ok (.invokestatic 48, 3) := by decide +kernel
theorem dJ2_getChar_3b067_15 : decode cJ2_getChar_3b067 15 = .ok (.if_icmp .lt 13, 3) := by decide +kernel
theorem dJ2_getChar_3b067_18 : decode cJ2_getChar_3b067 18 = .ok (.new 52, 3) := by decide +kernel
theorem dJ2_getChar_3b067_21 : decode cJ2_getChar_3b067 21 = .ok (.dup, 1) := by decide +kernel
theorem dJ2_getChar_3b067_22 : decode cJ2_getChar_3b067 22 = .ok (.ldc 54, 2) := by decide +kernel
theorem dJ2_getChar_3b067_24 : decode cJ2_getChar_3b067 24 = .ok (.invokespecial 56, 3) := by decide +kernel
theorem dJ2_getChar_3b067_27 : decode cJ2_getChar_3b067 27 = .ok (.athrow, 1) := by decide +kernel
theorem dJ2_getChar_3b067_28 : decode cJ2_getChar_3b067 28 = .ok (.iload_n 1, 1) := by decide +kernel
theorem dJ2_getChar_3b067_29 : decode cJ2_getChar_3b067 29 = .ok (.iconst 1, 1) := by decide +kernel
theorem dJ2_getChar_3b067_30 : decode cJ2_getChar_3b067 30 = .ok (.ishl, 1) := by decide +kernel
theorem dJ2_getChar_3b067_31 : decode cJ2_getChar_3b067 31 = .ok (.istore_n 1, 1) := by decide +kernel
theorem dJ2_getChar_3b067_32 : decode cJ2_getChar_3b067 32 = .ok (.aload_n 0, 1) := by decide +kernel
theorem dJ2_getChar_3b067_33 : decode cJ2_getChar_3b067 33 = .ok (.iload_n 1, 1) := by decide +kernel
theorem dJ2_getChar_3b067_34 : decode cJ2_getChar_3b067 34 = .ok (.iinc 1 1, 3) := by decide +kernel
theorem dJ2_getChar_3b067_37 : decode cJ2_getChar_3b067 37 = .ok (.baload, 1) := by decide +kernel
theorem dJ2_getChar_3b067_38 : decode cJ2_getChar_3b067 38 = .ok (.sipush 255, 3) := by decide +kernel
theorem dJ2_getChar_3b067_41 : decode cJ2_getChar_3b067 41 = .ok (.iand, 1) := by decide +kernel
theorem dJ2_getChar_3b067_42 : decode cJ2_getChar_3b067 42 = .ok (.getstatic 59, 3) := by decide +kernel
theorem dJ2_getChar_3b067_45 : decode cJ2_getChar_3b067 45 = .ok (.ishl, 1) := by decide +kernel
theorem dJ2_getChar_3b067_46 : decode cJ2_getChar_3b067 46 = .ok (.aload_n 0, 1) := by decide +kernel
theorem dJ2_getChar_3b067_47 : decode cJ2_getChar_3b067 47 = .ok (.iload_n 1, 1) := by decide +kernel
theorem dJ2_getChar_3b067_48 : decode cJ2_getChar_3b067 48 = .ok (.baload, 1) := by decide +kernel
theorem dJ2_getChar_3b067_49 : decode cJ2_getChar_3b067 49 = .ok (.sipush 255, 3) := by decide +kernel
theorem dJ2_getChar_3b067_52 : decode cJ2_getChar_3b067 52 = .ok (.iand, 1) := by decide +kernel
theorem dJ2_getChar_3b067_53 : decode cJ2_getChar_3b067 53 = .ok (.getstatic 63, 3) := by decide +kernel
theorem dJ2_getChar_3b067_56 : decode cJ2_getChar_3b067 56 = .ok (.ishl, 1) := by decide +kernel
theorem dJ2_getChar_3b067_57 : decode cJ2_getChar_3b067 57 = .ok (.ior, 1) := by decide +kernel
theorem dJ2_getChar_3b067_58 : decode cJ2_getChar_3b067 58 = .ok (.i2c, 1) := by decide +kernel
theorem dJ2_getChar_3b067_59 : decode cJ2_getChar_3b067 59 = .ok (.ireturn, 1) := by decide +kernel
theorem dJ2_length_9d52b_0 : decode cJ2_length_9d52b 0 = .ok (.aload_n 0, 1) := by decide +kernel
theorem dJ2_length_9d52b_1 : decode cJ2_length_9d52b 1 = .ok (.arraylength, 1) := by decide +kernel
theorem dJ2_length_9d52b_2 : decode cJ2_length_9d52b 2 = .ok (.iconst 1, 1) := by decide +kernel
theorem dJ2_length_9d52b_3 : decode cJ2_length_9d52b 3 = .ok (.ishr, 1) := by decide +kernel
theorem dJ2_length_9d52b_4 : decode cJ2_length_9d52b 4 = .ok (.ireturn, 1) := by decide +kernel
theorem dJ2_charAt_3b067_0 : decode cJ2_charAt_3b067 0 = .ok (.iload_n 1, 1) := by decide +kernel
theorem dJ2_charAt_3b067_1 : decode cJ2_charAt_3b067 1 = .ok (.aload_n 0, 1) := by decide +kernel
theorem dJ2_charAt_3b067_2 : decode cJ2_charAt_3b067 2 = .ok (.invokestatic 67, 3) := by decide +kernel
theorem dJ2_charAt_3b067_5 : decode cJ2_charAt_3b067 5 = .ok (.aload_n 0, 1) := by decide +kernel
theorem dJ2_charAt_3b067_6 : decode cJ2_charAt_3b067 6 = .ok (.iload_n 1, 1) := by decide +kernel
theorem dJ2_charAt_3b067_7 : decode cJ2_charAt_3b067 7 = .ok (.invokestatic 71, 3) := by decide +kernel
theorem dJ2_charAt_3b067_10 : decode cJ2_charAt_3b067 10 = .ok (.ireturn, 1) := by decide +kernel
theorem dJ2_checkIndex_2214a_0 : decode cJ2_checkIndex_2214a 0 = .ok (.iload_n 0, 1) := by decide +kernel
theorem dJ2_checkIndex_2214a_1 : decode cJ2_checkIndex_2214a 1 = .ok (.aload_n 1, 1) := by decide +kernel
theorem dJ2_checkIndex_2214a_2 : decode cJ2_checkIndex_2214a 2 = .ok (.invokestatic 48, 3) := by decide +kernel
theorem dJ2_checkIndex_2214a_5 : decode cJ2_checkIndex_2214a 5 = .ok (.invokestatic 414, 3) := by decide +kernel
theorem dJ2_checkIndex_2214a_8 : decode cJ2_checkIndex_2214a 8 = .ok (.return_, 1) := by decide +kernel
theorem dJxa1e45_init_da8c8_0 : decode cJxa1e45_init_da8c8 0 = .ok (.aload_n 0, 1) := by decide +kernel
theorem dJxa1e45_init_da8c8_1 : decode cJxa1e45_init_da8c8 1 = .ok (.invokespecial 1, 3) := by decide +kernel
theorem dJxa1e45_init_da8c8_4 : decode cJxa1e45_init_da8c8 4 = .ok (.return_, 1) := by decide +kernel
theorem dJxc12de_init_da8c8_0 : decode cJxc12de_init_da8c8 0 = .ok (.aload_n 0, 1) := by decide +kernel
theorem dJxc12de_init_da8c8_1 : decode cJxc12de_init_da8c8 1 = .ok (.invokespecial 1, 3) := by decide +kernel
theorem dJxc12de_init_da8c8_4 : decode cJxc12de_init_da8c8 4 = .ok (.aload_n 0, 1) := by decide +kernel
theorem dJxc12de_init_da8c8_5 : decode cJxc12de_init_da8c8 5 = .ok (.iconst 0, 1) := by decide +kernel
theorem dJxc12de_init_da8c8_6 : decode cJxc12de_init_da8c8 6 = .ok (.putfield 7, 3) := by decide +kernel
theorem dJxc12de_init_da8c8_9 : decode cJxc12de_init_da8c8 9 = .ok (.return_, 1) := by decide +kernel
theorem dJx4a65c_init_da8c8_0 : decode cJx4a65c_init_da8c8 0 = .ok (.aload_n 0, 1) := by decide +kernel
theorem dJx4a65c_init_da8c8_1 : decode cJx4a65c_init_da8c8 1 = .ok (.invokespecial 1, 3) := by decide +kernel
theorem dJx4a65c_init_da8c8_4 : decode cJx4a65c_init_da8c8 4 = .ok (.aload_n 0, 1) := by decide +kernel
theorem dJx4a65c_init_da8c8_5 : decode cJx4a65c_init_da8c8 5 = .ok (.getstatic 39, 3) := by decide +kernel
theorem dJx4a65c_init_da8c8_8 : decode cJx4a65c_init_da8c8 8 = .ok (.putfield 9, 3) := by decide +kernel
theorem dJx4a65c_init_da8c8_11 : decode cJx4a65c_init_da8c8 11 = .ok (.return_, 1) := by decide +kernel
theorem dJx4a65c_grow_92f84_0 : decode cJx4a65c_grow_92f84 0 = .ok (.aload_n 0, 1) := by decide +kernel
theorem dJx4a65c_grow_92f84_1 : decode cJx4a65c_grow_92f84 1 = .ok (.getfield 9, 3) := by decide +kernel
theorem dJx4a65c_grow_92f84_4 : decode cJx4a65c_grow_92f84 4 = .ok (.arraylength, 1) := by decide +kernel
theorem dJx4a65c_grow_92f84_5 : decode cJx4a65c_grow_92f84 5 = .ok (.istore_n 2, 1) := by decide +kernel
theorem dJx4a65c_grow_92f84_6 : decode cJx4a65c_grow_92f84 6 = .ok (.iload_n 2, 1) := by decide +kernel
theorem dJx4a65c_grow_92f84_7 : decode cJx4a65c_grow_92f84 7 = .ok (.ifCond .gt 13, 3) := by decide +kernel
theorem dJx4a65c_grow_92f84_10 : decode cJx4a65c_grow_92f84 10 = .ok (.aload_n 0, 1) := by decide +kernel
theorem dJx4a65c_grow_92f84_11 : decode cJx4a65c_grow_92f84 11 = .ok (.getfield 9, 3) := by decide +kernel
theorem dJx4a65c_grow_92f84_14 : decode cJx4a65c_grow_92f84 14 = .ok (.getstatic 39, 3) := by decide +kernel
theorem dJx4a65c_grow_92f84_17 : decode cJx4a65c_grow_92f84 17 = .ok (.if_acmp .eq 28, 3) := by decide +kernel
theorem dJx4a65c_grow_92f84_20 : decode cJx4a65c_grow_92f84 20 = .ok (.iload_n 2, 1) := by decide +kernel
theorem dJx4a65c_grow_92f84_21 : decode cJx4a65c_grow_92f84 21 = .ok (.iload_n 1, 1) := by decide +kernel
theorem dJx4a65c_grow_92f84_22 : decode cJx4a65c_grow_92f84 22 = .ok (.iload_n 2, 1) := by decide +kernel
theorem dJx4a65c_grow_92f84_23 : decode cJx4a65c_grow_92f84 23 = .ok (.isub, 1) := by decide +kernel
theorem dJx4a65c_grow_92f84_24 : decode cJx4a65c_grow_92f84 24 = .ok (.iload_n 2, 1) := by decide +kernel
theorem dJx4a65c_grow_92f84_25 : decode cJx4a65c_grow_92f84 25 = .ok (.iconst 1, 1) := by decide +kernel
theorem dJx4a65c_grow_92f84_26 : decode cJx4a65c_grow_92f84 26 = .ok (.ishr, 1) := by decide +kernel
theorem dJx4a65c_grow_92f84_27 : decode cJx4a65c_grow_92f84 27 = .ok (.invokestatic 73, 3) := by decide +kernel
theorem dJx4a65c_grow_92f84_30 : decode cJx4a65c_grow_92f84 30 = .ok (.istore_n 3, 1) := by decide +kernel
theorem dJx4a65c_grow_92f84_31 : decode cJx4a65c_grow_92f84 31 = .ok (.aload_n 0, 1) := by decide +kernel
theorem dJx4a65c_grow_92f84_32 : decode cJx4a65c_grow_92f84 32 = .ok (.aload_n 0, 1) := by decide +kernel
theorem dJx4a65c_grow_92f84_33 : decode cJx4a65c_grow_92f84 33 = .ok (.getfield 9, 3) := by decide +kernel
theorem dJx4a65c_grow_92f84_36 : decode cJx4a65c_grow_92f84 36 = .ok (.iload_n 3, 1) := by decide +kernel
theorem dJx4a65c_grow_92f84_37 : decode cJx4a65c_grow_92f84 37 = .ok (.invokestatic 66, 3) := by decide +kernel
theorem dJx4a65c_grow_92f84_40 : decode cJx4a65c_grow_92f84 40 = .ok (.dup_x1, 1) := by decide +kernel
theorem dJx4a65c_grow_92f84_41 : decode cJx4a65c_grow_92f84 41 = .ok (.putfield 9, 3) := by decide +kernel
theorem dJx4a65c_grow_92f84_44 : decode cJx4a65c_grow_92f84 44 = .ok (.areturn, 1) := by decide +kernel
theorem dJx4a65c_grow_92f84_45 : decode cJx4a65c_grow_92f84 45 = .ok (.aload_n 0, 1) := by decide +kernel
theorem dJx4a65c_grow_92f84_46 : decode cJx4a65c_grow_92f84 46 = .ok (.bipush 10, 2) := by decide +kernel
theorem dJx4a65c_grow_92f84_48 : decode cJx4a65c_grow_92f84 48 = .ok (.iload_n 1, 1) := by decide +kernel
theorem dJx4a65c_grow_92f84_49 : decode cJx4a65c_grow_92f84 49 = .ok (.invokestatic 79, 3) := by decide +kernel
theorem dJx4a65c_grow_92f84_52 : decode cJx4a65c_grow_92f84 52 = .ok (.anewarray 7, 3) := by decide +kernel
theorem dJx4a65c_grow_92f84_55 : decode cJx4a65c_grow_92f84 55 = .ok (.dup_x1, 1) := by decide +kernel
theorem dJx4a65c_grow_92f84_56 : decode cJx4a65c_grow_92f84 56 = .ok (.putfield 9, 3) := by decide +kernel
theorem dJx4a65c_grow_92f84_59 : decode cJx4a65c_grow_92f84 59 = .ok (.areturn, 1) := by decide +kernel
theorem dJx4a65c_grow_d5877_0 : decode cJx4a65c_grow_d5877 0 = .ok (.aload_n 0, 1) := by decide +kernel
theorem dJx4a65c_grow_d5877_1 : decode cJx4a65c_grow_d5877 1 = .ok (.aload_n 0, 1) := by decide +kernel
theorem dJx4a65c_grow_d5877_2 : decode cJx4a65c_grow_d5877 2 = .ok (.getfield 48, 3) := by decide +kernel
theorem dJx4a65c_grow_d5877_5 : decode cJx4a65c_grow_d5877 5 = .ok (.iconst 1, 1) := by decide +kernel
theorem dJx4a65c_grow_d5877_6 : decode cJx4a65c_grow_d5877 6 = .ok (.iadd, 1) := by decide +kernel
theorem dJx4a65c_grow_d5877_7 : decode cJx4a65c_grow_d5877 7 = .ok (.invokevirtual 69, 3) := by decide +kernel
theorem dJx4a65c_grow_d5877_10 : decode cJx4a65c_grow_d5877 10 = .ok (.areturn, 1) := by decide +kernel
theorem dJx4a65c_size_8abf5_0 : decode cJx4a65c_size_8abf5 0 = .ok (.aload_n 0, 1) := by decide +kernel
theorem dJx4a65c_size_8abf5_1 : decode cJx4a65c_size_8abf5 1 = .ok (.getfield 48, 3) := by decide +kernel
theorem dJx4a65c_size_8abf5_4 : decode cJx4a65c_size_8abf5 4 = .ok (.ireturn, 1) := by decide +kernel
theorem dJx4a65c_elementData_915e3_0 : decode cJx4a65c_elementData_915e3 0 = .ok (.aload_n 0, 1) := by decide +kernel
theorem dJx4a65c_elementData_915e3_1 : decode cJx4a65c_elementData_915e3 1 = .ok (.getfield 9, 3) := by decide +kernel
theorem dJx4a65c_elementData_915e3_4 : decode cJx4a65c_elementData_915e3 4 = .ok (.iload_n 1, 1) := by decide +kernel
theorem dJx4a65c_elementData_915e3_5 : decode cJx4a65c_elementData_915e3 5 = .ok (.aaload, 1) := by decide +kernel
theorem dJx4a65c_elementData_915e3_6 : decode cJx4a65c_elementData_915e3 6 = .ok (.areturn, 1) := by decide +kernel
theorem dJx4a65c_get_915e3_0 : decode cJx4a65c_get_915e3 0 = .ok (.iload_n 1, 1) := by decide +kernel
theorem dJx4a65c_get_915e3_1 : decode cJx4a65c_get_915e3 1 = .ok (.aload_n 0, 1) := by decide +kernel
theorem dJx4a65c_get_915e3_2 : decode cJx4a65c_get_915e3 2 = .ok (.getfield 48, 3) := by decide +kernel
theorem dJx4a65c_get_915e3_5 : decode cJx4a65c_get_915e3 5 = .ok (.invokestatic 118, 3) := by decide +kernel
theorem dJx4a65c_get_915e3_8 : decode cJx4a65c_get_915e3 8 = .ok (.pop, 1) := by decide +kernel
theorem dJx4a65c_get_915e3_9 : decode cJx4a65c_get_915e3 9 = .ok (.aload_n 0, 1) := by decide +kernel
theorem dJx4a65c_get_915e3_10 : decode cJx4a65c_get_915e3 10 = .ok (.iload_n 1, 1) := by decide +kernel
theorem dJx4a65c_get_915e3_11 : decode cJx4a65c_get_915e3 11 = .ok (.invokevirtual 123, 3) := by decide +kernel
theorem dJx4a65c_get_915e3_14 : decode cJx4a65c_get_915e3 14 = .ok (.areturn, 1) := by decide +kernel
theorem dJx4a65c_add_72be8_0 : decode cJx4a65c_add_72be8 0 = .ok (.iload_n 3, 1) := by decide +kernel
theorem dJx4a65c_add_72be8_1 : decode cJx4a65c_add_72be8 1 = .ok (.aload_n 2, 1) := by decide +kernel
theorem dJx4a65c_add_72be8_2 : decode cJx4a65c_add_72be8 2 = .ok (.arraylength, 1) := by decide +kernel
theorem dJx4a65c_add_72be8_3 : decode cJx4a65c_add_72be8 3 = .ok (.if_icmp .ne 8, 3) := by decide +kernel
theorem dJx4a65c_add_72be8_6 : decode cJx4a65c_add_72be8 6 = .ok (.aload_n 0, 1) := by decide +kernel
theorem dJx4a65c_add_72be8_7 : decode cJx4a65c_add_72be8 7 = .ok (.invokevirtual 129, 3) := by decide +kernel
theorem dJx4a65c_add_72be8_10 : decode cJx4a65c_add_72be8 10 = .ok (.astore_n 2, 1) := by decide +kernel
theorem dJx4a65c_add_72be8_11 : decode cJx4a65c_add_72be8 11 = .ok (.aload_n 2, 1) := by decide +kernel
theorem dJx4a65c_add_72be8_12 : decode cJx4a65c_add_72be8 12 = .ok (.iload_n 3, 1) := by decide +kernel
theorem dJx4a65c_add_72be8_13 : decode cJx4a65c_add_72be8 13 = .ok (.aload_n 1, 1) := by decide +kernel
theorem dJx4a65c_add_72be8_14 : decode cJx4a65c_add_72be8 14 = .ok (.aastore, 1) := by decide +kernel
theorem dJx4a65c_add_72be8_15 : decode cJx4a65c_add_72be8 15 = .ok (.aload_n 0, 1) := by decide +kernel
theorem dJx4a65c_add_72be8_16 : decode cJx4a65c_add_72be8 16 = .ok (.iload_n 3, 1) := by decide +kernel
theorem dJx4a65c_add_72be8_17 : decode cJx4a65c_add_72be8 17 = .ok (.iconst 1, 1) := by decide +kernel
theorem dJx4a65c_add_72be8_18 : decode cJx4a65c_add_72be8 18 = .ok (.iadd, 1) := by decide +kernel
theorem dJx4a65c_add_72be8_19 : decode cJx4a65c_add_72be8 19 = .ok (.putfield 48, 3) := by decide +kernel
theorem dJx4a65c_add_72be8_22 : decode cJx4a65c_add_72be8 22 = .ok (.return_, 1) := by decide +kernel
theorem dJx4a65c_add_9ea2d_0 : decode cJx4a65c_add_9ea2d 0 = .ok (.aload_n 0, 1) := by decide +kernel
theorem dJx4a65c_add_9ea2d_1 : decode cJx4a65c_add_9ea2d 1 = .ok (.dup, 1) := by decide +kernel
theorem dJx4a65c_add_9ea2d_2 : decode cJx4a65c_add_9ea2d 2 = .ok (.getfield 63, 3) := by decide +kernel
theorem dJx4a65c_add_9ea2d_5 : decode cJx4a65c_add_9ea2d 5 = .ok (.iconst 1, 1) := by decide +kernel
theorem dJx4a65c_add_9ea2d_6 : decode cJx4a65c_add_9ea2d 6 = .ok (.iadd, 1) := by decide +kernel
theorem dJx4a65c_add_9ea2d_7 : decode cJx4a65c_add_9ea2d 7 = .ok (.putfield 63, 3) := by decide +kernel
theorem dJx4a65c_add_9ea2d_10 : decode cJx4a65c_add_9ea2d 10 = .ok (.aload_n 0, 1) := by decide +kernel
theorem dJx4a65c_add_9ea2d_11 : decode cJx4a65c_add_9ea2d 11 = .ok (.aload_n 1, 1) := by decide +kernel
theorem dJx4a65c_add_9ea2d_12 : decode cJx4a65c_add_9ea2d 12 = .ok (.aload_n 0, 1) := by decide +kernel
theorem dJx4a65c_add_9ea2d_13 : decode cJx4a65c_add_9ea2d 13 = .ok (.getfield 9, 3) := by decide +kernel
theorem dJx4a65c_add_9ea2d_16 : decode cJx4a65c_add_9ea2d 16 = .ok (.aload_n 0, 1) := by decide +kernel
theorem dJx4a65c_add_9ea2d_17 : decode cJx4a65c_add_9ea2d 17 = .ok (.getfield 48, 3) := by decide +kernel
theorem dJx4a65c_add_9ea2d_20 : decode cJx4a65c_add_9ea2d 20 = .ok (.invokevirtual 131, 3) := by decide +kernel
theorem dJx4a65c_add_9ea2d_23 : decode cJx4a65c_add_9ea2d 23 = .ok (.iconst 1, 1) := by decide +kernel
theorem dJx4a65c_add_9ea2d_24 : decode cJx4a65c_add_9ea2d 24 = .ok (.ireturn, 1) := by decide +kernel
theorem dJx4a65c_add_7a177_0 : decode cJx4a65c_add_7a177 0 = .ok (.aload_n 0, 1) := by decide +kernel
theorem dJx4a65c_add_7a177_1 : decode cJx4a65c_add_7a177 1 = .ok (.iload_n 1, 1) := by decide +kernel
theorem dJx4a65c_add_7a177_2 : decode cJx4a65c_add_7a177 2 = .ok (.invokevirtual 135, 3) := by decide +kernel
theorem dJx4a65c_add_7a177_5 : decode cJx4a65c_add_7a177 5 = .ok (.aload_n 0, 1) := by decide +kernel
theorem dJx4a65c_add_7a177_6 : decode cJx4a65c_add_7a177 6 = .ok (.dup, 1) := by decide +kernel
theorem dJx4a65c_add_7a177_7 : decode cJx4a65c_add_7a177 7 = .ok (.getfield 63, 3) := by decide +kernel
theorem dJx4a65c_add_7a177_10 : decode cJx4a65c_add_7a177 10 = .ok (.iconst 1, 1) := by decide +kernel
theorem dJx4a65c_add_7a177_11 : decode cJx4a65c_add_7a177 11 = .ok (.iadd, 1) := by decide +kernel
theorem dJx4a65c_add_7a177_12 : decode cJx4a65c_add_7a177 12 = .ok (.putfield 63, 3) := by decide +kernel
theorem dJx4a65c_add_7a177_15 : decode cJx4a65c_add_7a177 15 = .ok (.aload_n 0, 1) := by decide +kernel
theorem dJx4a65c_add_7a177_16 : decode cJx4a65c_add_7a177 16 = .ok (.getfield 48, 3) := by decide +kernel
theorem dJx4a65c_add_7a177_19 : decode cJx4a65c_add_7a177 19 = .ok (.dup, 1) := by decide +kernel
theorem dJx4a65c_add_7a177_20 : decode cJx4a65c_add_7a177 20 = .ok (.istore_n 3, 1) := by decide +kernel
theorem dJx4a65c_add_7a177_21 : decode cJx4a65c_add_7a177 21 = .ok (.aload_n 0, 1) := by decide +kernel
theorem dJx4a65c_add_7a177_22 : decode cJx4a65c_add_7a177 22 = .ok (.getfield 9, 3) := by decide +kernel
theorem dJx4a65c_add_7a177_25 : decode cJx4a65c_add_7a177 25 = .ok (.dup, 1) := by decide +kernel
theorem dJx4a65c_add_7a177_26 : decode cJx4a65c_add_7a177 26 = .ok (.astore 4, 2) := by decide +kernel
theorem dJx4a65c_add_7a177_28 : decode cJx4a65c_add_7a177 28 = .ok (.arraylength, 1) := by decide +kernel
theorem dJx4a65c_add_7a177_29 : decode cJx4a65c_add_7a177 29 = .ok (.if_icmp .ne 9, 3) := by decide +kernel
theorem dJx4a65c_add_7a177_32 : decode cJx4a65c_add_7a177 32 = .ok (.aload_n 0, 1) := by decide +kernel
theorem dJx4a65c_add_7a177_33 : decode cJx4a65c_add_7a177 33 = .ok (.invokevirtual 129, 3) := by decide +kernel
theorem dJx4a65c_add_7a177_36 : decode cJx4a65c_add_7a177 36 = .ok (.astore 4, 2) := by decide +kernel
theorem dJx4a65c_add_7a177_38 : decode cJx4a65c_add_7a177 38 = .ok (.aload 4, 2) := by decide +kernel
theorem dJx4a65c_add_7a177_40 : decode cJx4a65c_add_7a177 40 = .ok (.iload_n 1, 1) := by decide +kernel
theorem dJx4a65c_add_7a177_41 : decode cJx4a65c_add_7a177 41 = .ok (.aload 4, 2) := by decide +kernel
theorem dJx4a65c_add_7a177_43 : decode cJx4a65c_add_7a177 43 = .ok (.iload_n 1, 1) := by decide +kernel
theorem dJx4a65c_add_7a177_44 : decode cJx4a65c_add_7a177 44 = .ok (.iconst 1, 1) := by decide +kernel
theorem dJx4a65c_add_7a177_45 : decode cJx4a65c_add_7a177 45 = .ok (.iadd, 1) := by decide +kernel
theorem dJx4a65c_add_7a177_46 : decode cJx4a65c_add_7a177 46 = .ok (.iload_n 3, 1) := by decide +kernel
theorem dJx4a65c_add_7a177_47 : decode cJx4a65c_add_7a177 47 = .ok (.iload_n 1, 1) := by decide +kernel
theorem dJx4a65c_add_7a177_48 : decode cJx4a65c_add_7a177 48 = .ok (.isub, 1) := by decide +kernel
theorem dJx4a65c_add_7a177_49 : decode cJx4a65c_add_7a177 49 = .ok (.invokestatic 112, 3) := by decide +kernel
theorem dJx4a65c_add_7a177_52 : decode cJx4a65c_add_7a177 52 = .ok (.aload 4, 2) := by decide +kernel
theorem dJx4a65c_add_7a177_54 : decode cJx4a65c_add_7a177 54 = .ok (.iload_n 1, 1) := by decide +kernel
theorem dJx4a65c_add_7a177_55 : decode cJx4a65c_add_7a177 55 = .ok (.aload_n 2, 1) := by decide +kernel
theorem dJx4a65c_add_7a177_56 : decode cJx4a65c_add_7a177 56 = .ok (.aastore, 1) := by decide +kernel
theorem dJx4a65c_add_7a177_57 : decode cJx4a65c_add_7a177 57 = .ok (.aload_n 0, 1) := by decide +kernel
theorem dJx4a65c_add_7a177_58 : decode cJx4a65c_add_7a177 58 = .ok (.iload_n 3, 1) := by decide +kernel
theorem dJx4a65c_add_7a177_59 : decode cJx4a65c_add_7a177 59 = .ok (.iconst 1, 1) := by decide +kernel
theorem dJx4a65c_add_7a177_60 : decode cJx4a65c_add_7a177 60 = .ok (.iadd, 1) := by decide +kernel
theorem dJx4a65c_add_7a177_61 : decode cJx4a65c_add_7a177 61 = .ok (.putfield 48, 3) := by decide +kernel
theorem dJx4a65c_add_7a177_64 : decode cJx4a65c_add_7a177 64 = .ok (.return_, 1) := by decide +kernel
theorem dJx4a65c_rangeCheckForAdd_d00df_0 : decode cJx4a65c_rangeCheckForAdd_d00df 0 = .ok (.iload_n 1, 1) := by decide +kernel
theorem dJx4a65c_rangeCheckForAdd_d00df_1 : decode cJx4a65c_rangeCheckForAdd_d00df 1 = .ok (.aload_n 0, 1) := by decide +kernel
theorem dJx4a65c_rangeCheckForAdd_d00df_2 : decode cJx4a65c_rangeCheckForAdd_d00df 2 = .ok (.getfield 48, 3) := by decide +kernel
theorem dJx4a65c_rangeCheckForAdd_d00df_5 : decode cJx4a65c_rangeCheckForAdd_d00df 5 = .ok (.if_icmp .gt 7, 3) := by decide +kernel
theorem dJx4a65c_rangeCheckForAdd_d00df_8 : decode cJx4a65c_rangeCheckForAdd_d00df 8 = .ok (.iload_n 1, 1) := by decide +kernel
theorem dJx4a65c_rangeCheckForAdd_d00df_9 : decode cJx4a65c_rangeCheckForAdd_d00df 9 = .ok (.ifCond .ge 16, 3) := by decide +kernel
theorem dJx4a65c_rangeCheckForAdd_d00df_12 : decode cJx4a65c_rangeCheckForAdd_d00df 12 = .ok (.new 187, 3) := by decide +kernel
theorem dJx4a65c_rangeCheckForAdd_d00df_15 : decode cJx4a65c_rangeCheckForAdd_d00df 15 = .ok (.dup, 1) := by decide +kernel
theorem dJx4a65c_rangeCheckForAdd_d00df_16 : decode cJx4a65c_rangeCheckForAdd_d00df 16 = .ok (.aload_n 0, 1) := by decide +kernel
theorem dJx4a65c_rangeCheckForAdd_d00df_17 : decode cJx4a65c_rangeCheckForAdd_d00df 17 = .ok (.iload_n 1, 1) := by decide +kernel
theorem dJx4a65c_rangeCheckForAdd_d00df_18 : decode cJx4a65c_rangeCheckForAdd_d00df 18 = .ok (.invokevirtual 198, 3) := by decide +kernel
theorem dJx4a65c_rangeCheckForAdd_d00df_21 : decode cJx4a65c_rangeCheckForAdd_d00df 21 = .ok (.invokespecial 193, 3) := by decide +kernel
theorem dJx4a65c_rangeCheckForAdd_d00df_24 : decode cJx4a65c_rangeCheckForAdd_d00df 24 = .ok (.athrow, 1) := by decide +kernel
theorem dJx4a65c_rangeCheckForAdd_d00df_25 : decode cJx4a65c_rangeCheckForAdd_d00df 25 = .ok (.return_, 1) := by decide +kernel
theorem dJ7_fill_53178_0 : decode cJ7_fill_53178 0 = .ok (.iconst 0, 1) := by decide +kernel
theorem dJ7_fill_53178_1 : decode cJ7_fill_53178 1 = .ok (.istore_n 2, 1) := by decide +kernel
theorem dJ7_fill_53178_2 : decode cJ7_fill_53178 2 = .ok (.aload_n 0, 1) := by decide +kernel
theorem dJ7_fill_53178_3 : decode cJ7_fill_53178 3 = .ok (.arraylength, 1) := by decide +kernel
theorem dJ7_fill_53178_4 : decode cJ7_fill_53178 4 = .ok (.istore_n 3, 1) := by decide +kernel
theorem dJ7_fill_53178_5 : decode cJ7_fill_53178 5 = .ok (.iload_n 2, 1) := by decide +kernel
theorem dJ7_fill_53178_6 : decode cJ7_fill_53178 6 = .ok (.iload_n 3, 1) := by decide +kernel
theorem dJ7_fill_53178_7 : decode cJ7_fill_53178 7 = .ok (.if_icmp .ge 13, 3) := by decide +kernel
theorem dJ7_fill_53178_10 : decode cJ7_fill_53178 10 = .ok (.aload_n 0, 1) := by decide +kernel
theorem dJ7_fill_53178_11 : decode cJ7_fill_53178 11 = .ok (.iload_n 2, 1) := by decide +kernel
theorem dJ7_fill_53178_12 : decode cJ7_fill_53178 12 = .ok (.iload_n 1, 1) := by decide +kernel
theorem dJ7_fill_53178_13 : decode cJ7_fill_53178 13 = .ok (.iastore, 1) := by decide +kernel
theorem dJ7_fill_53178_14 : decode cJ7_fill_53178 14 = .ok (.iinc 2 1, 3) := by decide +kernel
theorem dJ7_fill_53178_17 : decode cJ7_fill_53178 17 = .ok (.goto (-12), 3) := by decide +kernel
theorem dJ7_fill_53178_20 : decode cJ7_fill_53178 20 = .ok (.return_, 1) := by decide +kernel
theorem dJ7_copyOf_1904c_0 : decode cJ7_copyOf_1904c 0 = .ok (.aload_n 0, 1) := by decide +kernel
theorem dJ7_copyOf_1904c_1 : decode cJ7_copyOf_1904c 1 = .ok (.iload_n 1, 1) := by decide +kernel
theorem dJ7_copyOf_1904c_2 : decode cJ7_copyOf_1904c 2 = .ok (.aload_n 0, 1) := by decide +kernel
theorem dJ7_copyOf_1904c_3 : decode cJ7_copyOf_1904c 3 = .ok (.invokevirtual 86, 3) := by decide +kernel
theorem dJ7_copyOf_1904c_6 : decode cJ7_copyOf_1904c 6 = .ok (.invokestatic 300, 3) := by decide +kernel
theorem dJ7_copyOf_1904c_9 : decode cJ7_copyOf_1904c 9 = .ok (.areturn, 1) := by decide +kernel
theorem dJ7_copyOf_6403c_0 : decode cJ7_copyOf_6403c 0 = .ok (.aload_n 2, 1) := by decide +kernel
theorem dJ7_copyOf_6403c_1 : decode cJ7_copyOf_6403c 1 = .ok (.ldc 110, 2) := by decide +kernel
theorem dJ7_copyOf_6403c_3 : decode cJ7_copyOf_6403c 3 = .ok (.if_acmp .ne 10, 3) := by decide +kernel
theorem dJ7_copyOf_6403c_6 : decode cJ7_copyOf_6403c 6 = .ok (.iload_n 1, 1) := by decide +kernel
theorem dJ7_copyOf_6403c_7 : decode cJ7_copyOf_6403c 7 = .ok (.anewarray 2, 3) := by decide +kernel
theorem dJ7_copyOf_6403c_10 : decode cJ7_copyOf_6403c 10 = .ok (.goto 14, 3) := by decide +kernel
theorem dJ7_copyOf_6403c_13 : decode cJ7_copyOf_6403c 13 = .ok (.aload_n 2, 1) := by decide +kernel
theorem dJ7_copyOf_6403c_14 : decode cJ7_copyOf_6403c 14 = .ok (.invokevirtual 90, 3) := by decide +kernel
theorem dJ7_copyOf_6403c_17 : decode cJ7_copyOf_6403c 17 = .ok (.iload_n 1, 1) := by decide +kernel
theorem dJ7_copyOf_6403c_18 : decode cJ7_copyOf_6403c 18 = .ok (.invokestatic 95, 3) := by decide +kernel
theorem dJ7_copyOf_6403c_21 : decode cJ7_copyOf_6403c 21 = .ok (.checkcast 110, 3) := by decide +kernel
theorem dJ7_copyOf_6403c_24 : decode cJ7_copyOf_6403c 24 = .ok (.astore_n 3, 1) := by decide +kernel
theorem dJ7_copyOf_6403c_25 : decode cJ7_copyOf_6403c 25 = .ok (.aload_n 0, 1) := by decide +kernel
theorem dJ7_copyOf_6403c_26 : decode cJ7_copyOf_6403c 26 = .ok (.iconst 0, 1) := by decide +kernel
theorem dJ7_copyOf_6403c_27 : decode cJ7_copyOf_6403c 27 = .ok (.aload_n 3, 1) := by decide +kernel
theorem dJ7_copyOf_6403c_28 : decode cJ7_copyOf_6403c 28 = .ok (.iconst 0, 1) := by decide +kernel
theorem dJ7_copyOf_6403c_29 : decode cJ7_copyOf_6403c 29 = .ok (.aload_n 0, 1) := by decide +kernel
theorem dJ7_copyOf_6403c_30 : decode cJ7_copyOf_6403c 30 = .ok (.arraylength, 1) := by decide +kernel
theorem dJ7_copyOf_6403c_31 : decode cJ7_copyOf_6403c 31 = .ok (.iload_n 1, 1) := by decide +kernel
theorem dJ7_copyOf_6403c_32 : decode cJ7_copyOf_6403c 32 = .ok (.invokestatic 304, 3) := by decide +kernel
theorem dJ7_copyOf_6403c_35 : decode cJ7_copyOf_6403c 35 = .ok (.invokestatic 150, 3) := by decide +kernel
theorem dJ7_copyOf_6403c_38 : decode cJ7_copyOf_6403c 38 = .ok (.aload_n 3, 1) := by decide +kernel
theorem dJ7_copyOf_6403c_39 : decode cJ7_copyOf_6403c 39 = .ok (.areturn, 1) := by decide +kernel
theorem dJ15_checkIndex_7cf53_0 : decode cJ15_checkIndex_7cf53 0 = .ok (.iload_n 0, 1) := by decide +kernel
theorem dJ15_checkIndex_7cf53_1 : decode cJ15_checkIndex_7cf53 1 = .ok (.iload_n 1, 1) := by decide +kernel
theorem dJ15_checkIndex_7cf53_2 : decode cJ15_checkIndex_7cf53 2 = .ok (.aconst_null, 1) := by decide +kernel
theorem dJ15_checkIndex_7cf53_3 : decode cJ15_checkIndex_7cf53 3 = .ok (.invokestatic 105, 3) := by decide +kernel
theorem dJ15_checkIndex_7cf53_6 : decode cJ15_checkIndex_7cf53 6 = .ok (.ireturn, 1) := by decide +kernel
theorem dJ8_newLength_cabcc_0 : decode cJ8_newLength_cabcc 0 = .ok (.iload_n 0, 1) := by decide +kernel
theorem dJ8_newLength_cabcc_1 : decode cJ8_newLength_cabcc 1 = .ok (.iload_n 1, 1) := by decide +kernel
theorem dJ8_newLength_cabcc_2 : decode cJ8_newLength_cabcc 2 = .ok (.iload_n 2, 1) := by decide +kernel
theorem dJ8_newLength_cabcc_3 : decode cJ8_newLength_cabcc 3 = .ok (.invokestatic 194, 3) := by decide +kernel
theorem dJ8_newLength_cabcc_6 : decode cJ8_newLength_cabcc 6 = .ok (.iadd, 1) := by decide +kernel
theorem dJ8_newLength_cabcc_7 : decode cJ8_newLength_cabcc 7 = .ok (.istore_n 3, 1) := by decide +kernel
theorem dJ8_newLength_cabcc_8 : decode cJ8_newLength_cabcc 8 = .ok (.iconst 0, 1) := by decide +kernel
theorem dJ8_newLength_cabcc_9 : decode cJ8_newLength_cabcc 9 = .ok (.iload_n 3, 1) := by decide +kernel
theorem dJ8_newLength_cabcc_10 : decode cJ8_newLength_cabcc 10 = .ok (.if_icmp .ge 11, 3) := by decide +kernel
theorem dJ8_newLength_cabcc_13 : decode cJ8_newLength_cabcc 13 = .ok (.iload_n 3, 1) := by decide +kernel
theorem dJ8_newLength_cabcc_14 : decode cJ8_newLength_cabcc 14 = .ok (.ldc 200, 2) := by decide +kernel
theorem dJ8_newLength_cabcc_16 : decode cJ8_newLength_cabcc 16 = .ok (.if_icmp .gt 5, 3) := by decide +kernel
theorem dJ8_newLength_cabcc_19 : decode cJ8_newLength_cabcc 19 = .ok (.iload_n 3, 1) := by decide +kernel
theorem dJ8_newLength_cabcc_20 : decode cJ8_newLength_cabcc 20 = .ok (.ireturn, 1) := by decide +kernel
theorem dJ8_newLength_cabcc_21 : decode cJ8_newLength_cabcc 21 = .ok (.iload_n 0, 1) := by decide +kernel
theorem dJ8_newLength_cabcc_22 : decode cJ8_newLength_cabcc 22 = .ok (.iload_n 1, 1) := by decide +kernel
theorem dJ8_newLength_cabcc_23 : decode cJ8_newLength_cabcc 23 = .ok (.invokestatic 201, 3) := by decide +kernel
theorem dJ8_newLength_cabcc_26 : decode cJ8_newLength_cabcc 26 = .ok (.ireturn, 1) := by decide +kernel
theorem dJ8_hugeLength_7cf53_0 : decode cJ8_hugeLength_7cf53 0 = .ok (.iload_n 0, 1) := by decide +kernel
theorem dJ8_hugeLength_7cf53_1 : decode cJ8_hugeLength_7cf53 1 = .ok (.iload_n 1, 1) := by decide +kernel
theorem dJ8_hugeLength_7cf53_2 : decode cJ8_hugeLength_7cf53 2 = .ok (.iadd, 1) := by decide +kernel
theorem dJ8_hugeLength_7cf53_3 : decode cJ8_hugeLength_7cf53 3 = .ok (.istore_n 2, 1) := by decide +kernel
theorem dJ8_hugeLength_7cf53_4 : decode cJ8_hugeLength_7cf53 4 = .ok (.iload_n 2, 1) := by decide +kernel
theorem dJ8_hugeLength_7cf53_5 : decode cJ8_hugeLength_7cf53 5 = .ok (.ifCond .ge 44, 3) := by decide +kernel
theorem dJ8_hugeLength_7cf53_8 : decode cJ8_hugeLength_7cf53 8 = .ok (.new 204, 3) := by decide +kernel
theorem dJ8_hugeLength_7cf53_11 : decode cJ8_hugeLength_7cf53 11 = .ok (.dup, 1) := by decide +kernel
theorem dJ8_hugeLength_7cf53_12 : decode cJ8_hugeLength_7cf53 12 = .ok (.new 89, 3) := by decide +kernel
theorem dJ8_hugeLength_7cf53_15 : decode cJ8_hugeLength_7cf53 15 = .ok (.dup, 1) := by decide +kernel
theorem dJ8_hugeLength_7cf53_16 : decode cJ8_hugeLength_7cf53 16 = .ok (.invokespecial 91, 3) := by decide +kernel
theorem dJ8_hugeLength_7cf53_19 : decode cJ8_hugeLength_7cf53 19 = .ok (.ldc 206, 2) := by decide +kernel
theorem dJ8_hugeLength_7cf53_21 : decode cJ8_hugeLength_7cf53 21 = .ok (.invokevirtual 94, 3) := by decide +kernel
theorem dJ8_hugeLength_7cf53_24 : decode cJ8_hugeLength_7cf53 24 = .ok (.iload_n 0, 1) := by decide +kernel
theorem dJ8_hugeLength_7cf53_25 : decode cJ8_hugeLength_7cf53 25 = .ok (.invokevirtual 98, 3) := by decide +kernel
theorem dJ8_hugeLength_7cf53_28 : decode cJ8_hugeLength_7cf53 28 = .ok (.ldc 208, 2) := by decide +kernel
theorem dJ8_hugeLength_7cf53_30 : decode cJ8_hugeLength_7cf53 30 = .ok (.invokevirtual 94, 3) := by decide +kernel
theorem dJ8_hugeLength_7cf53_33 : decode cJ8_hugeLength_7cf53 33 = .ok (.iload_n 1, 1) := by decide +kernel
theorem dJ8_hugeLength_7cf53_34 : decode cJ8_hugeLength_7cf53 34 = .ok (.invokevirtual 98, 3) := by decide +kernel
theorem dJ8_hugeLength_7cf53_37 : decode cJ8_hugeLength_7cf53 37 = .ok (.ldc 210, 2) := by decide +kernel
theorem dJ8_hugeLength_7cf53_39 : decode cJ8_hugeLength_7cf53 39 = .ok (.invokevirtual 94, 3) := by decide +kernel
theorem dJ8_hugeLength_7cf53_42 : decode cJ8_hugeLength_7cf53 42 = .ok (.invokevirtual 101, 3) := by decide +kernel
theorem dJ8_hugeLength_7cf53_45 : decode cJ8_hugeLength_7cf53 45 = .ok (.invokespecial 212, 3) := by decide +kernel
theorem dJ8_hugeLength_7cf53_48 : decode cJ8_hugeLength_7cf53 48 = .ok (.athrow, 1) := by decide +kernel
theorem dJ8_hugeLength_7cf53_49 : decode cJ8_hugeLength_7cf53 49 = .ok (.iload_n 2, 1) := by decide +kernel
theorem dJ8_hugeLength_7cf53_50 : decode cJ8_hugeLength_7cf53 50 = .ok (.ldc 200, 2) := by decide +kernel
theorem dJ8_hugeLength_7cf53_52 : decode cJ8_hugeLength_7cf53 52 = .ok (.if_icmp .gt 6, 3) := by decide +kernel
theorem dJ8_hugeLength_7cf53_55 : decode cJ8_hugeLength_7cf53 55 = .ok (.ldc 200, 2) := by decide +kernel
theorem dJ8_hugeLength_7cf53_57 : decode cJ8_hugeLength_7cf53 57 = .ok (.ireturn, 1) := by decide +kernel
theorem dJ8_hugeLength_7cf53_58 : decode cJ8_hugeLength_7cf53 58 = .ok (.iload_n 2, 1) := by decide +kernel
theorem dJ8_hugeLength_7cf53_59 : decode cJ8_hugeLength_7cf53 59 = .ok (.ireturn, 1) := by decide +kernel
theorem dJ3_checkIndex_8e157_0 : decode cJ3_checkIndex_8e157 0 = .ok (.iload_n 0, 1) := by decide +kernel
theorem dJ3_checkIndex_8e157_1 : decode cJ3_checkIndex_8e157 1 = .ok (.ifCond .lt 8, 3) := by decide +kernel
theorem dJ3_checkIndex_8e157_4 : decode cJ3_checkIndex_8e157 4 = .ok (.iload_n 0, 1) := by decide +kernel
theorem dJ3_checkIndex_8e157_5 : decode cJ3_checkIndex_8e157 5 = .ok (.iload_n 1, 1) := by decide +kernel
theorem dJ3_checkIndex_8e157_6 : decode cJ3_checkIndex_8e157 6 = .ok (.if_icmp .lt 10, 3) := by decide +kernel
theorem dJ3_checkIndex_8e157_9 : decode cJ3_checkIndex_8e157 9 = .ok (.aload_n 2, 1) := by decide +kernel
theorem dJ3_checkIndex_8e157_10 : decode cJ3_checkIndex_8e157 10 = .ok (.iload_n 0, 1) := by decide +kernel
theorem dJ3_checkIndex_8e157_11 : decode cJ3_checkIndex_8e157 11 = .ok (.iload_n 1, 1) := by decide +kernel
theorem dJ3_checkIndex_8e157_12 : decode cJ3_checkIndex_8e157 12 = .ok (.invokestatic 95, 3) := by decide +kernel
theorem dJ3_checkIndex_8e157_15 : decode cJ3_checkIndex_8e157 15 = .ok (.athrow, 1) := by decide +kernel
theorem dJ3_checkIndex_8e157_16 : decode cJ3_checkIndex_8e157 16 = .ok (.iload_n 0, 1) := by decide +kernel
theorem dJ3_checkIndex_8e157_17 : decode cJ3_checkIndex_8e157 17 = .ok (.ireturn, 1) := by decide +kernel
theorem dL_of_0 : decode cL_of 0 = .ok (.aload_n 3, 1) := by decide +kernel
theorem dL_of_1 : decode cL_of 1 = .ok (.iconst 0, 1) := by decide +kernel
theorem dL_of_2 : decode cL_of 2 = .ok (.aload_n 0, 1) := by decide +kernel
theorem dL_of_3 : decode cL_of 3 = .ok (.iload_n 1, 1) := by decide +kernel
theorem dL_of_4 : decode cL_of 4 = .ok (.iload_n 2, 1) := by decide +kernel
theorem dL_of_5 : decode cL_of 5 = .ok (.invokevirtual 7, 3) := by decide +kernel
theorem dL_of_8 : decode cL_of 8 = .ok (.i2l, 1) := by decide +kernel
theorem dL_of_9 : decode cL_of 9 = .ok (.lastore, 1) := by decide +kernel
theorem dL_of_10 : decode cL_of 10 = .ok (.goto 7, 3) := by decide +kernel
theorem dL_of_13 : decode cL_of 13 = .ok (.astore 4, 2) := by decide +kernel
theorem dL_of_15 : decode cL_of 15 = .ok (.iconst 1, 1) := by decide +kernel
theorem dL_of_16 : decode cL_of 16 = .ok (.ireturn, 1) := by decide +kernel
theorem dL_of_17 : decode cL_of 17 = .ok (.iconst 0, 1) := by decide +kernel
theorem dL_of_18 : decode cL_of 18 = .ok (.ireturn, 1) := by decide +kernel
theorem dL_law_0 : decode cL_law 0 = .ok (.new 8, 3) := by decide +kernel
theorem dL_law_3 : decode cL_law 3 = .ok (.dup, 1) := by decide +kernel
theorem dL_law_4 : decode cL_law 4 = .ok (.invokespecial 15, 3) := by decide +kernel
theorem dL_law_7 : decode cL_law 7 = .ok (.astore_n 1, 1) := by decide +kernel
theorem dL_law_8 : decode cL_law 8 = .ok (.new 16, 3) := by decide +kernel
theorem dL_law_11 : decode cL_law 11 = .ok (.dup, 1) := by decide +kernel
theorem dL_law_12 : decode cL_law 12 = .ok (.invokespecial 18, 3) := by decide +kernel
theorem dL_law_15 : decode cL_law 15 = .ok (.astore_n 2, 1) := by decide +kernel
theorem dL_law_16 : decode cL_law 16 = .ok (.iconst 1, 1) := by decide +kernel
theorem dL_law_17 : decode cL_law 17 = .ok (.newarray .long, 2) := by decide +kernel
theorem dL_law_19 : decode cL_law 19 = .ok (.astore_n 3, 1) := by decide +kernel
theorem dL_law_20 : decode cL_law 20 = .ok (.iconst 0, 1) := by decide +kernel
theorem dL_law_21 : decode cL_law 21 = .ok (.istore 4, 2) := by decide +kernel
theorem dL_law_23 : decode cL_law 23 = .ok (.iload 4, 2) := by decide +kernel
theorem dL_law_25 : decode cL_law 25 = .ok (.aload_n 0, 1) := by decide +kernel
theorem dL_law_26 : decode cL_law 26 = .ok (.arraylength, 1) := by decide +kernel
theorem dL_law_27 : decode cL_law 27 = .ok (.bipush 7, 2) := by decide +kernel
theorem dL_law_29 : decode cL_law 29 = .ok (.isub, 1) := by decide +kernel
theorem dL_law_30 : decode cL_law 30 = .ok (.if_icmp .gt 871, 3) := by decide +kernel
theorem dL_law_33 : decode cL_law 33 = .ok (.aload_n 0, 1) := by decide +kernel
theorem dL_law_34 : decode cL_law 34 = .ok (.iload 4, 2) := by decide +kernel
theorem dL_law_36 : decode cL_law 36 = .ok (.iaload, 1) := by decide +kernel
theorem dL_law_37 : decode cL_law 37 = .ok (.bipush 31, 2) := by decide +kernel
theorem dL_law_39 : decode cL_law 39 = .ok (.iand, 1) := by decide +kernel
theorem dL_law_40 : decode cL_law 40 = .ok (.tableswitch 855 0 21 #[104, 153, 178, 191, 264, 289, 302, 315, 340, 377, 464, 477, 502, 527, 552, 589, 614, 639, 707, 744, 793, 830], 104) := by decide +kernel
theorem dL_law_144 : decode cL_law 144 = .ok (.aload_n 1, 1) := by decide +kernel
theorem dL_law_145 : decode cL_law 145 = .ok (.aload_n 0, 1) := by decide +kernel
theorem dL_law_146 : decode cL_law 146 = .ok (.iload 4, 2) := by decide +kernel
theorem dL_law_148 : decode cL_law 148 = .ok (.iconst 1, 1) := by decide +kernel
theorem dL_law_149 : decode cL_law 149 = .ok (.iadd, 1) := by decide +kernel
theorem dL_law_150 : decode cL_law 150 = .ok (.iaload, 1) := by decide +kernel
theorem dL_law_151 : decode cL_law 151 = .ok (.aload_n 0, 1) := by decide +kernel
theorem dL_law_152 : decode cL_law 152 = .ok (.iload 4, 2) := by decide +kernel
theorem dL_law_154 : decode cL_law 154 = .ok (.iconst 2, 1) := by decide +kernel
theorem dL_law_155 : decode cL_law 155 = .ok (.iadd, 1) := by decide +kernel
theorem dL_law_156 : decode cL_law 156 = .ok (.iaload, 1) := by decide +kernel
theorem dL_law_157 : decode cL_law 157 = .ok (.aload_n 0, 1) := by decide +kernel
theorem dL_law_158 : decode cL_law 158 = .ok (.iload 4, 2) := by decide +kernel
theorem dL_law_160 : decode cL_law 160 = .ok (.iconst 3, 1) := by decide +kernel
theorem dL_law_161 : decode cL_law 161 = .ok (.iadd, 1) := by decide +kernel
theorem dL_law_162 : decode cL_law 162 = .ok (.iaload, 1) := by decide +kernel
theorem dL_law_163 : decode cL_law 163 = .ok (.invokevirtual 19, 3) := by decide +kernel
theorem dL_law_166 : decode cL_law 166 = .ok (.aload_n 2, 1) := by decide +kernel
theorem dL_law_167 : decode cL_law 167 = .ok (.aload_n 0, 1) := by decide +kernel
theorem dL_law_168 : decode cL_law 168 = .ok (.iload 4, 2) := by decide +kernel
theorem dL_law_170 : decode cL_law 170 = .ok (.iconst 1, 1) := by decide +kernel
theorem dL_law_171 : decode cL_law 171 = .ok (.iadd, 1) := by decide +kernel
theorem dL_law_172 : decode cL_law 172 = .ok (.iaload, 1) := by decide +kernel
theorem dL_law_173 : decode cL_law 173 = .ok (.aload_n 0, 1) := by decide +kernel
theorem dL_law_174 : decode cL_law 174 = .ok (.iload 4, 2) := by decide +kernel
theorem dL_law_176 : decode cL_law 176 = .ok (.iconst 2, 1) := by decide +kernel
theorem dL_law_177 : decode cL_law 177 = .ok (.iadd, 1) := by decide +kernel
theorem dL_law_178 : decode cL_law 178 = .ok (.iaload, 1) := by decide +kernel
theorem dL_law_179 : decode cL_law 179 = .ok (.aload_n 0, 1) := by decide +kernel
theorem dL_law_180 : decode cL_law 180 = .ok (.iload 4, 2) := by decide +kernel
theorem dL_law_182 : decode cL_law 182 = .ok (.iconst 3, 1) := by decide +kernel
theorem dL_law_183 : decode cL_law 183 = .ok (.iadd, 1) := by decide +kernel
theorem dL_law_184 : decode cL_law 184 = .ok (.iaload, 1) := by decide +kernel
theorem dL_law_185 : decode cL_law 185 = .ok (.invokevirtual 23, 3) := by decide +kernel
theorem dL_law_188 : decode cL_law 188 = .ok (.if_icmp .eq 707, 3) := by decide +kernel
theorem dL_law_191 : decode cL_law 191 = .ok (.iconst 0, 1) := by decide +kernel
theorem dL_law_192 : decode cL_law 192 = .ok (.ireturn, 1) := by decide +kernel
theorem dL_law_193 : decode cL_law 193 = .ok (.aload_n 1, 1) := by decide +kernel
theorem dL_law_194 : decode cL_law 194 = .ok (.aload_n 0, 1) := by decide +kernel
theorem dL_law_195 : decode cL_law 195 = .ok (.iload 4, 2) := by decide +kernel
theorem dL_law_197 : decode cL_law 197 = .ok (.iconst 1, 1) := by decide +kernel
theorem dL_law_198 : decode cL_law 198 = .ok (.iadd, 1) := by decide +kernel
theorem dL_law_199 : decode cL_law 199 = .ok (.iaload, 1) := by decide +kernel
theorem dL_law_200 : decode cL_law 200 = .ok (.invokevirtual 24, 3) := by decide +kernel
theorem dL_law_203 : decode cL_law 203 = .ok (.aload_n 2, 1) := by decide +kernel
theorem dL_law_204 : decode cL_law 204 = .ok (.aload_n 0, 1) := by decide +kernel
theorem dL_law_205 : decode cL_law 205 = .ok (.iload 4, 2) := by decide +kernel
theorem dL_law_207 : decode cL_law 207 = .ok (.iconst 1, 1) := by decide +kernel
theorem dL_law_208 : decode cL_law 208 = .ok (.iadd, 1) := by decide +kernel
theorem dL_law_209 : decode cL_law 209 = .ok (.iaload, 1) := by decide +kernel
theorem dL_law_210 : decode cL_law 210 = .ok (.invokevirtual 28, 3) := by decide +kernel
theorem dL_law_213 : decode cL_law 213 = .ok (.if_icmp .eq 682, 3) := by decide +kernel
theorem dL_law_216 : decode cL_law 216 = .ok (.iconst 0, 1) := by decide +kernel
theorem dL_law_217 : decode cL_law 217 = .ok (.ireturn, 1) := by decide +kernel
theorem dL_law_218 : decode cL_law 218 = .ok (.aload_n 1, 1) := by decide +kernel
theorem dL_law_219 : decode cL_law 219 = .ok (.invokevirtual 29, 3) := by decide +kernel
theorem dL_law_222 : decode cL_law 222 = .ok (.aload_n 2, 1) := by decide +kernel
theorem dL_law_223 : decode cL_law 223 = .ok (.invokevirtual 33, 3) := by decide +kernel
theorem dL_law_226 : decode cL_law 226 = .ok (.if_icmp .eq 669, 3) := by decide +kernel
theorem dL_law_229 : decode cL_law 229 = .ok (.iconst 0, 1) := by decide +kernel
theorem dL_law_230 : decode cL_law 230 = .ok (.ireturn, 1) := by decide +kernel
theorem dL_law_231 : decode cL_law 231 = .ok (.aload_n 1, 1) := by decide +kernel
theorem dL_law_232 : decode cL_law 232 = .ok (.aload_n 0, 1) := by decide +kernel
theorem dL_law_233 : decode cL_law 233 = .ok (.iload 4, 2) := by decide +kernel
theorem dL_law_235 : decode cL_law 235 = .ok (.iconst 1, 1) := by decide +kernel
theorem dL_law_236 : decode cL_law 236 = .ok (.iadd, 1) := by decide +kernel
theorem dL_law_237 : decode cL_law 237 = .ok (.iaload, 1) := by decide +kernel
theorem dL_law_238 : decode cL_law 238 = .ok (.aload_n 0, 1) := by decide +kernel
theorem dL_law_239 : decode cL_law 239 = .ok (.iload 4, 2) := by decide +kernel
theorem dL_law_241 : decode cL_law 241 = .ok (.iconst 2, 1) := by decide +kernel
theorem dL_law_242 : decode cL_law 242 = .ok (.iadd, 1) := by decide +kernel
theorem dL_law_243 : decode cL_law 243 = .ok (.iaload, 1) := by decide +kernel
theorem dL_law_244 : decode cL_law 244 = .ok (.aload_n 0, 1) := by decide +kernel
theorem dL_law_245 : decode cL_law 245 = .ok (.iload 4, 2) := by decide +kernel
theorem dL_law_247 : decode cL_law 247 = .ok (.iconst 3, 1) := by decide +kernel
theorem dL_law_248 : decode cL_law 248 = .ok (.iadd, 1) := by decide +kernel
theorem dL_law_249 : decode cL_law 249 = .ok (.iaload, 1) := by decide +kernel
theorem dL_law_250 : decode cL_law 250 = .ok (.aload_n 0, 1) := by decide +kernel
theorem dL_law_251 : decode cL_law 251 = .ok (.iload 4, 2) := by decide +kernel
theorem dL_law_253 : decode cL_law 253 = .ok (.iconst 4, 1) := by decide +kernel
theorem dL_law_254 : decode cL_law 254 = .ok (.iadd, 1) := by decide +kernel
theorem dL_law_255 : decode cL_law 255 = .ok (.iaload, 1) := by decide +kernel
theorem dL_law_256 : decode cL_law 256 = .ok (.aload_n 0, 1) := by decide +kernel
theorem dL_law_257 : decode cL_law 257 = .ok (.iload 4, 2) := by decide +kernel
theorem dL_law_259 : decode cL_law 259 = .ok (.iconst 5, 1) := by decide +kernel
theorem dL_law_260 : decode cL_law 260 = .ok (.iadd, 1) := by decide +kernel
theorem dL_law_261 : decode cL_law 261 = .ok (.iaload, 1) := by decide +kernel
theorem dL_law_262 : decode cL_law 262 = .ok (.invokevirtual 34, 3) := by decide +kernel
theorem dL_law_265 : decode cL_law 265 = .ok (.aload_n 2, 1) := by decide +kernel
theorem dL_law_266 : decode cL_law 266 = .ok (.aload_n 0, 1) := by decide +kernel
theorem dL_law_267 : decode cL_law 267 = .ok (.iload 4, 2) := by decide +kernel
theorem dL_law_269 : decode cL_law 269 = .ok (.iconst 1, 1) := by decide +kernel
theorem dL_law_270 : decode cL_law 270 = .ok (.iadd, 1) := by decide +kernel
theorem dL_law_271 : decode cL_law 271 = .ok (.iaload, 1) := by decide +kernel
theorem dL_law_272 : decode cL_law 272 = .ok (.aload_n 0, 1) := by decide +kernel
theorem dL_law_273 : decode cL_law 273 = .ok (.iload 4, 2) := by decide +kernel
theorem dL_law_275 : decode cL_law 275 = .ok (.iconst 2, 1) := by decide +kernel
theorem dL_law_276 : decode cL_law 276 = .ok (.iadd, 1) := by decide +kernel
theorem dL_law_277 : decode cL_law 277 = .ok (.iaload, 1) := by decide +kernel
theorem dL_law_278 : decode cL_law 278 = .ok (.aload_n 0, 1) := by decide +kernel
theorem dL_law_279 : decode cL_law 279 = .ok (.iload 4, 2) := by decide +kernel
theorem dL_law_281 : decode cL_law 281 = .ok (.iconst 3, 1) := by decide +kernel
theorem dL_law_282 : decode cL_law 282 = .ok (.iadd, 1) := by decide +kernel
theorem dL_law_283 : decode cL_law 283 = .ok (.iaload, 1) := by decide +kernel
theorem dL_law_284 : decode cL_law 284 = .ok (.aload_n 0, 1) := by decide +kernel
theorem dL_law_285 : decode cL_law 285 = .ok (.iload 4, 2) := by decide +kernel
theorem dL_law_287 : decode cL_law 287 = .ok (.iconst 4, 1) := by decide +kernel
theorem dL_law_288 : decode cL_law 288 = .ok (.iadd, 1) := by decide +kernel
theorem dL_law_289 : decode cL_law 289 = .ok (.iaload, 1) := by decide +kernel
theorem dL_law_290 : decode cL_law 290 = .ok (.aload_n 0, 1) := by decide +kernel
theorem dL_law_291 : decode cL_law 291 = .ok (.iload 4, 2) := by decide +kernel
theorem dL_law_293 : decode cL_law 293 = .ok (.iconst 5, 1) := by decide +kernel
theorem dL_law_294 : decode cL_law 294 = .ok (.iadd, 1) := by decide +kernel
theorem dL_law_295 : decode cL_law 295 = .ok (.iaload, 1) := by decide +kernel
theorem dL_law_296 : decode cL_law 296 = .ok (.invokevirtual 38, 3) := by decide +kernel
theorem dL_law_299 : decode cL_law 299 = .ok (.if_icmp .eq 596, 3) := by decide +kernel
theorem dL_law_302 : decode cL_law 302 = .ok (.iconst 0, 1) := by decide +kernel
theorem dL_law_303 : decode cL_law 303 = .ok (.ireturn, 1) := by decide +kernel
theorem dL_law_304 : decode cL_law 304 = .ok (.aload_n 1, 1) := by decide +kernel
theorem dL_law_305 : decode cL_law 305 = .ok (.aload_n 0, 1) := by decide +kernel
theorem dL_law_306 : decode cL_law 306 = .ok (.iload 4, 2) := by decide +kernel
theorem dL_law_308 : decode cL_law 308 = .ok (.iconst 1, 1) := by decide +kernel
theorem dL_law_309 : decode cL_law 309 = .ok (.iadd, 1) := by decide +kernel
theorem dL_law_310 : decode cL_law 310 = .ok (.iaload, 1) := by decide +kernel
theorem dL_law_311 : decode cL_law 311 = .ok (.invokevirtual 39, 3) := by decide +kernel
theorem dL_law_314 : decode cL_law 314 = .ok (.aload_n 2, 1) := by decide +kernel
theorem dL_law_315 : decode cL_law 315 = .ok (.aload_n 0, 1) := by decide +kernel
theorem dL_law_316 : decode cL_law 316 = .ok (.iload 4, 2) := by decide +kernel
theorem dL_law_318 : decode cL_law 318 = .ok (.iconst 1, 1) := by decide +kernel
theorem dL_law_319 : decode cL_law 319 = .ok (.iadd, 1) := by decide +kernel
theorem dL_law_320 : decode cL_law 320 = .ok (.iaload, 1) := by decide +kernel
theorem dL_law_321 : decode cL_law 321 = .ok (.invokevirtual 42, 3) := by decide +kernel
theorem dL_law_324 : decode cL_law 324 = .ok (.if_icmp .eq 571, 3) := by decide +kernel
theorem dL_law_327 : decode cL_law 327 = .ok (.iconst 0, 1) := by decide +kernel
theorem dL_law_328 : decode cL_law 328 = .ok (.ireturn, 1) := by decide +kernel
theorem dL_law_329 : decode cL_law 329 = .ok (.aload_n 1, 1) := by decide +kernel
theorem dL_law_330 : decode cL_law 330 = .ok (.invokevirtual 43, 3) := by decide +kernel
theorem dL_law_333 : decode cL_law 333 = .ok (.aload_n 2, 1) := by decide +kernel
theorem dL_law_334 : decode cL_law 334 = .ok (.invokevirtual 46, 3) := by decide +kernel
theorem dL_law_337 : decode cL_law 337 = .ok (.if_icmp .eq 558, 3) := by decide +kernel
theorem dL_law_340 : decode cL_law 340 = .ok (.iconst 0, 1) := by decide +kernel
theorem dL_law_341 : decode cL_law 341 = .ok (.ireturn, 1) := by decide +kernel
theorem dL_law_342 : decode cL_law 342 = .ok (.aload_n 1, 1) := by decide +kernel
theorem dL_law_343 : decode cL_law 343 = .ok (.invokevirtual 47, 3) := by decide +kernel
theorem dL_law_346 : decode cL_law 346 = .ok (.aload_n 2, 1) := by decide +kernel
theorem dL_law_347 : decode cL_law 347 = .ok (.invokevirtual 50, 3) := by decide +kernel
theorem dL_law_350 : decode cL_law 350 = .ok (.if_icmp .eq 545, 3) := by decide +kernel
theorem dL_law_353 : decode cL_law 353 = .ok (.iconst 0, 1) := by decide +kernel
theorem dL_law_354 : decode cL_law 354 = .ok (.ireturn, 1) := by decide +kernel
theorem dL_law_355 : decode cL_law 355 = .ok (.aload_n 1, 1) := by decide +kernel
theorem dL_law_356 : decode cL_law 356 = .ok (.aload_n 0, 1) := by decide +kernel
theorem dL_law_357 : decode cL_law 357 = .ok (.iload 4, 2) := by decide +kernel
theorem dL_law_359 : decode cL_law 359 = .ok (.iconst 1, 1) := by decide +kernel
theorem dL_law_360 : decode cL_law 360 = .ok (.iadd, 1) := by decide +kernel
theorem dL_law_361 : decode cL_law 361 = .ok (.iaload, 1) := by decide +kernel
theorem dL_law_362 : decode cL_law 362 = .ok (.invokevirtual 51, 3) := by decide +kernel
theorem dL_law_365 : decode cL_law 365 = .ok (.aload_n 2, 1) := by decide +kernel
theorem dL_law_366 : decode cL_law 366 = .ok (.aload_n 0, 1) := by decide +kernel
theorem dL_law_367 : decode cL_law 367 = .ok (.iload 4, 2) := by decide +kernel
theorem dL_law_369 : decode cL_law 369 = .ok (.iconst 1, 1) := by decide +kernel
theorem dL_law_370 : decode cL_law 370 = .ok (.iadd, 1) := by decide +kernel
theorem dL_law_371 : decode cL_law 371 = .ok (.iaload, 1) := by decide +kernel
theorem dL_law_372 : decode cL_law 372 = .ok (.invokevirtual 55, 3) := by decide +kernel
theorem dL_law_375 : decode cL_law 375 = .ok (.if_icmp .eq 520, 3) := by decide +kernel
theorem dL_law_378 : decode cL_law 378 = .ok (.iconst 0, 1) := by decide +kernel
theorem dL_law_379 : decode cL_law 379 = .ok (.ireturn, 1) := by decide +kernel
theorem dL_law_380 : decode cL_law 380 = .ok (.aload_n 1, 1) := by decide +kernel
theorem dL_law_381 : decode cL_law 381 = .ok (.aload_n 0, 1) := by decide +kernel
theorem dL_law_382 : decode cL_law 382 = .ok (.iload 4, 2) := by decide +kernel
theorem dL_law_384 : decode cL_law 384 = .ok (.iconst 1, 1) := by decide +kernel
theorem dL_law_385 : decode cL_law 385 = .ok (.iadd, 1) := by decide +kernel
theorem dL_law_386 : decode cL_law 386 = .ok (.iaload, 1) := by decide +kernel
theorem dL_law_387 : decode cL_law 387 = .ok (.aload_n 0, 1) := by decide +kernel
theorem dL_law_388 : decode cL_law 388 = .ok (.iload 4, 2) := by decide +kernel
theorem dL_law_390 : decode cL_law 390 = .ok (.iconst 2, 1) := by decide +kernel
theorem dL_law_391 : decode cL_law 391 = .ok (.iadd, 1) := by decide +kernel
theorem dL_law_392 : decode cL_law 392 = .ok (.iaload, 1) := by decide +kernel
theorem dL_law_393 : decode cL_law 393 = .ok (.invokevirtual 56, 3) := by decide +kernel
theorem dL_law_396 : decode cL_law 396 = .ok (.aload_n 2, 1) := by decide +kernel
theorem dL_law_397 : decode cL_law 397 = .ok (.aload_n 0, 1) := by decide +kernel
theorem dL_law_398 : decode cL_law 398 = .ok (.iload 4, 2) := by decide +kernel
theorem dL_law_400 : decode cL_law 400 = .ok (.iconst 1, 1) := by decide +kernel
theorem dL_law_401 : decode cL_law 401 = .ok (.iadd, 1) := by decide +kernel
theorem dL_law_402 : decode cL_law 402 = .ok (.iaload, 1) := by decide +kernel
theorem dL_law_403 : decode cL_law 403 = .ok (.aload_n 0, 1) := by decide +kernel
theorem dL_law_404 : decode cL_law 404 = .ok (.iload 4, 2) := by decide +kernel
theorem dL_law_406 : decode cL_law 406 = .ok (.iconst 2, 1) := by decide +kernel
theorem dL_law_407 : decode cL_law 407 = .ok (.iadd, 1) := by decide +kernel
theorem dL_law_408 : decode cL_law 408 = .ok (.iaload, 1) := by decide +kernel
theorem dL_law_409 : decode cL_law 409 = .ok (.invokevirtual 59, 3) := by decide +kernel
theorem dL_law_412 : decode cL_law 412 = .ok (.if_icmp .eq 483, 3) := by decide +kernel
theorem dL_law_415 : decode cL_law 415 = .ok (.iconst 0, 1) := by decide +kernel
theorem dL_law_416 : decode cL_law 416 = .ok (.ireturn, 1) := by decide +kernel
theorem dL_law_417 : decode cL_law 417 = .ok (.aload_n 1, 1) := by decide +kernel
theorem dL_law_418 : decode cL_law 418 = .ok (.aload_n 0, 1) := by decide +kernel
theorem dL_law_419 : decode cL_law 419 = .ok (.iload 4, 2) := by decide +kernel
theorem dL_law_421 : decode cL_law 421 = .ok (.iconst 1, 1) := by decide +kernel
theorem dL_law_422 : decode cL_law 422 = .ok (.iadd, 1) := by decide +kernel
theorem dL_law_423 : decode cL_law 423 = .ok (.iaload, 1) := by decide +kernel
theorem dL_law_424 : decode cL_law 424 = .ok (.aload_n 0, 1) := by decide +kernel
theorem dL_law_425 : decode cL_law 425 = .ok (.iload 4, 2) := by decide +kernel
theorem dL_law_427 : decode cL_law 427 = .ok (.iconst 2, 1) := by decide +kernel
theorem dL_law_428 : decode cL_law 428 = .ok (.iadd, 1) := by decide +kernel
theorem dL_law_429 : decode cL_law 429 = .ok (.iaload, 1) := by decide +kernel
theorem dL_law_430 : decode cL_law 430 = .ok (.aload_n 0, 1) := by decide +kernel
theorem dL_law_431 : decode cL_law 431 = .ok (.iload 4, 2) := by decide +kernel
theorem dL_law_433 : decode cL_law 433 = .ok (.iconst 3, 1) := by decide +kernel
theorem dL_law_434 : decode cL_law 434 = .ok (.iadd, 1) := by decide +kernel
theorem dL_law_435 : decode cL_law 435 = .ok (.iaload, 1) := by decide +kernel
theorem dL_law_436 : decode cL_law 436 = .ok (.aload_n 0, 1) := by decide +kernel
theorem dL_law_437 : decode cL_law 437 = .ok (.iload 4, 2) := by decide +kernel
theorem dL_law_439 : decode cL_law 439 = .ok (.iconst 4, 1) := by decide +kernel
theorem dL_law_440 : decode cL_law 440 = .ok (.iadd, 1) := by decide +kernel
theorem dL_law_441 : decode cL_law 441 = .ok (.iaload, 1) := by decide +kernel
theorem dL_law_442 : decode cL_law 442 = .ok (.aload_n 0, 1) := by decide +kernel
theorem dL_law_443 : decode cL_law 443 = .ok (.iload 4, 2) := by decide +kernel
theorem dL_law_445 : decode cL_law 445 = .ok (.iconst 5, 1) := by decide +kernel
theorem dL_law_446 : decode cL_law 446 = .ok (.iadd, 1) := by decide +kernel
theorem dL_law_447 : decode cL_law 447 = .ok (.iaload, 1) := by decide +kernel
theorem dL_law_448 : decode cL_law 448 = .ok (.aload_n 0, 1) := by decide +kernel
theorem dL_law_449 : decode cL_law 449 = .ok (.iload 4, 2) := by decide +kernel
theorem dL_law_451 : decode cL_law 451 = .ok (.bipush 6, 2) := by decide +kernel
theorem dL_law_453 : decode cL_law 453 = .ok (.iadd, 1) := by decide +kernel
theorem dL_law_454 : decode cL_law 454 = .ok (.iaload, 1) := by decide +kernel
theorem dL_law_455 : decode cL_law 455 = .ok (.invokevirtual 60, 3) := by decide +kernel
theorem dL_law_458 : decode cL_law 458 = .ok (.aload_n 2, 1) := by decide +kernel
theorem dL_law_459 : decode cL_law 459 = .ok (.aload_n 0, 1) := by decide +kernel
theorem dL_law_460 : decode cL_law 460 = .ok (.iload 4, 2) := by decide +kernel
theorem dL_law_462 : decode cL_law 462 = .ok (.iconst 1, 1) := by decide +kernel
theorem dL_law_463 : decode cL_law 463 = .ok (.iadd, 1) := by decide +kernel
theorem dL_law_464 : decode cL_law 464 = .ok (.iaload, 1) := by decide +kernel
theorem dL_law_465 : decode cL_law 465 = .ok (.aload_n 0, 1) := by decide +kernel
theorem dL_law_466 : decode cL_law 466 = .ok (.iload 4, 2) := by decide +kernel
theorem dL_law_468 : decode cL_law 468 = .ok (.iconst 2, 1) := by decide +kernel
theorem dL_law_469 : decode cL_law 469 = .ok (.iadd, 1) := by decide +kernel
theorem dL_law_470 : decode cL_law 470 = .ok (.iaload, 1) := by decide +kernel
theorem dL_law_471 : decode cL_law 471 = .ok (.aload_n 0, 1) := by decide +kernel
theorem dL_law_472 : decode cL_law 472 = .ok (.iload 4, 2) := by decide +kernel
theorem dL_law_474 : decode cL_law 474 = .ok (.iconst 3, 1) := by decide +kernel
theorem dL_law_475 : decode cL_law 475 = .ok (.iadd, 1) := by decide +kernel
theorem dL_law_476 : decode cL_law 476 = .ok (.iaload, 1) := by decide +kernel
theorem dL_law_477 : decode cL_law 477 = .ok (.aload_n 0, 1) := by decide +kernel
theorem dL_law_478 : decode cL_law 478 = .ok (.iload 4, 2) := by decide +kernel
theorem dL_law_480 : decode cL_law 480 = .ok (.iconst 4, 1) := by decide +kernel
theorem dL_law_481 : decode cL_law 481 = .ok (.iadd, 1) := by decide +kernel
theorem dL_law_482 : decode cL_law 482 = .ok (.iaload, 1) := by decide +kernel
theorem dL_law_483 : decode cL_law 483 = .ok (.aload_n 0, 1) := by decide +kernel
theorem dL_law_484 : decode cL_law 484 = .ok (.iload 4, 2) := by decide +kernel
theorem dL_law_486 : decode cL_law 486 = .ok (.iconst 5, 1) := by decide +kernel
theorem dL_law_487 : decode cL_law 487 = .ok (.iadd, 1) := by decide +kernel
theorem dL_law_488 : decode cL_law 488 = .ok (.iaload, 1) := by decide +kernel
theorem dL_law_489 : decode cL_law 489 = .ok (.aload_n 0, 1) := by decide +kernel
theorem dL_law_490 : decode cL_law 490 = .ok (.iload 4, 2) := by decide +kernel
theorem dL_law_492 : decode cL_law 492 = .ok (.bipush 6, 2) := by decide +kernel
theorem dL_law_494 : decode cL_law 494 = .ok (.iadd, 1) := by decide +kernel
theorem dL_law_495 : decode cL_law 495 = .ok (.iaload, 1) := by decide +kernel
theorem dL_law_496 : decode cL_law 496 = .ok (.invokevirtual 64, 3) := by decide +kernel
theorem dL_law_499 : decode cL_law 499 = .ok (.if_icmp .eq 396, 3) := by decide +kernel
theorem dL_law_502 : decode cL_law 502 = .ok (.iconst 0, 1) := by decide +kernel
theorem dL_law_503 : decode cL_law 503 = .ok (.ireturn, 1) := by decide +kernel
theorem dL_law_504 : decode cL_law 504 = .ok (.aload_n 1, 1) := by decide +kernel
theorem dL_law_505 : decode cL_law 505 = .ok (.invokevirtual 65, 3) := by decide +kernel
theorem dL_law_508 : decode cL_law 508 = .ok (.aload_n 2, 1) := by decide +kernel
theorem dL_law_509 : decode cL_law 509 = .ok (.invokevirtual 68, 3) := by decide +kernel
theorem dL_law_512 : decode cL_law 512 = .ok (.if_icmp .eq 383, 3) := by decide +kernel
theorem dL_law_515 : decode cL_law 515 = .ok (.iconst 0, 1) := by decide +kernel
theorem dL_law_516 : decode cL_law 516 = .ok (.ireturn, 1) := by decide +kernel
theorem dL_law_517 : decode cL_law 517 = .ok (.aload_n 1, 1) := by decide +kernel
theorem dL_law_518 : decode cL_law 518 = .ok (.aload_n 0, 1) := by decide +kernel
theorem dL_law_519 : decode cL_law 519 = .ok (.iload 4, 2) := by decide +kernel
theorem dL_law_521 : decode cL_law 521 = .ok (.iconst 1, 1) := by decide +kernel
theorem dL_law_522 : decode cL_law 522 = .ok (.iadd, 1) := by decide +kernel
theorem dL_law_523 : decode cL_law 523 = .ok (.iaload, 1) := by decide +kernel
theorem dL_law_524 : decode cL_law 524 = .ok (.invokevirtual 69, 3) := by decide +kernel
theorem dL_law_527 : decode cL_law 527 = .ok (.aload_n 2, 1) := by decide +kernel
theorem dL_law_528 : decode cL_law 528 = .ok (.aload_n 0, 1) := by decide +kernel
theorem dL_law_529 : decode cL_law 529 = .ok (.iload 4, 2) := by decide +kernel
theorem dL_law_531 : decode cL_law 531 = .ok (.iconst 1, 1) := by decide +kernel
theorem dL_law_532 : decode cL_law 532 = .ok (.iadd, 1) := by decide +kernel
theorem dL_law_533 : decode cL_law 533 = .ok (.iaload, 1) := by decide +kernel
theorem dL_law_534 : decode cL_law 534 = .ok (.invokevirtual 72, 3) := by decide +kernel
theorem dL_law_537 : decode cL_law 537 = .ok (.if_icmp .eq 358, 3) := by decide +kernel
theorem dL_law_540 : decode cL_law 540 = .ok (.iconst 0, 1) := by decide +kernel
theorem dL_law_541 : decode cL_law 541 = .ok (.ireturn, 1) := by decide +kernel
theorem dL_law_542 : decode cL_law 542 = .ok (.aload_n 1, 1) := by decide +kernel
theorem dL_law_543 : decode cL_law 543 = .ok (.aload_n 0, 1) := by decide +kernel
theorem dL_law_544 : decode cL_law 544 = .ok (.iload 4, 2) := by decide +kernel
theorem dL_law_546 : decode cL_law 546 = .ok (.iconst 1, 1) := by decide +kernel
theorem dL_law_547 : decode cL_law 547 = .ok (.iadd, 1) := by decide +kernel
theorem dL_law_548 : decode cL_law 548 = .ok (.iaload, 1) := by decide +kernel
theorem dL_law_549 : decode cL_law 549 = .ok (.invokevirtual 73, 3) := by decide +kernel
theorem dL_law_552 : decode cL_law 552 = .ok (.aload_n 2, 1) := by decide +kernel
theorem dL_law_553 : decode cL_law 553 = .ok (.aload_n 0, 1) := by decide +kernel
theorem dL_law_554 : decode cL_law 554 = .ok (.iload 4, 2) := by decide +kernel
theorem dL_law_556 : decode cL_law 556 = .ok (.iconst 1, 1) := by decide +kernel
theorem dL_law_557 : decode cL_law 557 = .ok (.iadd, 1) := by decide +kernel
theorem dL_law_558 : decode cL_law 558 = .ok (.iaload, 1) := by decide +kernel
theorem dL_law_559 : decode cL_law 559 = .ok (.invokevirtual 76, 3) := by decide +kernel
theorem dL_law_562 : decode cL_law 562 = .ok (.if_icmp .eq 333, 3) := by decide +kernel
theorem dL_law_565 : decode cL_law 565 = .ok (.iconst 0, 1) := by decide +kernel
theorem dL_law_566 : decode cL_law 566 = .ok (.ireturn, 1) := by decide +kernel
theorem dL_law_567 : decode cL_law 567 = .ok (.aload_n 1, 1) := by decide +kernel
theorem dL_law_568 : decode cL_law 568 = .ok (.aload_n 0, 1) := by decide +kernel
theorem dL_law_569 : decode cL_law 569 = .ok (.iload 4, 2) := by decide +kernel
theorem dL_law_571 : decode cL_law 571 = .ok (.iconst 1, 1) := by decide +kernel
theorem dL_law_572 : decode cL_law 572 = .ok (.iadd, 1) := by decide +kernel
theorem dL_law_573 : decode cL_law 573 = .ok (.iaload, 1) := by decide +kernel
theorem dL_law_574 : decode cL_law 574 = .ok (.invokevirtual 77, 3) := by decide +kernel
theorem dL_law_577 : decode cL_law 577 = .ok (.aload_n 2, 1) := by decide +kernel
theorem dL_law_578 : decode cL_law 578 = .ok (.aload_n 0, 1) := by decide +kernel
theorem dL_law_579 : decode cL_law 579 = .ok (.iload 4, 2) := by decide +kernel
theorem dL_law_581 : decode cL_law 581 = .ok (.iconst 1, 1) := by decide +kernel
theorem dL_law_582 : decode cL_law 582 = .ok (.iadd, 1) := by decide +kernel
theorem dL_law_583 : decode cL_law 583 = .ok (.iaload, 1) := by decide +kernel
theorem dL_law_584 : decode cL_law 584 = .ok (.invokevirtual 80, 3) := by decide +kernel
theorem dL_law_587 : decode cL_law 587 = .ok (.if_icmp .eq 308, 3) := by decide +kernel
theorem dL_law_590 : decode cL_law 590 = .ok (.iconst 0, 1) := by decide +kernel
theorem dL_law_591 : decode cL_law 591 = .ok (.ireturn, 1) := by decide +kernel
theorem dL_law_592 : decode cL_law 592 = .ok (.aload_n 1, 1) := by decide +kernel
theorem dL_law_593 : decode cL_law 593 = .ok (.aload_n 0, 1) := by decide +kernel
theorem dL_law_594 : decode cL_law 594 = .ok (.iload 4, 2) := by decide +kernel
theorem dL_law_596 : decode cL_law 596 = .ok (.iconst 1, 1) := by decide +kernel
theorem dL_law_597 : decode cL_law 597 = .ok (.iadd, 1) := by decide +kernel
theorem dL_law_598 : decode cL_law 598 = .ok (.iaload, 1) := by decide +kernel
theorem dL_law_599 : decode cL_law 599 = .ok (.aload_n 0, 1) := by decide +kernel
theorem dL_law_600 : decode cL_law 600 = .ok (.iload 4, 2) := by decide +kernel
theorem dL_law_602 : decode cL_law 602 = .ok (.iconst 2, 1) := by decide +kernel
theorem dL_law_603 : decode cL_law 603 = .ok (.iadd, 1) := by decide +kernel
theorem dL_law_604 : decode cL_law 604 = .ok (.iaload, 1) := by decide +kernel
theorem dL_law_605 : decode cL_law 605 = .ok (.invokevirtual 81, 3) := by decide +kernel
theorem dL_law_608 : decode cL_law 608 = .ok (.aload_n 2, 1) := by decide +kernel
theorem dL_law_609 : decode cL_law 609 = .ok (.aload_n 0, 1) := by decide +kernel
theorem dL_law_610 : decode cL_law 610 = .ok (.iload 4, 2) := by decide +kernel
theorem dL_law_612 : decode cL_law 612 = .ok (.iconst 1, 1) := by decide +kernel
theorem dL_law_613 : decode cL_law 613 = .ok (.iadd, 1) := by decide +kernel
theorem dL_law_614 : decode cL_law 614 = .ok (.iaload, 1) := by decide +kernel
theorem dL_law_615 : decode cL_law 615 = .ok (.aload_n 0, 1) := by decide +kernel
theorem dL_law_616 : decode cL_law 616 = .ok (.iload 4, 2) := by decide +kernel
theorem dL_law_618 : decode cL_law 618 = .ok (.iconst 2, 1) := by decide +kernel
theorem dL_law_619 : decode cL_law 619 = .ok (.iadd, 1) := by decide +kernel
theorem dL_law_620 : decode cL_law 620 = .ok (.iaload, 1) := by decide +kernel
theorem dL_law_621 : decode cL_law 621 = .ok (.invokevirtual 84, 3) := by decide +kernel
theorem dL_law_624 : decode cL_law 624 = .ok (.if_icmp .eq 271, 3) := by decide +kernel
theorem dL_law_627 : decode cL_law 627 = .ok (.iconst 0, 1) := by decide +kernel
theorem dL_law_628 : decode cL_law 628 = .ok (.ireturn, 1) := by decide +kernel
theorem dL_law_629 : decode cL_law 629 = .ok (.aload_n 1, 1) := by decide +kernel
theorem dL_law_630 : decode cL_law 630 = .ok (.aload_n 0, 1) := by decide +kernel
theorem dL_law_631 : decode cL_law 631 = .ok (.iload 4, 2) := by decide +kernel
theorem dL_law_633 : decode cL_law 633 = .ok (.iconst 1, 1) := by decide +kernel
theorem dL_law_634 : decode cL_law 634 = .ok (.iadd, 1) := by decide +kernel
theorem dL_law_635 : decode cL_law 635 = .ok (.iaload, 1) := by decide +kernel
theorem dL_law_636 : decode cL_law 636 = .ok (.invokevirtual 85, 3) := by decide +kernel
theorem dL_law_639 : decode cL_law 639 = .ok (.aload_n 2, 1) := by decide +kernel
theorem dL_law_640 : decode cL_law 640 = .ok (.aload_n 0, 1) := by decide +kernel
theorem dL_law_641 : decode cL_law 641 = .ok (.iload 4, 2) := by decide +kernel
theorem dL_law_643 : decode cL_law 643 = .ok (.iconst 1, 1) := by decide +kernel
theorem dL_law_644 : decode cL_law 644 = .ok (.iadd, 1) := by decide +kernel
theorem dL_law_645 : decode cL_law 645 = .ok (.iaload, 1) := by decide +kernel
theorem dL_law_646 : decode cL_law 646 = .ok (.invokevirtual 88, 3) := by decide +kernel
theorem dL_law_649 : decode cL_law 649 = .ok (.if_icmp .eq 246, 3) := by decide +kernel
theorem dL_law_652 : decode cL_law 652 = .ok (.iconst 0, 1) := by decide +kernel
theorem dL_law_653 : decode cL_law 653 = .ok (.ireturn, 1) := by decide +kernel
theorem dL_law_654 : decode cL_law 654 = .ok (.aload_n 1, 1) := by decide +kernel
theorem dL_law_655 : decode cL_law 655 = .ok (.aload_n 0, 1) := by decide +kernel
theorem dL_law_656 : decode cL_law 656 = .ok (.iload 4, 2) := by decide +kernel
theorem dL_law_658 : decode cL_law 658 = .ok (.iconst 1, 1) := by decide +kernel
theorem dL_law_659 : decode cL_law 659 = .ok (.iadd, 1) := by decide +kernel
theorem dL_law_660 : decode cL_law 660 = .ok (.iaload, 1) := by decide +kernel
theorem dL_law_661 : decode cL_law 661 = .ok (.invokevirtual 89, 3) := by decide +kernel
theorem dL_law_664 : decode cL_law 664 = .ok (.aload_n 2, 1) := by decide +kernel
theorem dL_law_665 : decode cL_law 665 = .ok (.aload_n 0, 1) := by decide +kernel
theorem dL_law_666 : decode cL_law 666 = .ok (.iload 4, 2) := by decide +kernel
theorem dL_law_668 : decode cL_law 668 = .ok (.iconst 1, 1) := by decide +kernel
theorem dL_law_669 : decode cL_law 669 = .ok (.iadd, 1) := by decide +kernel
theorem dL_law_670 : decode cL_law 670 = .ok (.iaload, 1) := by decide +kernel
theorem dL_law_671 : decode cL_law 671 = .ok (.invokevirtual 92, 3) := by decide +kernel
theorem dL_law_674 : decode cL_law 674 = .ok (.if_icmp .eq 221, 3) := by decide +kernel
theorem dL_law_677 : decode cL_law 677 = .ok (.iconst 0, 1) := by decide +kernel
theorem dL_law_678 : decode cL_law 678 = .ok (.ireturn, 1) := by decide +kernel
theorem dL_law_679 : decode cL_law 679 = .ok (.aload_n 1, 1) := by decide +kernel
theorem dL_law_680 : decode cL_law 680 = .ok (.aload_n 0, 1) := by decide +kernel
theorem dL_law_681 : decode cL_law 681 = .ok (.iload 4, 2) := by decide +kernel
theorem dL_law_683 : decode cL_law 683 = .ok (.iconst 1, 1) := by decide +kernel
theorem dL_law_684 : decode cL_law 684 = .ok (.iadd, 1) := by decide +kernel
theorem dL_law_685 : decode cL_law 685 = .ok (.iaload, 1) := by decide +kernel
theorem dL_law_686 : decode cL_law 686 = .ok (.aload_n 0, 1) := by decide +kernel
theorem dL_law_687 : decode cL_law 687 = .ok (.iload 4, 2) := by decide +kernel
theorem dL_law_689 : decode cL_law 689 = .ok (.iconst 2, 1) := by decide +kernel
theorem dL_law_690 : decode cL_law 690 = .ok (.iadd, 1) := by decide +kernel
theorem dL_law_691 : decode cL_law 691 = .ok (.iaload, 1) := by decide +kernel
theorem dL_law_692 : decode cL_law 692 = .ok (.aload_n 3, 1) := by decide +kernel
theorem dL_law_693 : decode cL_law 693 = .ok (.invokestatic 93, 3) := by decide +kernel
theorem dL_law_696 : decode cL_law 696 = .ok (.istore 5, 2) := by decide +kernel
theorem dL_law_698 : decode cL_law 698 = .ok (.aload_n 2, 1) := by decide +kernel
theorem dL_law_699 : decode cL_law 699 = .ok (.aload_n 0, 1) := by decide +kernel
theorem dL_law_700 : decode cL_law 700 = .ok (.iload 4, 2) := by decide +kernel
theorem dL_law_702 : decode cL_law 702 = .ok (.iconst 1, 1) := by decide +kernel
theorem dL_law_703 : decode cL_law 703 = .ok (.iadd, 1) := by decide +kernel
theorem dL_law_704 : decode cL_law 704 = .ok (.iaload, 1) := by decide +kernel
theorem dL_law_705 : decode cL_law 705 = .ok (.aload_n 0, 1) := by decide +kernel
theorem dL_law_706 : decode cL_law 706 = .ok (.iload 4, 2) := by decide +kernel
theorem dL_law_708 : decode cL_law 708 = .ok (.iconst 2, 1) := by decide +kernel
theorem dL_law_709 : decode cL_law 709 = .ok (.iadd, 1) := by decide +kernel
theorem dL_law_710 : decode cL_law 710 = .ok (.iaload, 1) := by decide +kernel
theorem dL_law_711 : decode cL_law 711 = .ok (.invokevirtual 98, 3) := by decide +kernel
theorem dL_law_714 : decode cL_law 714 = .ok (.istore 6, 2) := by decide +kernel
theorem dL_law_716 : decode cL_law 716 = .ok (.aload_n 2, 1) := by decide +kernel
theorem dL_law_717 : decode cL_law 717 = .ok (.invokevirtual 99, 3) := by decide +kernel
theorem dL_law_720 : decode cL_law 720 = .ok (.iload 5, 2) := by decide +kernel
theorem dL_law_722 : decode cL_law 722 = .ok (.if_icmp .eq 5, 3) := by decide +kernel
theorem dL_law_725 : decode cL_law 725 = .ok (.iconst 0, 1) := by decide +kernel
theorem dL_law_726 : decode cL_law 726 = .ok (.ireturn, 1) := by decide +kernel
theorem dL_law_727 : decode cL_law 727 = .ok (.iload 5, 2) := by decide +kernel
theorem dL_law_729 : decode cL_law 729 = .ok (.ifCond .ne 15, 3) := by decide +kernel
theorem dL_law_732 : decode cL_law 732 = .ok (.aload_n 3, 1) := by decide +kernel
theorem dL_law_733 : decode cL_law 733 = .ok (.iconst 0, 1) := by decide +kernel
theorem dL_law_734 : decode cL_law 734 = .ok (.laload, 1) := by decide +kernel
theorem dL_law_735 : decode cL_law 735 = .ok (.iload 6, 2) := by decide +kernel
theorem dL_law_737 : decode cL_law 737 = .ok (.i2l, 1) := by decide +kernel
theorem dL_law_738 : decode cL_law 738 = .ok (.lcmp, 1) := by decide +kernel
theorem dL_law_739 : decode cL_law 739 = .ok (.ifCond .eq 5, 3) := by decide +kernel
theorem dL_law_742 : decode cL_law 742 = .ok (.iconst 0, 1) := by decide +kernel
theorem dL_law_743 : decode cL_law 743 = .ok (.ireturn, 1) := by decide +kernel
theorem dL_law_744 : decode cL_law 744 = .ok (.goto 151, 3) := by decide +kernel
theorem dL_law_747 : decode cL_law 747 = .ok (.aload_n 1, 1) := by decide +kernel
theorem dL_law_748 : decode cL_law 748 = .ok (.aload_n 0, 1) := by decide +kernel
theorem dL_law_749 : decode cL_law 749 = .ok (.iload 4, 2) := by decide +kernel
theorem dL_law_751 : decode cL_law 751 = .ok (.iconst 1, 1) := by decide +kernel
theorem dL_law_752 : decode cL_law 752 = .ok (.iadd, 1) := by decide +kernel
theorem dL_law_753 : decode cL_law 753 = .ok (.iaload, 1) := by decide +kernel
theorem dL_law_754 : decode cL_law 754 = .ok (.aload_n 0, 1) := by decide +kernel
theorem dL_law_755 : decode cL_law 755 = .ok (.iload 4, 2) := by decide +kernel
theorem dL_law_757 : decode cL_law 757 = .ok (.iconst 2, 1) := by decide +kernel
theorem dL_law_758 : decode cL_law 758 = .ok (.iadd, 1) := by decide +kernel
theorem dL_law_759 : decode cL_law 759 = .ok (.iaload, 1) := by decide +kernel
theorem dL_law_760 : decode cL_law 760 = .ok (.invokevirtual 102, 3) := by decide +kernel
theorem dL_law_763 : decode cL_law 763 = .ok (.aload_n 2, 1) := by decide +kernel
theorem dL_law_764 : decode cL_law 764 = .ok (.aload_n 0, 1) := by decide +kernel
theorem dL_law_765 : decode cL_law 765 = .ok (.iload 4, 2) := by decide +kernel
theorem dL_law_767 : decode cL_law 767 = .ok (.iconst 1, 1) := by decide +kernel
theorem dL_law_768 : decode cL_law 768 = .ok (.iadd, 1) := by decide +kernel
theorem dL_law_769 : decode cL_law 769 = .ok (.iaload, 1) := by decide +kernel
theorem dL_law_770 : decode cL_law 770 = .ok (.aload_n 0, 1) := by decide +kernel
theorem dL_law_771 : decode cL_law 771 = .ok (.iload 4, 2) := by decide +kernel
theorem dL_law_773 : decode cL_law 773 = .ok (.iconst 2, 1) := by decide +kernel
theorem dL_law_774 : decode cL_law 774 = .ok (.iadd, 1) := by decide +kernel
theorem dL_law_775 : decode cL_law 775 = .ok (.iaload, 1) := by decide +kernel
theorem dL_law_776 : decode cL_law 776 = .ok (.invokevirtual 105, 3) := by decide +kernel
theorem dL_law_779 : decode cL_law 779 = .ok (.if_icmp .eq 116, 3) := by decide +kernel
theorem dL_law_782 : decode cL_law 782 = .ok (.iconst 0, 1) := by decide +kernel
theorem dL_law_783 : decode cL_law 783 = .ok (.ireturn, 1) := by decide +kernel
theorem dL_law_784 : decode cL_law 784 = .ok (.aload_n 1, 1) := by decide +kernel
theorem dL_law_785 : decode cL_law 785 = .ok (.aload_n 0, 1) := by decide +kernel
theorem dL_law_786 : decode cL_law 786 = .ok (.iload 4, 2) := by decide +kernel
theorem dL_law_788 : decode cL_law 788 = .ok (.iconst 1, 1) := by decide +kernel
theorem dL_law_789 : decode cL_law 789 = .ok (.iadd, 1) := by decide +kernel
theorem dL_law_790 : decode cL_law 790 = .ok (.iaload, 1) := by decide +kernel
theorem dL_law_791 : decode cL_law 791 = .ok (.aload_n 0, 1) := by decide +kernel
theorem dL_law_792 : decode cL_law 792 = .ok (.iload 4, 2) := by decide +kernel
theorem dL_law_794 : decode cL_law 794 = .ok (.iconst 2, 1) := by decide +kernel
theorem dL_law_795 : decode cL_law 795 = .ok (.iadd, 1) := by decide +kernel
theorem dL_law_796 : decode cL_law 796 = .ok (.iaload, 1) := by decide +kernel
theorem dL_law_797 : decode cL_law 797 = .ok (.aload_n 0, 1) := by decide +kernel
theorem dL_law_798 : decode cL_law 798 = .ok (.iload 4, 2) := by decide +kernel
theorem dL_law_800 : decode cL_law 800 = .ok (.iconst 3, 1) := by decide +kernel
theorem dL_law_801 : decode cL_law 801 = .ok (.iadd, 1) := by decide +kernel
theorem dL_law_802 : decode cL_law 802 = .ok (.iaload, 1) := by decide +kernel
theorem dL_law_803 : decode cL_law 803 = .ok (.invokevirtual 106, 3) := by decide +kernel
theorem dL_law_806 : decode cL_law 806 = .ok (.aload_n 2, 1) := by decide +kernel
theorem dL_law_807 : decode cL_law 807 = .ok (.aload_n 0, 1) := by decide +kernel
theorem dL_law_808 : decode cL_law 808 = .ok (.iload 4, 2) := by decide +kernel
theorem dL_law_810 : decode cL_law 810 = .ok (.iconst 1, 1) := by decide +kernel
theorem dL_law_811 : decode cL_law 811 = .ok (.iadd, 1) := by decide +kernel
theorem dL_law_812 : decode cL_law 812 = .ok (.iaload, 1) := by decide +kernel
theorem dL_law_813 : decode cL_law 813 = .ok (.aload_n 0, 1) := by decide +kernel
theorem dL_law_814 : decode cL_law 814 = .ok (.iload 4, 2) := by decide +kernel
theorem dL_law_816 : decode cL_law 816 = .ok (.iconst 2, 1) := by decide +kernel
theorem dL_law_817 : decode cL_law 817 = .ok (.iadd, 1) := by decide +kernel
theorem dL_law_818 : decode cL_law 818 = .ok (.iaload, 1) := by decide +kernel
theorem dL_law_819 : decode cL_law 819 = .ok (.aload_n 0, 1) := by decide +kernel
theorem dL_law_820 : decode cL_law 820 = .ok (.iload 4, 2) := by decide +kernel
theorem dL_law_822 : decode cL_law 822 = .ok (.iconst 3, 1) := by decide +kernel
theorem dL_law_823 : decode cL_law 823 = .ok (.iadd, 1) := by decide +kernel
theorem dL_law_824 : decode cL_law 824 = .ok (.iaload, 1) := by decide +kernel
theorem dL_law_825 : decode cL_law 825 = .ok (.invokevirtual 109, 3) := by decide +kernel
theorem dL_law_828 : decode cL_law 828 = .ok (.if_icmp .eq 67, 3) := by decide +kernel
theorem dL_law_831 : decode cL_law 831 = .ok (.iconst 0, 1) := by decide +kernel
theorem dL_law_832 : decode cL_law 832 = .ok (.ireturn, 1) := by decide +kernel
theorem dL_law_833 : decode cL_law 833 = .ok (.aload_n 1, 1) := by decide +kernel
theorem dL_law_834 : decode cL_law 834 = .ok (.aload_n 0, 1) := by decide +kernel
theorem dL_law_835 : decode cL_law 835 = .ok (.iload 4, 2) := by decide +kernel
theorem dL_law_837 : decode cL_law 837 = .ok (.iconst 1, 1) := by decide +kernel
theorem dL_law_838 : decode cL_law 838 = .ok (.iadd, 1) := by decide +kernel
theorem dL_law_839 : decode cL_law 839 = .ok (.iaload, 1) := by decide +kernel
theorem dL_law_840 : decode cL_law 840 = .ok (.aload_n 0, 1) := by decide +kernel
theorem dL_law_841 : decode cL_law 841 = .ok (.iload 4, 2) := by decide +kernel
theorem dL_law_843 : decode cL_law 843 = .ok (.iconst 2, 1) := by decide +kernel
theorem dL_law_844 : decode cL_law 844 = .ok (.iadd, 1) := by decide +kernel
theorem dL_law_845 : decode cL_law 845 = .ok (.iaload, 1) := by decide +kernel
theorem dL_law_846 : decode cL_law 846 = .ok (.invokevirtual 110, 3) := by decide +kernel
theorem dL_law_849 : decode cL_law 849 = .ok (.aload_n 2, 1) := by decide +kernel
theorem dL_law_850 : decode cL_law 850 = .ok (.aload_n 0, 1) := by decide +kernel
theorem dL_law_851 : decode cL_law 851 = .ok (.iload 4, 2) := by decide +kernel
theorem dL_law_853 : decode cL_law 853 = .ok (.iconst 1, 1) := by decide +kernel
theorem dL_law_854 : decode cL_law 854 = .ok (.iadd, 1) := by decide +kernel
theorem dL_law_855 : decode cL_law 855 = .ok (.iaload, 1) := by decide +kernel
theorem dL_law_856 : decode cL_law 856 = .ok (.aload_n 0, 1) := by decide +kernel
theorem dL_law_857 : decode cL_law 857 = .ok (.iload 4, 2) := by decide +kernel
theorem dL_law_859 : decode cL_law 859 = .ok (.iconst 2, 1) := by decide +kernel
theorem dL_law_860 : decode cL_law 860 = .ok (.iadd, 1) := by decide +kernel
theorem dL_law_861 : decode cL_law 861 = .ok (.iaload, 1) := by decide +kernel
theorem dL_law_862 : decode cL_law 862 = .ok (.invokevirtual 113, 3) := by decide +kernel
theorem dL_law_865 : decode cL_law 865 = .ok (.if_icmp .eq 30, 3) := by decide +kernel
theorem dL_law_868 : decode cL_law 868 = .ok (.iconst 0, 1) := by decide +kernel
theorem dL_law_869 : decode cL_law 869 = .ok (.ireturn, 1) := by decide +kernel
theorem dL_law_870 : decode cL_law 870 = .ok (.aload_n 1, 1) := by decide +kernel
theorem dL_law_871 : decode cL_law 871 = .ok (.aload_n 0, 1) := by decide +kernel
theorem dL_law_872 : decode cL_law 872 = .ok (.iload 4, 2) := by decide +kernel
theorem dL_law_874 : decode cL_law 874 = .ok (.iconst 1, 1) := by decide +kernel
theorem dL_law_875 : decode cL_law 875 = .ok (.iadd, 1) := by decide +kernel
theorem dL_law_876 : decode cL_law 876 = .ok (.iaload, 1) := by decide +kernel
theorem dL_law_877 : decode cL_law 877 = .ok (.invokevirtual 114, 3) := by decide +kernel
theorem dL_law_880 : decode cL_law 880 = .ok (.aload_n 2, 1) := by decide +kernel
theorem dL_law_881 : decode cL_law 881 = .ok (.aload_n 0, 1) := by decide +kernel
theorem dL_law_882 : decode cL_law 882 = .ok (.iload 4, 2) := by decide +kernel
theorem dL_law_884 : decode cL_law 884 = .ok (.iconst 1, 1) := by decide +kernel
theorem dL_law_885 : decode cL_law 885 = .ok (.iadd, 1) := by decide +kernel
theorem dL_law_886 : decode cL_law 886 = .ok (.iaload, 1) := by decide +kernel
theorem dL_law_887 : decode cL_law 887 = .ok (.invokevirtual 117, 3) := by decide +kernel
theorem dL_law_890 : decode cL_law 890 = .ok (.if_icmp .eq 5, 3) := by decide +kernel
theorem dL_law_893 : decode cL_law 893 = .ok (.iconst 0, 1) := by decide +kernel
theorem dL_law_894 : decode cL_law 894 = .ok (.ireturn, 1) := by decide +kernel
theorem dL_law_895 : decode cL_law 895 = .ok (.iinc 4 7, 3) := by decide +kernel
theorem dL_law_898 : decode cL_law 898 = .ok (.goto (-875), 3) := by decide +kernel
theorem dL_law_901 : decode cL_law 901 = .ok (.iconst 1, 1) := by decide +kernel
theorem dL_law_902 : decode cL_law 902 = .ok (.ireturn, 1) := by decide +kernel
end
section
def g_nw : Cond → Bool
  | .castable _ _ => true
  | .methodLinkNest _ _ _ _ => true
  | .declares _ => true
  | _ => false
def NW : List Cond := lw_tbl.filter g_nw
theorem tm_0 : ∀ w ∈ k2_sels lw_privs, w ∈ lw_tbl := fun w h => List.mem_append_left _ h
theorem tm_1 : ∀ w ∈ tables_1_1, w ∈ lw_tbl := fun w h => List.mem_append_right _ (List.mem_append_left _ h)
theorem tm_2 : ∀ w ∈ tables_1_2, w ∈ lw_tbl := fun w h => List.mem_append_right _ (List.mem_append_right _ (List.mem_append_left _ h))
theorem tm_3 : ∀ w ∈ tables_1_3, w ∈ lw_tbl := fun w h => List.mem_append_right _ (List.mem_append_right _ (List.mem_append_right _ (List.mem_append_left _ h)))
theorem tm_4 : ∀ w ∈ tables_1_4, w ∈ lw_tbl := fun w h => List.mem_append_right _ (List.mem_append_right _ (List.mem_append_right _ (List.mem_append_right _ (List.mem_append_left _ h))))
theorem tm_5 : ∀ w ∈ tables_1_5, w ∈ lw_tbl := fun w h => List.mem_append_right _ (List.mem_append_right _ (List.mem_append_right _ (List.mem_append_right _ (List.mem_append_right _ (h)))))
theorem tw_0 : Cond.selects "java/util/ArrayList" ⟨"java/util/ArrayList", "add", "(Ljava/lang/Object;[Ljava/lang/Object;I)V"⟩ ⟨"java/util/ArrayList", "add", "(Ljava/lang/Object;[Ljava/lang/Object;I)V"⟩ ∈ TB := List.mem_filter.mpr ⟨tm_0 _ (List.mem_of_getElem? (i := 0) rfl), rfl⟩
theorem tw_1 : Cond.selects "java/util/ArrayList" ⟨"java/util/ArrayList", "grow", "()[Ljava/lang/Object;"⟩ ⟨"java/util/ArrayList", "grow", "()[Ljava/lang/Object;"⟩ ∈ TB := List.mem_filter.mpr ⟨tm_0 _ (List.mem_of_getElem? (i := 1) rfl), rfl⟩
theorem tw_2 : Cond.selects "java/util/ArrayList" ⟨"java/util/ArrayList", "grow", "(I)[Ljava/lang/Object;"⟩ ⟨"java/util/ArrayList", "grow", "(I)[Ljava/lang/Object;"⟩ ∈ TB := List.mem_filter.mpr ⟨tm_0 _ (List.mem_of_getElem? (i := 2) rfl), rfl⟩
theorem tw_3 : Cond.selects "ToolHouse" ⟨"ToolHouse", "kindAt", "(I)LToolHouse$Kind;"⟩ ⟨"ToolHouse", "kindAt", "(I)LToolHouse$Kind;"⟩ ∈ TB := List.mem_filter.mpr ⟨tm_0 _ (List.mem_of_getElem? (i := 3) rfl), rfl⟩
theorem tw_4 : Cond.selects "ToolHouse$LawReader" ⟨"ToolHouse$LawReader", "take", "(LToolHouse$Tape;III)V"⟩ ⟨"ToolHouse$LawReader", "take", "(LToolHouse$Tape;III)V"⟩ ∈ TB := List.mem_filter.mpr ⟨tm_0 _ (List.mem_of_getElem? (i := 4) rfl), rfl⟩
theorem tw_5 : Cond.selects "ToolHouse$LawReader" ⟨"ToolHouse$LawReader", "takeKind", "(III)V"⟩ ⟨"ToolHouse$LawReader", "takeKind", "(III)V"⟩ ∈ TB := List.mem_filter.mpr ⟨tm_0 _ (List.mem_of_getElem? (i := 5) rfl), rfl⟩
theorem tw_6 : Cond.selects "ToolHouse$LawReader" ⟨"ToolHouse$LawReader", "blame", "(II)V"⟩ ⟨"ToolHouse$LawReader", "blame", "(II)V"⟩ ∈ TB := List.mem_filter.mpr ⟨tm_0 _ (List.mem_of_getElem? (i := 6) rfl), rfl⟩
theorem tw_7 : Cond.selects "ToolHouse$LawReader" ⟨"ToolHouse$LawReader", "takeDays", "(I)V"⟩ ⟨"ToolHouse$LawReader", "takeDays", "(I)V"⟩ ∈ TB := List.mem_filter.mpr ⟨tm_0 _ (List.mem_of_getElem? (i := 7) rfl), rfl⟩
theorem tw_8 : Cond.selects "ToolHouse" ⟨"ToolHouse", "thingAt", "(I)LToolHouse$Thing;"⟩ ⟨"ToolHouse", "thingAt", "(I)LToolHouse$Thing;"⟩ ∈ TB := List.mem_filter.mpr ⟨tm_0 _ (List.mem_of_getElem? (i := 8) rfl), rfl⟩
theorem tw_9 : Cond.selects "ToolHouse" ⟨"ToolHouse", "memberAt", "(I)LToolHouse$Member;"⟩ ⟨"ToolHouse", "memberAt", "(I)LToolHouse$Member;"⟩ ∈ TB := List.mem_filter.mpr ⟨tm_0 _ (List.mem_of_getElem? (i := 9) rfl), rfl⟩
theorem tw_10 : Cond.selects "ToolHouse" ⟨"ToolHouse", "canBeAsked", "(II)Z"⟩ ⟨"ToolHouse", "canBeAsked", "(II)Z"⟩ ∈ TB := List.mem_filter.mpr ⟨tm_0 _ (List.mem_of_getElem? (i := 10) rfl), rfl⟩
theorem tw_11 : Cond.selects "ToolHouse" ⟨"ToolHouse", "howManyAre", "(I)I"⟩ ⟨"ToolHouse", "howManyAre", "(I)I"⟩ ∈ TB := List.mem_filter.mpr ⟨tm_0 _ (List.mem_of_getElem? (i := 11) rfl), rfl⟩
theorem tw_12 : Cond.selects "ToolHouse" ⟨"ToolHouse", "rowThatMayHave", "(LToolHouse$Thing;)I"⟩ ⟨"ToolHouse", "rowThatMayHave", "(LToolHouse$Thing;)I"⟩ ∈ TB := List.mem_filter.mpr ⟨tm_0 _ (List.mem_of_getElem? (i := 12) rfl), rfl⟩
theorem tw_13 : Cond.selects "ToolHouse" ⟨"ToolHouse", "isFreeFor", "(LToolHouse$Ask;LToolHouse$Thing;)Z"⟩ ⟨"ToolHouse", "isFreeFor", "(LToolHouse$Ask;LToolHouse$Thing;)Z"⟩ ∈ TB := List.mem_filter.mpr ⟨tm_0 _ (List.mem_of_getElem? (i := 13) rfl), rfl⟩
theorem tw_14 : Cond.selects "ToolHouse" ⟨"ToolHouse", "isFreeBut", "(LToolHouse$Ask;LToolHouse$Thing;II)Z"⟩ ⟨"ToolHouse", "isFreeBut", "(LToolHouse$Ask;LToolHouse$Thing;II)Z"⟩ ∈ TB := List.mem_filter.mpr ⟨tm_0 _ (List.mem_of_getElem? (i := 14) rfl), rfl⟩
theorem tw_15 : Cond.selects "ToolHouse$Planner" ⟨"ToolHouse$Planner", "weigh", "(LToolHouse$Thing;I)V"⟩ ⟨"ToolHouse$Planner", "weigh", "(LToolHouse$Thing;I)V"⟩ ∈ TB := List.mem_filter.mpr ⟨tm_0 _ (List.mem_of_getElem? (i := 15) rfl), rfl⟩
theorem tw_16 : Cond.selects "ToolHouse$Planner" ⟨"ToolHouse$Planner", "nearTo", "(LToolHouse$Ask;II)I"⟩ ⟨"ToolHouse$Planner", "nearTo", "(LToolHouse$Ask;II)I"⟩ ∈ TB := List.mem_filter.mpr ⟨tm_0 _ (List.mem_of_getElem? (i := 16) rfl), rfl⟩
theorem tw_17 : Cond.selects "ToolHouse$Planner" ⟨"ToolHouse$Planner", "wholeRow", "()I"⟩ ⟨"ToolHouse$Planner", "wholeRow", "()I"⟩ ∈ TB := List.mem_filter.mpr ⟨tm_0 _ (List.mem_of_getElem? (i := 17) rfl), rfl⟩
theorem tw_18 : Cond.selects "ToolHouse" ⟨"ToolHouse", "carryOutPlan", "()I"⟩ ⟨"ToolHouse", "carryOutPlan", "()I"⟩ ∈ TB := List.mem_filter.mpr ⟨tm_0 _ (List.mem_of_getElem? (i := 18) rfl), rfl⟩
theorem tw_19 : Cond.selects "ToolHouse" ⟨"ToolHouse", "refuse", "(LToolHouse$Ask;)V"⟩ ⟨"ToolHouse", "refuse", "(LToolHouse$Ask;)V"⟩ ∈ TB := List.mem_filter.mpr ⟨tm_0 _ (List.mem_of_getElem? (i := 19) rfl), rfl⟩
theorem tw_20 : Cond.selects "java/util/ArrayList" ⟨"java/util/ArrayList", "rangeCheckForAdd", "(I)V"⟩ ⟨"java/util/ArrayList", "rangeCheckForAdd", "(I)V"⟩ ∈ TB := List.mem_filter.mpr ⟨tm_0 _ (List.mem_of_getElem? (i := 20) rfl), rfl⟩
theorem tw_21 : Cond.selects "ToolHouse" ⟨"ToolHouse", "askAt", "(I)LToolHouse$Ask;"⟩ ⟨"ToolHouse", "askAt", "(I)LToolHouse$Ask;"⟩ ∈ TB := List.mem_filter.mpr ⟨tm_0 _ (List.mem_of_getElem? (i := 21) rfl), rfl⟩
theorem tw_22 : Cond.selects "ToolHouse" ⟨"ToolHouse", "hindranceOf", "(LToolHouse$Ask;LToolHouse$Thing;)I"⟩ ⟨"ToolHouse", "hindranceOf", "(LToolHouse$Ask;LToolHouse$Thing;)I"⟩ ∈ TB := List.mem_filter.mpr ⟨tm_0 _ (List.mem_of_getElem? (i := 22) rfl), rfl⟩
theorem tw_23 : Cond.selects "ToolHouse" ⟨"ToolHouse", "loseWhatIsOver", "()V"⟩ ⟨"ToolHouse", "loseWhatIsOver", "()V"⟩ ∈ TB := List.mem_filter.mpr ⟨tm_0 _ (List.mem_of_getElem? (i := 23) rfl), rfl⟩
theorem tw_24 : Cond.selects "ToolHouse" ⟨"ToolHouse", "moveFromLateThings", "()V"⟩ ⟨"ToolHouse", "moveFromLateThings", "()V"⟩ ∈ TB := List.mem_filter.mpr ⟨tm_0 _ (List.mem_of_getElem? (i := 24) rfl), rfl⟩
theorem tw_25 : Cond.selects "ToolHouse" ⟨"ToolHouse", "nextToMove", "()LToolHouse$Ask;"⟩ ⟨"ToolHouse", "nextToMove", "()LToolHouse$Ask;"⟩ ∈ TB := List.mem_filter.mpr ⟨tm_0 _ (List.mem_of_getElem? (i := 25) rfl), rfl⟩
theorem tw_26 : Cond.selects "ToolHouse" ⟨"ToolHouse", "mustMove", "(LToolHouse$Ask;)Z"⟩ ⟨"ToolHouse", "mustMove", "(LToolHouse$Ask;)Z"⟩ ∈ TB := List.mem_filter.mpr ⟨tm_0 _ (List.mem_of_getElem? (i := 26) rfl), rfl⟩
theorem tw_27 : Cond.selects "ToolHouse" ⟨"ToolHouse", "firstOtherThingFor", "(LToolHouse$Ask;)LToolHouse$Thing;"⟩ ⟨"ToolHouse", "firstOtherThingFor", "(LToolHouse$Ask;)LToolHouse$Thing;"⟩ ∈ TB := List.mem_filter.mpr ⟨tm_0 _ (List.mem_of_getElem? (i := 27) rfl), rfl⟩
theorem tw_28 : Cond.selects "ToolHouse" ⟨"ToolHouse", "howManyAreBookedOn", "(LToolHouse$Thing;)I"⟩ ⟨"ToolHouse", "howManyAreBookedOn", "(LToolHouse$Thing;)I"⟩ ∈ TB := List.mem_filter.mpr ⟨tm_0 _ (List.mem_of_getElem? (i := 28) rfl), rfl⟩
theorem tw_29 : Cond.selects "java/lang/Throwable" ⟨"java/lang/Throwable", "fillInStackTrace", "(I)Ljava/lang/Throwable;"⟩ ⟨"java/lang/Throwable", "fillInStackTrace", "(I)Ljava/lang/Throwable;"⟩ ∈ TB := List.mem_filter.mpr ⟨tm_0 _ (List.mem_of_getElem? (i := 29) rfl), rfl⟩
theorem tw_30 : Cond.selects "ToolHouseModel" ⟨"ToolHouseModel", "isKind", "(I)Z"⟩ ⟨"ToolHouseModel", "isKind", "(I)Z"⟩ ∈ TB := List.mem_filter.mpr ⟨tm_0 _ (List.mem_of_getElem? (i := 30) rfl), rfl⟩
theorem tw_31 : Cond.selects "ToolHouseModel" ⟨"ToolHouseModel", "token", "()V"⟩ ⟨"ToolHouseModel", "token", "()V"⟩ ∈ TB := List.mem_filter.mpr ⟨tm_0 _ (List.mem_of_getElem? (i := 31) rfl), rfl⟩
theorem tw_32 : Cond.selects "ToolHouseModel" ⟨"ToolHouseModel", "byteAt", "(I)I"⟩ ⟨"ToolHouseModel", "byteAt", "(I)I"⟩ ∈ TB := List.mem_filter.mpr ⟨tm_0 _ (List.mem_of_getElem? (i := 32) rfl), rfl⟩
theorem tw_33 : Cond.selects "ToolHouseModel" ⟨"ToolHouseModel", "statement", "()Z"⟩ ⟨"ToolHouseModel", "statement", "()Z"⟩ ∈ TB := List.mem_filter.mpr ⟨tm_0 _ (List.mem_of_getElem? (i := 33) rfl), rfl⟩
theorem tw_34 : Cond.selects "ToolHouseModel" ⟨"ToolHouseModel", "isEvery", "()Z"⟩ ⟨"ToolHouseModel", "isEvery", "()Z"⟩ ∈ TB := List.mem_filter.mpr ⟨tm_0 _ (List.mem_of_getElem? (i := 34) rfl), rfl⟩
theorem tw_35 : Cond.selects "ToolHouseModel" ⟨"ToolHouseModel", "wrong", "(I)Z"⟩ ⟨"ToolHouseModel", "wrong", "(I)Z"⟩ ∈ TB := List.mem_filter.mpr ⟨tm_0 _ (List.mem_of_getElem? (i := 35) rfl), rfl⟩
theorem tw_36 : Cond.selects "ToolHouseModel" ⟨"ToolHouseModel", "isThing", "(I)Z"⟩ ⟨"ToolHouseModel", "isThing", "(I)Z"⟩ ∈ TB := List.mem_filter.mpr ⟨tm_0 _ (List.mem_of_getElem? (i := 36) rfl), rfl⟩
theorem tw_37 : Cond.selects "ToolHouseModel" ⟨"ToolHouseModel", "outWith", "(I)I"⟩ ⟨"ToolHouseModel", "outWith", "(I)I"⟩ ∈ TB := List.mem_filter.mpr ⟨tm_0 _ (List.mem_of_getElem? (i := 37) rfl), rfl⟩
theorem tw_38 : Cond.selects "ToolHouseModel" ⟨"ToolHouseModel", "isLawful", "(II)Z"⟩ ⟨"ToolHouseModel", "isLawful", "(II)Z"⟩ ∈ TB := List.mem_filter.mpr ⟨tm_0 _ (List.mem_of_getElem? (i := 38) rfl), rfl⟩
theorem tw_39 : Cond.selects "ToolHouseModel" ⟨"ToolHouseModel", "wanted", "(I)I"⟩ ⟨"ToolHouseModel", "wanted", "(I)I"⟩ ∈ TB := List.mem_filter.mpr ⟨tm_0 _ (List.mem_of_getElem? (i := 39) rfl), rfl⟩
theorem tw_40 : Cond.selects "ToolHouseModel" ⟨"ToolHouseModel", "isMember", "(I)Z"⟩ ⟨"ToolHouseModel", "isMember", "(I)Z"⟩ ∈ TB := List.mem_filter.mpr ⟨tm_0 _ (List.mem_of_getElem? (i := 40) rfl), rfl⟩
theorem tw_41 : Cond.selects "ToolHouseModel" ⟨"ToolHouseModel", "counted", "(I)I"⟩ ⟨"ToolHouseModel", "counted", "(I)I"⟩ ∈ TB := List.mem_filter.mpr ⟨tm_0 _ (List.mem_of_getElem? (i := 41) rfl), rfl⟩
theorem tw_42 : Cond.selects "ToolHouseModel" ⟨"ToolHouseModel", "fits", "(II)Z"⟩ ⟨"ToolHouseModel", "fits", "(II)Z"⟩ ∈ TB := List.mem_filter.mpr ⟨tm_0 _ (List.mem_of_getElem? (i := 42) rfl), rfl⟩
theorem tw_43 : Cond.selects "ToolHouseModel" ⟨"ToolHouseModel", "isFreeFor", "(IIII)Z"⟩ ⟨"ToolHouseModel", "isFreeFor", "(IIII)Z"⟩ ∈ TB := List.mem_filter.mpr ⟨tm_0 _ (List.mem_of_getElem? (i := 43) rfl), rfl⟩
theorem tw_44 : Cond.selects "ToolHouseModel" ⟨"ToolHouseModel", "endOf", "(I)I"⟩ ⟨"ToolHouseModel", "endOf", "(I)I"⟩ ∈ TB := List.mem_filter.mpr ⟨tm_0 _ (List.mem_of_getElem? (i := 44) rfl), rfl⟩
theorem tw_45 : Cond.selects "ToolHouseModel" ⟨"ToolHouseModel", "tries", "(I)V"⟩ ⟨"ToolHouseModel", "tries", "(I)V"⟩ ∈ TB := List.mem_filter.mpr ⟨tm_0 _ (List.mem_of_getElem? (i := 45) rfl), rfl⟩
theorem tw_46 : Cond.selects "ToolHouseModel" ⟨"ToolHouseModel", "worth", "()I"⟩ ⟨"ToolHouseModel", "worth", "()I"⟩ ∈ TB := List.mem_filter.mpr ⟨tm_0 _ (List.mem_of_getElem? (i := 46) rfl), rfl⟩
theorem tw_47 : Cond.selects "ToolHouseModel" ⟨"ToolHouseModel", "stands", "(II)Z"⟩ ⟨"ToolHouseModel", "stands", "(II)Z"⟩ ∈ TB := List.mem_filter.mpr ⟨tm_0 _ (List.mem_of_getElem? (i := 47) rfl), rfl⟩
theorem tw_48 : Cond.selects "ToolHouseModel" ⟨"ToolHouseModel", "moves", "()V"⟩ ⟨"ToolHouseModel", "moves", "()V"⟩ ∈ TB := List.mem_filter.mpr ⟨tm_0 _ (List.mem_of_getElem? (i := 48) rfl), rfl⟩
theorem tw_49 : Cond.selects "ToolHouseModel" ⟨"ToolHouseModel", "isLate", "(I)Z"⟩ ⟨"ToolHouseModel", "isLate", "(I)Z"⟩ ∈ TB := List.mem_filter.mpr ⟨tm_0 _ (List.mem_of_getElem? (i := 49) rfl), rfl⟩
theorem tw_50 : Cond.selects "ToolHouseModel" ⟨"ToolHouseModel", "isAhead", "(II)Z"⟩ ⟨"ToolHouseModel", "isAhead", "(II)Z"⟩ ∈ TB := List.mem_filter.mpr ⟨tm_0 _ (List.mem_of_getElem? (i := 50) rfl), rfl⟩
theorem tw_51 : Cond.selects "ToolHouseModel" ⟨"ToolHouseModel", "moves", "(I)V"⟩ ⟨"ToolHouseModel", "moves", "(I)V"⟩ ∈ TB := List.mem_filter.mpr ⟨tm_0 _ (List.mem_of_getElem? (i := 51) rfl), rfl⟩
theorem tw_52 : (Cond.initialized "ToolHouseLaw") ∈ TB := List.mem_filter.mpr ⟨tm_1 _ (List.mem_of_getElem? (i := 0) rfl), rfl⟩
theorem tw_53 : (Cond.initialized "ToolHouse") ∈ TB := List.mem_filter.mpr ⟨tm_1 _ (List.mem_of_getElem? (i := 1) rfl), rfl⟩
theorem tw_54 : (Cond.initialized "java/util/AbstractCollection") ∈ TB := List.mem_filter.mpr ⟨tm_1 _ (List.mem_of_getElem? (i := 2) rfl), rfl⟩
theorem tw_55 : (Cond.initialized "java/util/AbstractList") ∈ TB := List.mem_filter.mpr ⟨tm_1 _ (List.mem_of_getElem? (i := 3) rfl), rfl⟩
theorem tw_56 : (Cond.initialized "java/util/ArrayList") ∈ TB := List.mem_filter.mpr ⟨tm_1 _ (List.mem_of_getElem? (i := 4) rfl), rfl⟩
theorem tw_57 : (Cond.initialized "ToolHouse$Tape") ∈ TB := List.mem_filter.mpr ⟨tm_1 _ (List.mem_of_getElem? (i := 5) rfl), rfl⟩
theorem tw_58 : (Cond.initialized "ToolHouse$LawReader") ∈ TB := List.mem_filter.mpr ⟨tm_1 _ (List.mem_of_getElem? (i := 6) rfl), rfl⟩
theorem tw_59 : (Cond.initialized "ToolHouse$LawBook") ∈ TB := List.mem_filter.mpr ⟨tm_1 _ (List.mem_of_getElem? (i := 7) rfl), rfl⟩
theorem tw_60 : (Cond.initialized "java/util/Arrays") ∈ TB := List.mem_filter.mpr ⟨tm_1 _ (List.mem_of_getElem? (i := 8) rfl), rfl⟩
theorem tw_61 : (Cond.initialized "ToolHouse$Planner") ∈ TB := List.mem_filter.mpr ⟨tm_1 _ (List.mem_of_getElem? (i := 9) rfl), rfl⟩
theorem tw_62 : (Cond.initialized "ToolHouseModel") ∈ TB := List.mem_filter.mpr ⟨tm_1 _ (List.mem_of_getElem? (i := 10) rfl), rfl⟩
theorem tw_63 : (Cond.initialized "ToolHouse$Kind") ∈ TB := List.mem_filter.mpr ⟨tm_1 _ (List.mem_of_getElem? (i := 11) rfl), rfl⟩
theorem tw_64 : (Cond.initialized "jdk/internal/util/ArraysSupport") ∈ TB := List.mem_filter.mpr ⟨tm_1 _ (List.mem_of_getElem? (i := 12) rfl), rfl⟩
theorem tw_65 : (Cond.initialized "java/lang/Math") ∈ TB := List.mem_filter.mpr ⟨tm_1 _ (List.mem_of_getElem? (i := 13) rfl), rfl⟩
theorem tw_66 : (Cond.initialized "java/lang/System") ∈ TB := List.mem_filter.mpr ⟨tm_1 _ (List.mem_of_getElem? (i := 14) rfl), rfl⟩
theorem tw_67 : (Cond.initialized "java/util/Objects") ∈ TB := List.mem_filter.mpr ⟨tm_1 _ (List.mem_of_getElem? (i := 15) rfl), rfl⟩
theorem tw_68 : (Cond.initialized "jdk/internal/util/Preconditions") ∈ TB := List.mem_filter.mpr ⟨tm_1 _ (List.mem_of_getElem? (i := 16) rfl), rfl⟩
theorem tw_69 : (Cond.initialized "ToolHouse$Thing") ∈ TB := List.mem_filter.mpr ⟨tm_1 _ (List.mem_of_getElem? (i := 17) rfl), rfl⟩
theorem tw_70 : (Cond.initialized "ToolHouse$Member") ∈ TB := List.mem_filter.mpr ⟨tm_1 _ (List.mem_of_getElem? (i := 18) rfl), rfl⟩
theorem tw_71 : (Cond.initialized "java/lang/String") ∈ TB := List.mem_filter.mpr ⟨tm_1 _ (List.mem_of_getElem? (i := 19) rfl), rfl⟩
theorem tw_72 : (Cond.initialized "java/lang/StringLatin1") ∈ TB := List.mem_filter.mpr ⟨tm_1 _ (List.mem_of_getElem? (i := 20) rfl), rfl⟩
theorem tw_73 : (Cond.initialized "java/lang/StringUTF16") ∈ TB := List.mem_filter.mpr ⟨tm_1 _ (List.mem_of_getElem? (i := 21) rfl), rfl⟩
theorem tw_74 : (Cond.initialized "ToolHouse$Ask") ∈ TB := List.mem_filter.mpr ⟨tm_1 _ (List.mem_of_getElem? (i := 22) rfl), rfl⟩
theorem tw_75 : (Cond.initialized "java/lang/Throwable") ∈ TB := List.mem_filter.mpr ⟨tm_1 _ (List.mem_of_getElem? (i := 23) rfl), rfl⟩
theorem tw_76 : (Cond.initialized "java/lang/Exception") ∈ TB := List.mem_filter.mpr ⟨tm_1 _ (List.mem_of_getElem? (i := 24) rfl), rfl⟩
theorem tw_77 : (Cond.initialized "java/lang/RuntimeException") ∈ TB := List.mem_filter.mpr ⟨tm_1 _ (List.mem_of_getElem? (i := 25) rfl), rfl⟩
theorem tw_78 : (Cond.initialized "java/util/NoSuchElementException") ∈ TB := List.mem_filter.mpr ⟨tm_1 _ (List.mem_of_getElem? (i := 26) rfl), rfl⟩
theorem tw_79 : (Cond.classLink "ToolHouseLaw" (8 : Nat) "ToolHouse") ∈ TB := List.mem_filter.mpr ⟨tm_1 _ (List.mem_of_getElem? (i := 27) rfl), rfl⟩
theorem tw_80 : (Cond.instantiable "ToolHouse" (10 : Nat)) ∈ TB := List.mem_filter.mpr ⟨tm_1 _ (List.mem_of_getElem? (i := 28) rfl), rfl⟩
theorem tw_81 : (Cond.methodLink "ToolHouseLaw" (15 : Nat) ({ cls := "ToolHouse", name := "<init>", desc := "()V" } : MethodName)) ∈ TB := List.mem_filter.mpr ⟨tm_1 _ (List.mem_of_getElem? (i := 29) rfl), rfl⟩
theorem tw_82 : (Cond.instanceMethod ({ cls := "ToolHouse", name := "<init>", desc := "()V" } : MethodName)) ∈ TB := List.mem_filter.mpr ⟨tm_1 _ (List.mem_of_getElem? (i := 30) rfl), rfl⟩
theorem tw_83 : (Cond.code ({ cls := "ToolHouse", name := "<init>", desc := "()V" } : MethodName) prog_1_method_1_code (1 : Nat) (none : Option Jvm.ClassFile.FieldType)) ∈ TB := List.mem_filter.mpr ⟨tm_1 _ (List.mem_of_getElem? (i := 31) rfl), rfl⟩
theorem tw_84 : (Cond.methodLink "ToolHouse" (1 : Nat) ({ cls := "java/lang/Object", name := "<init>", desc := "()V" } : MethodName)) ∈ TB := List.mem_filter.mpr ⟨tm_1 _ (List.mem_of_getElem? (i := 32) rfl), rfl⟩
theorem tw_85 : (Cond.instanceMethod ({ cls := "java/lang/Object", name := "<init>", desc := "()V" } : MethodName)) ∈ TB := List.mem_filter.mpr ⟨tm_1 _ (List.mem_of_getElem? (i := 33) rfl), rfl⟩
theorem tw_86 : (Cond.code ({ cls := "java/lang/Object", name := "<init>", desc := "()V" } : MethodName) object_method_1_code (1 : Nat) (none : Option Jvm.ClassFile.FieldType)) ∈ TB := List.mem_filter.mpr ⟨tm_1 _ (List.mem_of_getElem? (i := 34) rfl), rfl⟩
theorem tw_87 : (Cond.classLink "ToolHouse" (7 : Nat) "java/util/ArrayList") ∈ TB := List.mem_filter.mpr ⟨tm_1 _ (List.mem_of_getElem? (i := 35) rfl), rfl⟩
theorem tw_88 : (Cond.instantiable "java/util/ArrayList" (3 : Nat)) ∈ TB := List.mem_filter.mpr ⟨tm_1 _ (List.mem_of_getElem? (i := 36) rfl), rfl⟩
theorem tw_89 : (Cond.methodLink "ToolHouse" (9 : Nat) ({ cls := "java/util/ArrayList", name := "<init>", desc := "()V" } : MethodName)) ∈ TB := List.mem_filter.mpr ⟨tm_1 _ (List.mem_of_getElem? (i := 37) rfl), rfl⟩
theorem tw_90 : (Cond.instanceMethod ({ cls := "java/util/ArrayList", name := "<init>", desc := "()V" } : MethodName)) ∈ TB := List.mem_filter.mpr ⟨tm_1 _ (List.mem_of_getElem? (i := 38) rfl), rfl⟩
theorem tw_91 : (Cond.code ({ cls := "java/util/ArrayList", name := "<init>", desc := "()V" } : MethodName) prog_25_method_2_code (1 : Nat) (none : Option Jvm.ClassFile.FieldType)) ∈ TB := List.mem_filter.mpr ⟨tm_1 _ (List.mem_of_getElem? (i := 39) rfl), rfl⟩
theorem tw_92 : (Cond.methodLink "java/util/ArrayList" (1 : Nat) ({ cls := "java/util/AbstractList", name := "<init>", desc := "()V" } : MethodName)) ∈ TB := List.mem_filter.mpr ⟨tm_1 _ (List.mem_of_getElem? (i := 40) rfl), rfl⟩
theorem tw_93 : (Cond.instanceMethod ({ cls := "java/util/AbstractList", name := "<init>", desc := "()V" } : MethodName)) ∈ TB := List.mem_filter.mpr ⟨tm_1 _ (List.mem_of_getElem? (i := 41) rfl), rfl⟩
theorem tw_94 : (Cond.code ({ cls := "java/util/AbstractList", name := "<init>", desc := "()V" } : MethodName) prog_24_method_1_code (1 : Nat) (none : Option Jvm.ClassFile.FieldType)) ∈ TB := List.mem_filter.mpr ⟨tm_1 _ (List.mem_of_getElem? (i := 42) rfl), rfl⟩
theorem tw_95 : (Cond.methodLink "java/util/AbstractList" (1 : Nat) ({ cls := "java/util/AbstractCollection", name := "<init>", desc := "()V" } : MethodName)) ∈ TB := List.mem_filter.mpr ⟨tm_1 _ (List.mem_of_getElem? (i := 43) rfl), rfl⟩
theorem tw_96 : (Cond.instanceMethod ({ cls := "java/util/AbstractCollection", name := "<init>", desc := "()V" } : MethodName)) ∈ TB := List.mem_filter.mpr ⟨tm_1 _ (List.mem_of_getElem? (i := 44) rfl), rfl⟩
theorem tw_97 : (Cond.code ({ cls := "java/util/AbstractCollection", name := "<init>", desc := "()V" } : MethodName) prog_23_method_1_code (1 : Nat) (none : Option Jvm.ClassFile.FieldType)) ∈ TB := List.mem_filter.mpr ⟨tm_1 _ (List.mem_of_getElem? (i := 45) rfl), rfl⟩
theorem tw_98 : (Cond.methodLink "java/util/AbstractCollection" (1 : Nat) ({ cls := "java/lang/Object", name := "<init>", desc := "()V" } : MethodName)) ∈ TB := List.mem_filter.mpr ⟨tm_1 _ (List.mem_of_getElem? (i := 46) rfl), rfl⟩
theorem tw_99 : (Cond.fieldLink "java/util/ArrayList" (39 : Nat) "java/util/ArrayList" "DEFAULTCAPACITY_EMPTY_ELEMENTDATA" "[Ljava/lang/Object;") ∈ TB := List.mem_filter.mpr ⟨tm_1 _ (List.mem_of_getElem? (i := 47) rfl), rfl⟩
theorem tw_101 : (Cond.fieldLink "java/util/ArrayList" (9 : Nat) "java/util/ArrayList" "elementData" "[Ljava/lang/Object;") ∈ TB := List.mem_filter.mpr ⟨tm_1 _ (List.mem_of_getElem? (i := 49) rfl), rfl⟩
theorem tw_102 : (Cond.fieldLink "java/util/ArrayList" (48 : Nat) "java/util/ArrayList" "size" "I") ∈ TB := List.mem_filter.mpr ⟨tm_1 _ (List.mem_of_getElem? (i := 50) rfl), rfl⟩
theorem tw_103 : (Cond.fieldLink "java/util/AbstractList" (7 : Nat) "java/util/AbstractList" "modCount" "I") ∈ TB := List.mem_filter.mpr ⟨tm_1 _ (List.mem_of_getElem? (i := 51) rfl), rfl⟩
theorem tw_104 : (Cond.fieldLink "java/util/ArrayList" (63 : Nat) "java/util/ArrayList" "modCount" "I") ∈ TB := List.mem_filter.mpr ⟨tm_1 _ (List.mem_of_getElem? (i := 52) rfl), rfl⟩
theorem tw_105 : (Cond.sameField "java/util/ArrayList" "java/util/AbstractList" "modCount" "I") ∈ TB := List.mem_filter.mpr ⟨tm_1 _ (List.mem_of_getElem? (i := 53) rfl), rfl⟩
theorem tw_113 : (Cond.classLink "ToolHouse" (28 : Nat) "ToolHouse$Tape") ∈ TB := List.mem_filter.mpr ⟨tm_1 _ (List.mem_of_getElem? (i := 61) rfl), rfl⟩
theorem tw_114 : (Cond.instantiable "ToolHouse$Tape" (2 : Nat)) ∈ TB := List.mem_filter.mpr ⟨tm_1 _ (List.mem_of_getElem? (i := 62) rfl), rfl⟩
theorem tw_115 : (Cond.methodLinkNest "ToolHouse" (30 : Nat) ({ cls := "ToolHouse$Tape", name := "<init>", desc := "()V" } : MethodName) "ToolHouse") ∈ NW := List.mem_filter.mpr ⟨tm_1 _ (List.mem_of_getElem? (i := 63) rfl), rfl⟩
theorem tw_116 : (Cond.instanceMethod ({ cls := "ToolHouse$Tape", name := "<init>", desc := "()V" } : MethodName)) ∈ TB := List.mem_filter.mpr ⟨tm_1 _ (List.mem_of_getElem? (i := 64) rfl), rfl⟩
theorem tw_117 : (Cond.code ({ cls := "ToolHouse$Tape", name := "<init>", desc := "()V" } : MethodName) prog_8_method_1_code (1 : Nat) (none : Option Jvm.ClassFile.FieldType)) ∈ TB := List.mem_filter.mpr ⟨tm_1 _ (List.mem_of_getElem? (i := 65) rfl), rfl⟩
theorem tw_118 : (Cond.methodLink "ToolHouse$Tape" (3 : Nat) ({ cls := "java/lang/Object", name := "<init>", desc := "()V" } : MethodName)) ∈ TB := List.mem_filter.mpr ⟨tm_1 _ (List.mem_of_getElem? (i := 66) rfl), rfl⟩
theorem tw_119 : (Cond.fieldLink "ToolHouse$Tape" (9 : Nat) "ToolHouse$Tape" "bytes" "[I") ∈ TB := List.mem_filter.mpr ⟨tm_1 _ (List.mem_of_getElem? (i := 67) rfl), rfl⟩
theorem tw_120 : (Cond.fieldLink "ToolHouse$Tape" (15 : Nat) "ToolHouse$Tape" "length" "I") ∈ TB := List.mem_filter.mpr ⟨tm_1 _ (List.mem_of_getElem? (i := 68) rfl), rfl⟩
theorem tw_121 : (Cond.fieldLink "ToolHouse$LawReader" (34 : Nat) "ToolHouse$Tape" "length" "I") ∈ TB := List.mem_filter.mpr ⟨tm_1 _ (List.mem_of_getElem? (i := 69) rfl), rfl⟩
theorem tw_122 : (Cond.fieldLink "ToolHouse" (98 : Nat) "ToolHouse$Tape" "length" "I") ∈ TB := List.mem_filter.mpr ⟨tm_1 _ (List.mem_of_getElem? (i := 70) rfl), rfl⟩
theorem tw_128 : (Cond.arrayClass .int) ∈ TB := List.mem_filter.mpr ⟨tm_1 _ (List.mem_of_getElem? (i := 76) rfl), rfl⟩
theorem tw_129 : (Cond.classLink "ToolHouse" (35 : Nat) "ToolHouse$LawReader") ∈ TB := List.mem_filter.mpr ⟨tm_1 _ (List.mem_of_getElem? (i := 77) rfl), rfl⟩
theorem tw_130 : (Cond.instantiable "ToolHouse$LawReader" (5 : Nat)) ∈ TB := List.mem_filter.mpr ⟨tm_1 _ (List.mem_of_getElem? (i := 78) rfl), rfl⟩
theorem tw_131 : (Cond.methodLinkNest "ToolHouse" (37 : Nat) ({ cls := "ToolHouse$LawReader", name := "<init>", desc := "()V" } : MethodName) "ToolHouse") ∈ NW := List.mem_filter.mpr ⟨tm_1 _ (List.mem_of_getElem? (i := 79) rfl), rfl⟩
theorem tw_132 : (Cond.instanceMethod ({ cls := "ToolHouse$LawReader", name := "<init>", desc := "()V" } : MethodName)) ∈ TB := List.mem_filter.mpr ⟨tm_1 _ (List.mem_of_getElem? (i := 80) rfl), rfl⟩
theorem tw_133 : (Cond.code ({ cls := "ToolHouse$LawReader", name := "<init>", desc := "()V" } : MethodName) prog_5_method_1_code (1 : Nat) (none : Option Jvm.ClassFile.FieldType)) ∈ TB := List.mem_filter.mpr ⟨tm_1 _ (List.mem_of_getElem? (i := 81) rfl), rfl⟩
theorem tw_134 : (Cond.methodLink "ToolHouse$LawReader" (3 : Nat) ({ cls := "java/lang/Object", name := "<init>", desc := "()V" } : MethodName)) ∈ TB := List.mem_filter.mpr ⟨tm_1 _ (List.mem_of_getElem? (i := 82) rfl), rfl⟩
theorem tw_135 : (Cond.fieldLink "ToolHouse$LawReader" (9 : Nat) "ToolHouse$LawReader" "wanted" "[I") ∈ TB := List.mem_filter.mpr ⟨tm_1 _ (List.mem_of_getElem? (i := 83) rfl), rfl⟩
theorem tw_136 : (Cond.fieldLink "ToolHouse" (115 : Nat) "ToolHouse$LawReader" "wanted" "[I") ∈ TB := List.mem_filter.mpr ⟨tm_1 _ (List.mem_of_getElem? (i := 84) rfl), rfl⟩
theorem tw_137 : (Cond.fieldLink "ToolHouse$LawReader" (15 : Nat) "ToolHouse$LawReader" "fault" "I") ∈ TB := List.mem_filter.mpr ⟨tm_1 _ (List.mem_of_getElem? (i := 85) rfl), rfl⟩
theorem tw_138 : (Cond.fieldLink "ToolHouse" (112 : Nat) "ToolHouse$LawReader" "fault" "I") ∈ TB := List.mem_filter.mpr ⟨tm_1 _ (List.mem_of_getElem? (i := 86) rfl), rfl⟩
theorem tw_139 : (Cond.fieldLink "ToolHouse$LawReader" (19 : Nat) "ToolHouse$LawReader" "place" "I") ∈ TB := List.mem_filter.mpr ⟨tm_1 _ (List.mem_of_getElem? (i := 87) rfl), rfl⟩
theorem tw_140 : (Cond.fieldLink "ToolHouse" (108 : Nat) "ToolHouse$LawReader" "place" "I") ∈ TB := List.mem_filter.mpr ⟨tm_1 _ (List.mem_of_getElem? (i := 88) rfl), rfl⟩
theorem tw_141 : (Cond.fieldLink "ToolHouse$LawReader" (22 : Nat) "ToolHouse$LawReader" "due" "I") ∈ TB := List.mem_filter.mpr ⟨tm_1 _ (List.mem_of_getElem? (i := 89) rfl), rfl⟩
theorem tw_142 : (Cond.fieldLink "ToolHouse$LawReader" (25 : Nat) "ToolHouse$LawReader" "kindTold" "I") ∈ TB := List.mem_filter.mpr ⟨tm_1 _ (List.mem_of_getElem? (i := 90) rfl), rfl⟩
theorem tw_154 : (Cond.classLink "ToolHouse" (42 : Nat) "ToolHouse$LawBook") ∈ TB := List.mem_filter.mpr ⟨tm_1 _ (List.mem_of_getElem? (i := 102) rfl), rfl⟩
theorem tw_155 : (Cond.instantiable "ToolHouse$LawBook" (3 : Nat)) ∈ TB := List.mem_filter.mpr ⟨tm_1 _ (List.mem_of_getElem? (i := 103) rfl), rfl⟩
theorem tw_156 : (Cond.methodLink "ToolHouse" (44 : Nat) ({ cls := "ToolHouse$LawBook", name := "<init>", desc := "()V" } : MethodName)) ∈ TB := List.mem_filter.mpr ⟨tm_1 _ (List.mem_of_getElem? (i := 104) rfl), rfl⟩
theorem tw_157 : (Cond.instanceMethod ({ cls := "ToolHouse$LawBook", name := "<init>", desc := "()V" } : MethodName)) ∈ TB := List.mem_filter.mpr ⟨tm_1 _ (List.mem_of_getElem? (i := 105) rfl), rfl⟩
theorem tw_158 : (Cond.code ({ cls := "ToolHouse$LawBook", name := "<init>", desc := "()V" } : MethodName) prog_4_method_1_code (1 : Nat) (none : Option Jvm.ClassFile.FieldType)) ∈ TB := List.mem_filter.mpr ⟨tm_1 _ (List.mem_of_getElem? (i := 106) rfl), rfl⟩
theorem tw_159 : (Cond.methodLink "ToolHouse$LawBook" (3 : Nat) ({ cls := "java/lang/Object", name := "<init>", desc := "()V" } : MethodName)) ∈ TB := List.mem_filter.mpr ⟨tm_1 _ (List.mem_of_getElem? (i := 107) rfl), rfl⟩
theorem tw_160 : (Cond.methodLink "ToolHouse$LawBook" (22 : Nat) ({ cls := "java/util/Arrays", name := "fill", desc := "([II)V" } : MethodName)) ∈ TB := List.mem_filter.mpr ⟨tm_1 _ (List.mem_of_getElem? (i := 108) rfl), rfl⟩
theorem tw_161 : (Cond.static ({ cls := "java/util/Arrays", name := "fill", desc := "([II)V" } : MethodName)) ∈ TB := List.mem_filter.mpr ⟨tm_1 _ (List.mem_of_getElem? (i := 109) rfl), rfl⟩
theorem tw_162 : (Cond.code ({ cls := "java/util/Arrays", name := "fill", desc := "([II)V" } : MethodName) prog_26_method_103_code (4 : Nat) (none : Option Jvm.ClassFile.FieldType)) ∈ TB := List.mem_filter.mpr ⟨tm_1 _ (List.mem_of_getElem? (i := 110) rfl), rfl⟩
theorem tw_163 : (Cond.fieldLink "ToolHouse$LawBook" (9 : Nat) "ToolHouse$LawBook" "told" "I") ∈ TB := List.mem_filter.mpr ⟨tm_1 _ (List.mem_of_getElem? (i := 111) rfl), rfl⟩
theorem tw_164 : (Cond.fieldLink "ToolHouse" (101 : Nat) "ToolHouse$LawBook" "told" "I") ∈ TB := List.mem_filter.mpr ⟨tm_1 _ (List.mem_of_getElem? (i := 112) rfl), rfl⟩
theorem tw_165 : (Cond.fieldLink "ToolHouse$LawBook" (15 : Nat) "ToolHouse$LawBook" "place" "I") ∈ TB := List.mem_filter.mpr ⟨tm_1 _ (List.mem_of_getElem? (i := 113) rfl), rfl⟩
theorem tw_166 : (Cond.fieldLink "ToolHouse" (111 : Nat) "ToolHouse$LawBook" "place" "I") ∈ TB := List.mem_filter.mpr ⟨tm_1 _ (List.mem_of_getElem? (i := 114) rfl), rfl⟩
theorem tw_167 : (Cond.fieldLink "ToolHouse$LawBook" (18 : Nat) "ToolHouse$LawBook" "wanted" "[I") ∈ TB := List.mem_filter.mpr ⟨tm_1 _ (List.mem_of_getElem? (i := 115) rfl), rfl⟩
theorem tw_175 : (Cond.classLink "ToolHouse" (49 : Nat) "ToolHouse$Planner") ∈ TB := List.mem_filter.mpr ⟨tm_1 _ (List.mem_of_getElem? (i := 123) rfl), rfl⟩
theorem tw_176 : (Cond.instantiable "ToolHouse$Planner" (4 : Nat)) ∈ TB := List.mem_filter.mpr ⟨tm_1 _ (List.mem_of_getElem? (i := 124) rfl), rfl⟩
theorem tw_177 : (Cond.methodLinkNest "ToolHouse" (51 : Nat) ({ cls := "ToolHouse$Planner", name := "<init>", desc := "()V" } : MethodName) "ToolHouse") ∈ NW := List.mem_filter.mpr ⟨tm_1 _ (List.mem_of_getElem? (i := 125) rfl), rfl⟩
theorem tw_178 : (Cond.instanceMethod ({ cls := "ToolHouse$Planner", name := "<init>", desc := "()V" } : MethodName)) ∈ TB := List.mem_filter.mpr ⟨tm_1 _ (List.mem_of_getElem? (i := 126) rfl), rfl⟩
theorem tw_179 : (Cond.code ({ cls := "ToolHouse$Planner", name := "<init>", desc := "()V" } : MethodName) prog_7_method_1_code (1 : Nat) (none : Option Jvm.ClassFile.FieldType)) ∈ TB := List.mem_filter.mpr ⟨tm_1 _ (List.mem_of_getElem? (i := 127) rfl), rfl⟩
theorem tw_180 : (Cond.methodLink "ToolHouse$Planner" (5 : Nat) ({ cls := "java/lang/Object", name := "<init>", desc := "()V" } : MethodName)) ∈ TB := List.mem_filter.mpr ⟨tm_1 _ (List.mem_of_getElem? (i := 128) rfl), rfl⟩
theorem tw_181 : (Cond.classLink "ToolHouse$Planner" (11 : Nat) "ToolHouse$Ask") ∈ TB := List.mem_filter.mpr ⟨tm_1 _ (List.mem_of_getElem? (i := 129) rfl), rfl⟩
theorem tw_183 : (Cond.fieldLink "ToolHouse$Planner" (13 : Nat) "ToolHouse$Planner" "row" "[LToolHouse$Ask;") ∈ TB := List.mem_filter.mpr ⟨tm_1 _ (List.mem_of_getElem? (i := 131) rfl), rfl⟩
theorem tw_184 : (Cond.fieldLink "ToolHouse$Planner" (17 : Nat) "ToolHouse$Planner" "size" "I") ∈ TB := List.mem_filter.mpr ⟨tm_1 _ (List.mem_of_getElem? (i := 132) rfl), rfl⟩
theorem tw_185 : (Cond.fieldLink "ToolHouse$Planner" (21 : Nat) "ToolHouse$Planner" "most" "[I") ∈ TB := List.mem_filter.mpr ⟨tm_1 _ (List.mem_of_getElem? (i := 133) rfl), rfl⟩
theorem tw_186 : (Cond.fieldLink "ToolHouse$Planner" (25 : Nat) "ToolHouse$Planner" "gains" "[I") ∈ TB := List.mem_filter.mpr ⟨tm_1 _ (List.mem_of_getElem? (i := 134) rfl), rfl⟩
theorem tw_196 : (Cond.fieldLink "ToolHouse" (10 : Nat) "ToolHouse" "kinds" "Ljava/util/ArrayList;") ∈ TB := List.mem_filter.mpr ⟨tm_1 _ (List.mem_of_getElem? (i := 144) rfl), rfl⟩
theorem tw_197 : (Cond.fieldLink "ToolHouse" (16 : Nat) "ToolHouse" "things" "Ljava/util/ArrayList;") ∈ TB := List.mem_filter.mpr ⟨tm_1 _ (List.mem_of_getElem? (i := 145) rfl), rfl⟩
theorem tw_198 : (Cond.fieldLink "ToolHouse" (19 : Nat) "ToolHouse" "members" "Ljava/util/ArrayList;") ∈ TB := List.mem_filter.mpr ⟨tm_1 _ (List.mem_of_getElem? (i := 146) rfl), rfl⟩
theorem tw_199 : (Cond.fieldLink "ToolHouse" (22 : Nat) "ToolHouse" "asks" "Ljava/util/ArrayList;") ∈ TB := List.mem_filter.mpr ⟨tm_1 _ (List.mem_of_getElem? (i := 147) rfl), rfl⟩
theorem tw_200 : (Cond.fieldLink "ToolHouse" (25 : Nat) "ToolHouse" "log" "Ljava/util/ArrayList;") ∈ TB := List.mem_filter.mpr ⟨tm_1 _ (List.mem_of_getElem? (i := 148) rfl), rfl⟩
theorem tw_201 : (Cond.fieldLink "ToolHouse" (31 : Nat) "ToolHouse" "tape" "LToolHouse$Tape;") ∈ TB := List.mem_filter.mpr ⟨tm_1 _ (List.mem_of_getElem? (i := 149) rfl), rfl⟩
theorem tw_202 : (Cond.fieldLink "ToolHouse" (38 : Nat) "ToolHouse" "reader" "LToolHouse$LawReader;") ∈ TB := List.mem_filter.mpr ⟨tm_1 _ (List.mem_of_getElem? (i := 150) rfl), rfl⟩
theorem tw_203 : (Cond.fieldLink "ToolHouse" (45 : Nat) "ToolHouse" "laws" "LToolHouse$LawBook;") ∈ TB := List.mem_filter.mpr ⟨tm_1 _ (List.mem_of_getElem? (i := 151) rfl), rfl⟩
theorem tw_204 : (Cond.fieldLink "ToolHouse" (52 : Nat) "ToolHouse" "planner" "LToolHouse$Planner;") ∈ TB := List.mem_filter.mpr ⟨tm_1 _ (List.mem_of_getElem? (i := 152) rfl), rfl⟩
theorem tw_205 : (Cond.fieldLink "ToolHouse" (56 : Nat) "ToolHouse" "day" "I") ∈ TB := List.mem_filter.mpr ⟨tm_1 _ (List.mem_of_getElem? (i := 153) rfl), rfl⟩
theorem tw_227 : (Cond.methodLink "ToolHouseLaw" (19 : Nat) ({ cls := "ToolHouse", name := "kind", desc := "(III)I" } : MethodName)) ∈ TB := List.mem_filter.mpr ⟨tm_1 _ (List.mem_of_getElem? (i := 175) rfl), rfl⟩
theorem tw_228 : (Cond.instanceMethod ({ cls := "ToolHouse", name := "kind", desc := "(III)I" } : MethodName)) ∈ TB := List.mem_filter.mpr ⟨tm_1 _ (List.mem_of_getElem? (i := 176) rfl), rfl⟩
theorem tw_229 : (Cond.selects "ToolHouse" ({ cls := "ToolHouse", name := "kind", desc := "(III)I" } : MethodName) ({ cls := "ToolHouse", name := "kind", desc := "(III)I" } : MethodName)) ∈ TB := List.mem_filter.mpr ⟨tm_1 _ (List.mem_of_getElem? (i := 177) rfl), rfl⟩
theorem tw_230 : (Cond.code ({ cls := "ToolHouse", name := "kind", desc := "(III)I" } : MethodName) prog_1_method_2_code (4 : Nat) (some .int)) ∈ TB := List.mem_filter.mpr ⟨tm_1 _ (List.mem_of_getElem? (i := 178) rfl), rfl⟩
theorem tw_231 : (Cond.methodLink "ToolHouse" (60 : Nat) ({ cls := "java/util/ArrayList", name := "size", desc := "()I" } : MethodName)) ∈ TB := List.mem_filter.mpr ⟨tm_1 _ (List.mem_of_getElem? (i := 179) rfl), rfl⟩
theorem tw_232 : (Cond.instanceMethod ({ cls := "java/util/ArrayList", name := "size", desc := "()I" } : MethodName)) ∈ TB := List.mem_filter.mpr ⟨tm_1 _ (List.mem_of_getElem? (i := 180) rfl), rfl⟩
theorem tw_233 : (Cond.selects "java/util/ArrayList" ({ cls := "java/util/ArrayList", name := "size", desc := "()I" } : MethodName) ({ cls := "java/util/ArrayList", name := "size", desc := "()I" } : MethodName)) ∈ TB := List.mem_filter.mpr ⟨tm_1 _ (List.mem_of_getElem? (i := 181) rfl), rfl⟩
theorem tw_234 : (Cond.code ({ cls := "java/util/ArrayList", name := "size", desc := "()I" } : MethodName) prog_25_method_8_code (1 : Nat) (some .int)) ∈ TB := List.mem_filter.mpr ⟨tm_1 _ (List.mem_of_getElem? (i := 182) rfl), rfl⟩
theorem tw_235 : (Cond.methodLink "ToolHouse" (64 : Nat) ({ cls := "ToolHouse", name := "isWithin", desc := "(III)Z" } : MethodName)) ∈ TB := List.mem_filter.mpr ⟨tm_1 _ (List.mem_of_getElem? (i := 183) rfl), rfl⟩
theorem tw_236 : (Cond.static ({ cls := "ToolHouse", name := "isWithin", desc := "(III)Z" } : MethodName)) ∈ TB := List.mem_filter.mpr ⟨tm_1 _ (List.mem_of_getElem? (i := 184) rfl), rfl⟩
theorem tw_237 : (Cond.code ({ cls := "ToolHouse", name := "isWithin", desc := "(III)Z" } : MethodName) prog_1_method_24_code (3 : Nat) (some .boolean)) ∈ TB := List.mem_filter.mpr ⟨tm_1 _ (List.mem_of_getElem? (i := 185) rfl), rfl⟩
theorem tw_238 : (Cond.classLink "ToolHouse" (68 : Nat) "ToolHouse$Kind") ∈ TB := List.mem_filter.mpr ⟨tm_1 _ (List.mem_of_getElem? (i := 186) rfl), rfl⟩
theorem tw_239 : (Cond.instantiable "ToolHouse$Kind" (4 : Nat)) ∈ TB := List.mem_filter.mpr ⟨tm_1 _ (List.mem_of_getElem? (i := 187) rfl), rfl⟩
theorem tw_240 : (Cond.methodLink "ToolHouse" (70 : Nat) ({ cls := "ToolHouse$Kind", name := "<init>", desc := "(IIII)V" } : MethodName)) ∈ TB := List.mem_filter.mpr ⟨tm_1 _ (List.mem_of_getElem? (i := 188) rfl), rfl⟩
theorem tw_241 : (Cond.instanceMethod ({ cls := "ToolHouse$Kind", name := "<init>", desc := "(IIII)V" } : MethodName)) ∈ TB := List.mem_filter.mpr ⟨tm_1 _ (List.mem_of_getElem? (i := 189) rfl), rfl⟩
theorem tw_242 : (Cond.code ({ cls := "ToolHouse$Kind", name := "<init>", desc := "(IIII)V" } : MethodName) prog_3_method_1_code (5 : Nat) (none : Option Jvm.ClassFile.FieldType)) ∈ TB := List.mem_filter.mpr ⟨tm_1 _ (List.mem_of_getElem? (i := 190) rfl), rfl⟩
theorem tw_243 : (Cond.methodLink "ToolHouse$Kind" (1 : Nat) ({ cls := "java/lang/Object", name := "<init>", desc := "()V" } : MethodName)) ∈ TB := List.mem_filter.mpr ⟨tm_1 _ (List.mem_of_getElem? (i := 191) rfl), rfl⟩
theorem tw_244 : (Cond.fieldLink "ToolHouse$Kind" (7 : Nat) "ToolHouse$Kind" "number" "I") ∈ TB := List.mem_filter.mpr ⟨tm_1 _ (List.mem_of_getElem? (i := 192) rfl), rfl⟩
theorem tw_245 : (Cond.fieldLink "ToolHouse$LawBook" (34 : Nat) "ToolHouse$Kind" "number" "I") ∈ TB := List.mem_filter.mpr ⟨tm_1 _ (List.mem_of_getElem? (i := 193) rfl), rfl⟩
theorem tw_246 : (Cond.fieldLink "ToolHouse" (258 : Nat) "ToolHouse$Kind" "number" "I") ∈ TB := List.mem_filter.mpr ⟨tm_1 _ (List.mem_of_getElem? (i := 194) rfl), rfl⟩
theorem tw_247 : (Cond.fieldLink "ToolHouse$Kind" (13 : Nat) "ToolHouse$Kind" "care" "I") ∈ TB := List.mem_filter.mpr ⟨tm_1 _ (List.mem_of_getElem? (i := 195) rfl), rfl⟩
theorem tw_248 : (Cond.fieldLink "ToolHouse$Thing" (34 : Nat) "ToolHouse$Kind" "care" "I") ∈ TB := List.mem_filter.mpr ⟨tm_1 _ (List.mem_of_getElem? (i := 196) rfl), rfl⟩
theorem tw_249 : (Cond.fieldLink "ToolHouse$Planner" (62 : Nat) "ToolHouse$Kind" "care" "I") ∈ TB := List.mem_filter.mpr ⟨tm_1 _ (List.mem_of_getElem? (i := 197) rfl), rfl⟩
theorem tw_250 : (Cond.fieldLink "ToolHouse" (240 : Nat) "ToolHouse$Kind" "care" "I") ∈ TB := List.mem_filter.mpr ⟨tm_1 _ (List.mem_of_getElem? (i := 198) rfl), rfl⟩
theorem tw_251 : (Cond.fieldLink "ToolHouse$Kind" (16 : Nat) "ToolHouse$Kind" "features" "I") ∈ TB := List.mem_filter.mpr ⟨tm_1 _ (List.mem_of_getElem? (i := 199) rfl), rfl⟩
theorem tw_252 : (Cond.fieldLink "ToolHouse$Kind" (19 : Nat) "ToolHouse$Kind" "fee" "I") ∈ TB := List.mem_filter.mpr ⟨tm_1 _ (List.mem_of_getElem? (i := 200) rfl), rfl⟩
theorem tw_253 : (Cond.fieldLink "ToolHouse" (214 : Nat) "ToolHouse$Kind" "fee" "I") ∈ TB := List.mem_filter.mpr ⟨tm_1 _ (List.mem_of_getElem? (i := 201) rfl), rfl⟩
theorem tw_263 : (Cond.methodLink "ToolHouse" (73 : Nat) ({ cls := "java/util/ArrayList", name := "add", desc := "(Ljava/lang/Object;)Z" } : MethodName)) ∈ TB := List.mem_filter.mpr ⟨tm_1 _ (List.mem_of_getElem? (i := 211) rfl), rfl⟩
theorem tw_264 : (Cond.instanceMethod ({ cls := "java/util/ArrayList", name := "add", desc := "(Ljava/lang/Object;)Z" } : MethodName)) ∈ TB := List.mem_filter.mpr ⟨tm_1 _ (List.mem_of_getElem? (i := 212) rfl), rfl⟩
theorem tw_265 : (Cond.selects "java/util/ArrayList" ({ cls := "java/util/ArrayList", name := "add", desc := "(Ljava/lang/Object;)Z" } : MethodName) ({ cls := "java/util/ArrayList", name := "add", desc := "(Ljava/lang/Object;)Z" } : MethodName)) ∈ TB := List.mem_filter.mpr ⟨tm_1 _ (List.mem_of_getElem? (i := 213) rfl), rfl⟩
theorem tw_266 : (Cond.code ({ cls := "java/util/ArrayList", name := "add", desc := "(Ljava/lang/Object;)Z" } : MethodName) prog_25_method_25_code (2 : Nat) (some .boolean)) ∈ TB := List.mem_filter.mpr ⟨tm_1 _ (List.mem_of_getElem? (i := 214) rfl), rfl⟩
theorem tw_267 : (Cond.methodLink "java/util/ArrayList" (131 : Nat) ({ cls := "java/util/ArrayList", name := "add", desc := "(Ljava/lang/Object;[Ljava/lang/Object;I)V" } : MethodName)) ∈ TB := List.mem_filter.mpr ⟨tm_1 _ (List.mem_of_getElem? (i := 215) rfl), rfl⟩
theorem tw_269 : (Cond.instanceMethod ({ cls := "java/util/ArrayList", name := "add", desc := "(Ljava/lang/Object;[Ljava/lang/Object;I)V" } : MethodName)) ∈ TB := List.mem_filter.mpr ⟨tm_1 _ (List.mem_of_getElem? (i := 217) rfl), rfl⟩
theorem tw_270 : (Cond.code ({ cls := "java/util/ArrayList", name := "add", desc := "(Ljava/lang/Object;[Ljava/lang/Object;I)V" } : MethodName) prog_25_method_24_code (4 : Nat) (none : Option Jvm.ClassFile.FieldType)) ∈ TB := List.mem_filter.mpr ⟨tm_1 _ (List.mem_of_getElem? (i := 218) rfl), rfl⟩
theorem tw_271 : (Cond.methodLink "java/util/ArrayList" (129 : Nat) ({ cls := "java/util/ArrayList", name := "grow", desc := "()[Ljava/lang/Object;" } : MethodName)) ∈ TB := List.mem_filter.mpr ⟨tm_1 _ (List.mem_of_getElem? (i := 219) rfl), rfl⟩
theorem tw_273 : (Cond.instanceMethod ({ cls := "java/util/ArrayList", name := "grow", desc := "()[Ljava/lang/Object;" } : MethodName)) ∈ TB := List.mem_filter.mpr ⟨tm_1 _ (List.mem_of_getElem? (i := 221) rfl), rfl⟩
theorem tw_274 : (Cond.code ({ cls := "java/util/ArrayList", name := "grow", desc := "()[Ljava/lang/Object;" } : MethodName) prog_25_method_7_code (1 : Nat) (some (.array (.object "java/lang/Object")))) ∈ TB := List.mem_filter.mpr ⟨tm_1 _ (List.mem_of_getElem? (i := 222) rfl), rfl⟩
theorem tw_275 : (Cond.methodLink "java/util/ArrayList" (69 : Nat) ({ cls := "java/util/ArrayList", name := "grow", desc := "(I)[Ljava/lang/Object;" } : MethodName)) ∈ TB := List.mem_filter.mpr ⟨tm_1 _ (List.mem_of_getElem? (i := 223) rfl), rfl⟩
theorem tw_277 : (Cond.instanceMethod ({ cls := "java/util/ArrayList", name := "grow", desc := "(I)[Ljava/lang/Object;" } : MethodName)) ∈ TB := List.mem_filter.mpr ⟨tm_1 _ (List.mem_of_getElem? (i := 225) rfl), rfl⟩
theorem tw_278 : (Cond.code ({ cls := "java/util/ArrayList", name := "grow", desc := "(I)[Ljava/lang/Object;" } : MethodName) prog_25_method_6_code (4 : Nat) (some (.array (.object "java/lang/Object")))) ∈ TB := List.mem_filter.mpr ⟨tm_1 _ (List.mem_of_getElem? (i := 226) rfl), rfl⟩
theorem tw_279 : (Cond.methodLink "java/util/ArrayList" (73 : Nat) ({ cls := "jdk/internal/util/ArraysSupport", name := "newLength", desc := "(III)I" } : MethodName)) ∈ TB := List.mem_filter.mpr ⟨tm_1 _ (List.mem_of_getElem? (i := 227) rfl), rfl⟩
theorem tw_280 : (Cond.static ({ cls := "jdk/internal/util/ArraysSupport", name := "newLength", desc := "(III)I" } : MethodName)) ∈ TB := List.mem_filter.mpr ⟨tm_1 _ (List.mem_of_getElem? (i := 228) rfl), rfl⟩
theorem tw_281 : (Cond.code ({ cls := "jdk/internal/util/ArraysSupport", name := "newLength", desc := "(III)I" } : MethodName) prog_33_method_27_code (4 : Nat) (some .int)) ∈ TB := List.mem_filter.mpr ⟨tm_1 _ (List.mem_of_getElem? (i := 229) rfl), rfl⟩
theorem tw_282 : (Cond.methodLink "jdk/internal/util/ArraysSupport" (194 : Nat) ({ cls := "java/lang/Math", name := "max", desc := "(II)I" } : MethodName)) ∈ TB := List.mem_filter.mpr ⟨tm_1 _ (List.mem_of_getElem? (i := 230) rfl), rfl⟩
theorem tw_283 : (Cond.static ({ cls := "java/lang/Math", name := "max", desc := "(II)I" } : MethodName)) ∈ TB := List.mem_filter.mpr ⟨tm_1 _ (List.mem_of_getElem? (i := 231) rfl), rfl⟩
theorem tw_284 : (Cond.code ({ cls := "java/lang/Math", name := "max", desc := "(II)I" } : MethodName) prog_16_method_65_code (2 : Nat) (some .int)) ∈ TB := List.mem_filter.mpr ⟨tm_1 _ (List.mem_of_getElem? (i := 232) rfl), rfl⟩
theorem tw_285 : (Cond.constant "jdk/internal/util/ArraysSupport" (200 : Nat) (2147483639 : Int32)) ∈ TB := List.mem_filter.mpr ⟨tm_1 _ (List.mem_of_getElem? (i := 233) rfl), rfl⟩
theorem tw_286 : (Cond.methodLink "jdk/internal/util/ArraysSupport" (201 : Nat) ({ cls := "jdk/internal/util/ArraysSupport", name := "hugeLength", desc := "(II)I" } : MethodName)) ∈ TB := List.mem_filter.mpr ⟨tm_1 _ (List.mem_of_getElem? (i := 234) rfl), rfl⟩
theorem tw_287 : (Cond.static ({ cls := "jdk/internal/util/ArraysSupport", name := "hugeLength", desc := "(II)I" } : MethodName)) ∈ TB := List.mem_filter.mpr ⟨tm_1 _ (List.mem_of_getElem? (i := 235) rfl), rfl⟩
theorem tw_288 : (Cond.code ({ cls := "jdk/internal/util/ArraysSupport", name := "hugeLength", desc := "(II)I" } : MethodName) prog_33_method_28_code (3 : Nat) (some .int)) ∈ TB := List.mem_filter.mpr ⟨tm_1 _ (List.mem_of_getElem? (i := 236) rfl), rfl⟩
theorem tw_289 : (Cond.methodLink "java/util/ArrayList" (66 : Nat) ({ cls := "java/util/Arrays", name := "copyOf", desc := "([Ljava/lang/Object;I)[Ljava/lang/Object;" } : MethodName)) ∈ TB := List.mem_filter.mpr ⟨tm_1 _ (List.mem_of_getElem? (i := 237) rfl), rfl⟩
theorem tw_290 : (Cond.static ({ cls := "java/util/Arrays", name := "copyOf", desc := "([Ljava/lang/Object;I)[Ljava/lang/Object;" } : MethodName)) ∈ TB := List.mem_filter.mpr ⟨tm_1 _ (List.mem_of_getElem? (i := 238) rfl), rfl⟩
theorem tw_291 : (Cond.code ({ cls := "java/util/Arrays", name := "copyOf", desc := "([Ljava/lang/Object;I)[Ljava/lang/Object;" } : MethodName) prog_26_method_119_code (2 : Nat) (some (.array (.object "java/lang/Object")))) ∈ TB := List.mem_filter.mpr ⟨tm_1 _ (List.mem_of_getElem? (i := 239) rfl), rfl⟩
theorem tw_292 : (Cond.methodLink "java/util/Arrays" (86 : Nat) ({ cls := "java/lang/Object", name := "getClass", desc := "()Ljava/lang/Class;" } : MethodName)) ∈ TB := List.mem_filter.mpr ⟨tm_2 _ (List.mem_of_getElem? (i := 0) rfl), rfl⟩
theorem tw_293 : (Cond.instanceMethod ({ cls := "java/lang/Object", name := "getClass", desc := "()Ljava/lang/Class;" } : MethodName)) ∈ TB := List.mem_filter.mpr ⟨tm_2 _ (List.mem_of_getElem? (i := 1) rfl), rfl⟩
theorem tw_295 : (Cond.selects "ToolHouse" ({ cls := "java/lang/Object", name := "getClass", desc := "()Ljava/lang/Class;" } : MethodName) ({ cls := "java/lang/Object", name := "getClass", desc := "()Ljava/lang/Class;" } : MethodName)) ∈ TB := List.mem_filter.mpr ⟨tm_2 _ (List.mem_of_getElem? (i := 3) rfl), rfl⟩
theorem tw_296 : (Cond.selects "ToolHouse$Ask" ({ cls := "java/lang/Object", name := "getClass", desc := "()Ljava/lang/Class;" } : MethodName) ({ cls := "java/lang/Object", name := "getClass", desc := "()Ljava/lang/Class;" } : MethodName)) ∈ TB := List.mem_filter.mpr ⟨tm_2 _ (List.mem_of_getElem? (i := 4) rfl), rfl⟩
theorem tw_297 : (Cond.selects "ToolHouse$Kind" ({ cls := "java/lang/Object", name := "getClass", desc := "()Ljava/lang/Class;" } : MethodName) ({ cls := "java/lang/Object", name := "getClass", desc := "()Ljava/lang/Class;" } : MethodName)) ∈ TB := List.mem_filter.mpr ⟨tm_2 _ (List.mem_of_getElem? (i := 5) rfl), rfl⟩
theorem tw_298 : (Cond.selects "ToolHouse$LawBook" ({ cls := "java/lang/Object", name := "getClass", desc := "()Ljava/lang/Class;" } : MethodName) ({ cls := "java/lang/Object", name := "getClass", desc := "()Ljava/lang/Class;" } : MethodName)) ∈ TB := List.mem_filter.mpr ⟨tm_2 _ (List.mem_of_getElem? (i := 6) rfl), rfl⟩
theorem tw_299 : (Cond.selects "ToolHouse$LawReader" ({ cls := "java/lang/Object", name := "getClass", desc := "()Ljava/lang/Class;" } : MethodName) ({ cls := "java/lang/Object", name := "getClass", desc := "()Ljava/lang/Class;" } : MethodName)) ∈ TB := List.mem_filter.mpr ⟨tm_2 _ (List.mem_of_getElem? (i := 7) rfl), rfl⟩
theorem tw_300 : (Cond.selects "ToolHouse$Member" ({ cls := "java/lang/Object", name := "getClass", desc := "()Ljava/lang/Class;" } : MethodName) ({ cls := "java/lang/Object", name := "getClass", desc := "()Ljava/lang/Class;" } : MethodName)) ∈ TB := List.mem_filter.mpr ⟨tm_2 _ (List.mem_of_getElem? (i := 8) rfl), rfl⟩
theorem tw_301 : (Cond.selects "ToolHouse$Planner" ({ cls := "java/lang/Object", name := "getClass", desc := "()Ljava/lang/Class;" } : MethodName) ({ cls := "java/lang/Object", name := "getClass", desc := "()Ljava/lang/Class;" } : MethodName)) ∈ TB := List.mem_filter.mpr ⟨tm_2 _ (List.mem_of_getElem? (i := 9) rfl), rfl⟩
theorem tw_302 : (Cond.selects "ToolHouse$Tape" ({ cls := "java/lang/Object", name := "getClass", desc := "()Ljava/lang/Class;" } : MethodName) ({ cls := "java/lang/Object", name := "getClass", desc := "()Ljava/lang/Class;" } : MethodName)) ∈ TB := List.mem_filter.mpr ⟨tm_2 _ (List.mem_of_getElem? (i := 10) rfl), rfl⟩
theorem tw_303 : (Cond.selects "ToolHouse$Thing" ({ cls := "java/lang/Object", name := "getClass", desc := "()Ljava/lang/Class;" } : MethodName) ({ cls := "java/lang/Object", name := "getClass", desc := "()Ljava/lang/Class;" } : MethodName)) ∈ TB := List.mem_filter.mpr ⟨tm_2 _ (List.mem_of_getElem? (i := 11) rfl), rfl⟩
theorem tw_304 : (Cond.selects "ToolHouseModel" ({ cls := "java/lang/Object", name := "getClass", desc := "()Ljava/lang/Class;" } : MethodName) ({ cls := "java/lang/Object", name := "getClass", desc := "()Ljava/lang/Class;" } : MethodName)) ∈ TB := List.mem_filter.mpr ⟨tm_2 _ (List.mem_of_getElem? (i := 12) rfl), rfl⟩
theorem tw_305 : (Cond.selects "java/util/ArrayList" ({ cls := "java/lang/Object", name := "getClass", desc := "()Ljava/lang/Class;" } : MethodName) ({ cls := "java/lang/Object", name := "getClass", desc := "()Ljava/lang/Class;" } : MethodName)) ∈ TB := List.mem_filter.mpr ⟨tm_2 _ (List.mem_of_getElem? (i := 13) rfl), rfl⟩
theorem tw_306 : (Cond.selects "java/util/NoSuchElementException" ({ cls := "java/lang/Object", name := "getClass", desc := "()Ljava/lang/Class;" } : MethodName) ({ cls := "java/lang/Object", name := "getClass", desc := "()Ljava/lang/Class;" } : MethodName)) ∈ TB := List.mem_filter.mpr ⟨tm_2 _ (List.mem_of_getElem? (i := 14) rfl), rfl⟩
theorem tw_308 : (Cond.methodLink "java/util/Arrays" (300 : Nat) ({ cls := "java/util/Arrays", name := "copyOf", desc := "([Ljava/lang/Object;ILjava/lang/Class;)[Ljava/lang/Object;" } : MethodName)) ∈ TB := List.mem_filter.mpr ⟨tm_2 _ (List.mem_of_getElem? (i := 16) rfl), rfl⟩
theorem tw_309 : (Cond.static ({ cls := "java/util/Arrays", name := "copyOf", desc := "([Ljava/lang/Object;ILjava/lang/Class;)[Ljava/lang/Object;" } : MethodName)) ∈ TB := List.mem_filter.mpr ⟨tm_2 _ (List.mem_of_getElem? (i := 17) rfl), rfl⟩
theorem tw_310 : (Cond.code ({ cls := "java/util/Arrays", name := "copyOf", desc := "([Ljava/lang/Object;ILjava/lang/Class;)[Ljava/lang/Object;" } : MethodName) prog_26_method_120_code (4 : Nat) (some (.array (.object "java/lang/Object")))) ∈ TB := List.mem_filter.mpr ⟨tm_2 _ (List.mem_of_getElem? (i := 18) rfl), rfl⟩
theorem tw_311 : (Cond.classLink "java/util/Arrays" (110 : Nat) "[Ljava/lang/Object;") ∈ TB := List.mem_filter.mpr ⟨tm_2 _ (List.mem_of_getElem? (i := 19) rfl), rfl⟩
theorem tw_313 : (Cond.classLink "java/util/Arrays" (2 : Nat) "java/lang/Object") ∈ TB := List.mem_filter.mpr ⟨tm_2 _ (List.mem_of_getElem? (i := 21) rfl), rfl⟩
theorem tw_314 : (Cond.methodLink "java/util/Arrays" (304 : Nat) ({ cls := "java/lang/Math", name := "min", desc := "(II)I" } : MethodName)) ∈ TB := List.mem_filter.mpr ⟨tm_2 _ (List.mem_of_getElem? (i := 22) rfl), rfl⟩
theorem tw_315 : (Cond.static ({ cls := "java/lang/Math", name := "min", desc := "(II)I" } : MethodName)) ∈ TB := List.mem_filter.mpr ⟨tm_2 _ (List.mem_of_getElem? (i := 23) rfl), rfl⟩
theorem tw_316 : (Cond.code ({ cls := "java/lang/Math", name := "min", desc := "(II)I" } : MethodName) prog_16_method_69_code (2 : Nat) (some .int)) ∈ TB := List.mem_filter.mpr ⟨tm_2 _ (List.mem_of_getElem? (i := 24) rfl), rfl⟩
theorem tw_317 : (Cond.methodLink "java/util/Arrays" (150 : Nat) ({ cls := "java/lang/System", name := "arraycopy", desc := "(Ljava/lang/Object;ILjava/lang/Object;II)V" } : MethodName)) ∈ TB := List.mem_filter.mpr ⟨tm_2 _ (List.mem_of_getElem? (i := 25) rfl), rfl⟩
theorem tw_318 : (Cond.static ({ cls := "java/lang/System", name := "arraycopy", desc := "(Ljava/lang/Object;ILjava/lang/Object;II)V" } : MethodName)) ∈ TB := List.mem_filter.mpr ⟨tm_2 _ (List.mem_of_getElem? (i := 26) rfl), rfl⟩
theorem tw_320 : (Cond.methodLink "java/util/ArrayList" (79 : Nat) ({ cls := "java/lang/Math", name := "max", desc := "(II)I" } : MethodName)) ∈ TB := List.mem_filter.mpr ⟨tm_2 _ (List.mem_of_getElem? (i := 28) rfl), rfl⟩
theorem tw_321 : (Cond.classLink "java/util/ArrayList" (7 : Nat) "java/lang/Object") ∈ TB := List.mem_filter.mpr ⟨tm_2 _ (List.mem_of_getElem? (i := 29) rfl), rfl⟩
theorem tw_322 : (Cond.methodLink "ToolHouseLaw" (24 : Nat) ({ cls := "ToolHouse", name := "thing", desc := "(I)I" } : MethodName)) ∈ TB := List.mem_filter.mpr ⟨tm_2 _ (List.mem_of_getElem? (i := 30) rfl), rfl⟩
theorem tw_323 : (Cond.instanceMethod ({ cls := "ToolHouse", name := "thing", desc := "(I)I" } : MethodName)) ∈ TB := List.mem_filter.mpr ⟨tm_2 _ (List.mem_of_getElem? (i := 31) rfl), rfl⟩
theorem tw_324 : (Cond.selects "ToolHouse" ({ cls := "ToolHouse", name := "thing", desc := "(I)I" } : MethodName) ({ cls := "ToolHouse", name := "thing", desc := "(I)I" } : MethodName)) ∈ TB := List.mem_filter.mpr ⟨tm_2 _ (List.mem_of_getElem? (i := 32) rfl), rfl⟩
theorem tw_325 : (Cond.code ({ cls := "ToolHouse", name := "thing", desc := "(I)I" } : MethodName) prog_1_method_3_code (3 : Nat) (some .int)) ∈ TB := List.mem_filter.mpr ⟨tm_2 _ (List.mem_of_getElem? (i := 33) rfl), rfl⟩
theorem tw_326 : (Cond.methodLink "ToolHouse" (77 : Nat) ({ cls := "ToolHouse", name := "kindAt", desc := "(I)LToolHouse$Kind;" } : MethodName)) ∈ TB := List.mem_filter.mpr ⟨tm_2 _ (List.mem_of_getElem? (i := 34) rfl), rfl⟩
theorem tw_328 : (Cond.instanceMethod ({ cls := "ToolHouse", name := "kindAt", desc := "(I)LToolHouse$Kind;" } : MethodName)) ∈ TB := List.mem_filter.mpr ⟨tm_2 _ (List.mem_of_getElem? (i := 36) rfl), rfl⟩
theorem tw_329 : (Cond.code ({ cls := "ToolHouse", name := "kindAt", desc := "(I)LToolHouse$Kind;" } : MethodName) prog_1_method_26_code (2 : Nat) (some (.object "ToolHouse$Kind"))) ∈ TB := List.mem_filter.mpr ⟨tm_2 _ (List.mem_of_getElem? (i := 37) rfl), rfl⟩
theorem tw_330 : (Cond.methodLink "ToolHouse" (158 : Nat) ({ cls := "java/util/ArrayList", name := "get", desc := "(I)Ljava/lang/Object;" } : MethodName)) ∈ TB := List.mem_filter.mpr ⟨tm_2 _ (List.mem_of_getElem? (i := 38) rfl), rfl⟩
theorem tw_331 : (Cond.instanceMethod ({ cls := "java/util/ArrayList", name := "get", desc := "(I)Ljava/lang/Object;" } : MethodName)) ∈ TB := List.mem_filter.mpr ⟨tm_2 _ (List.mem_of_getElem? (i := 39) rfl), rfl⟩
theorem tw_332 : (Cond.selects "java/util/ArrayList" ({ cls := "java/util/ArrayList", name := "get", desc := "(I)Ljava/lang/Object;" } : MethodName) ({ cls := "java/util/ArrayList", name := "get", desc := "(I)Ljava/lang/Object;" } : MethodName)) ∈ TB := List.mem_filter.mpr ⟨tm_2 _ (List.mem_of_getElem? (i := 40) rfl), rfl⟩
theorem tw_333 : (Cond.code ({ cls := "java/util/ArrayList", name := "get", desc := "(I)Ljava/lang/Object;" } : MethodName) prog_25_method_20_code (2 : Nat) (some (.object "java/lang/Object"))) ∈ TB := List.mem_filter.mpr ⟨tm_2 _ (List.mem_of_getElem? (i := 41) rfl), rfl⟩
theorem tw_334 : (Cond.methodLink "java/util/ArrayList" (118 : Nat) ({ cls := "java/util/Objects", name := "checkIndex", desc := "(II)I" } : MethodName)) ∈ TB := List.mem_filter.mpr ⟨tm_2 _ (List.mem_of_getElem? (i := 42) rfl), rfl⟩
theorem tw_335 : (Cond.static ({ cls := "java/util/Objects", name := "checkIndex", desc := "(II)I" } : MethodName)) ∈ TB := List.mem_filter.mpr ⟨tm_2 _ (List.mem_of_getElem? (i := 43) rfl), rfl⟩
theorem tw_336 : (Cond.code ({ cls := "java/util/Objects", name := "checkIndex", desc := "(II)I" } : MethodName) prog_30_method_17_code (2 : Nat) (some .int)) ∈ TB := List.mem_filter.mpr ⟨tm_2 _ (List.mem_of_getElem? (i := 44) rfl), rfl⟩
theorem tw_337 : (Cond.methodLink "java/util/Objects" (105 : Nat) ({ cls := "jdk/internal/util/Preconditions", name := "checkIndex", desc := "(IILjava/util/function/BiFunction;)I" } : MethodName)) ∈ TB := List.mem_filter.mpr ⟨tm_2 _ (List.mem_of_getElem? (i := 45) rfl), rfl⟩
theorem tw_338 : (Cond.static ({ cls := "jdk/internal/util/Preconditions", name := "checkIndex", desc := "(IILjava/util/function/BiFunction;)I" } : MethodName)) ∈ TB := List.mem_filter.mpr ⟨tm_2 _ (List.mem_of_getElem? (i := 46) rfl), rfl⟩
theorem tw_339 : (Cond.code ({ cls := "jdk/internal/util/Preconditions", name := "checkIndex", desc := "(IILjava/util/function/BiFunction;)I" } : MethodName) prog_34_method_11_code (3 : Nat) (some .int)) ∈ TB := List.mem_filter.mpr ⟨tm_2 _ (List.mem_of_getElem? (i := 47) rfl), rfl⟩
theorem tw_340 : (Cond.methodLink "java/util/ArrayList" (123 : Nat) ({ cls := "java/util/ArrayList", name := "elementData", desc := "(I)Ljava/lang/Object;" } : MethodName)) ∈ TB := List.mem_filter.mpr ⟨tm_2 _ (List.mem_of_getElem? (i := 48) rfl), rfl⟩
theorem tw_341 : (Cond.instanceMethod ({ cls := "java/util/ArrayList", name := "elementData", desc := "(I)Ljava/lang/Object;" } : MethodName)) ∈ TB := List.mem_filter.mpr ⟨tm_2 _ (List.mem_of_getElem? (i := 49) rfl), rfl⟩
theorem tw_342 : (Cond.selects "java/util/ArrayList" ({ cls := "java/util/ArrayList", name := "elementData", desc := "(I)Ljava/lang/Object;" } : MethodName) ({ cls := "java/util/ArrayList", name := "elementData", desc := "(I)Ljava/lang/Object;" } : MethodName)) ∈ TB := List.mem_filter.mpr ⟨tm_2 _ (List.mem_of_getElem? (i := 50) rfl), rfl⟩
theorem tw_343 : (Cond.code ({ cls := "java/util/ArrayList", name := "elementData", desc := "(I)Ljava/lang/Object;" } : MethodName) prog_25_method_18_code (2 : Nat) (some (.object "java/lang/Object"))) ∈ TB := List.mem_filter.mpr ⟨tm_2 _ (List.mem_of_getElem? (i := 51) rfl), rfl⟩
theorem tw_344 : (Cond.classLink "ToolHouse" (81 : Nat) "ToolHouse$Thing") ∈ TB := List.mem_filter.mpr ⟨tm_2 _ (List.mem_of_getElem? (i := 52) rfl), rfl⟩
theorem tw_345 : (Cond.instantiable "ToolHouse$Thing" (5 : Nat)) ∈ TB := List.mem_filter.mpr ⟨tm_2 _ (List.mem_of_getElem? (i := 53) rfl), rfl⟩
theorem tw_346 : (Cond.methodLink "ToolHouse" (83 : Nat) ({ cls := "ToolHouse$Thing", name := "<init>", desc := "(ILToolHouse$Kind;)V" } : MethodName)) ∈ TB := List.mem_filter.mpr ⟨tm_2 _ (List.mem_of_getElem? (i := 54) rfl), rfl⟩
theorem tw_347 : (Cond.instanceMethod ({ cls := "ToolHouse$Thing", name := "<init>", desc := "(ILToolHouse$Kind;)V" } : MethodName)) ∈ TB := List.mem_filter.mpr ⟨tm_2 _ (List.mem_of_getElem? (i := 55) rfl), rfl⟩
theorem tw_348 : (Cond.code ({ cls := "ToolHouse$Thing", name := "<init>", desc := "(ILToolHouse$Kind;)V" } : MethodName) prog_9_method_1_code (3 : Nat) (none : Option Jvm.ClassFile.FieldType)) ∈ TB := List.mem_filter.mpr ⟨tm_2 _ (List.mem_of_getElem? (i := 56) rfl), rfl⟩
theorem tw_349 : (Cond.methodLink "ToolHouse$Thing" (3 : Nat) ({ cls := "java/lang/Object", name := "<init>", desc := "()V" } : MethodName)) ∈ TB := List.mem_filter.mpr ⟨tm_2 _ (List.mem_of_getElem? (i := 57) rfl), rfl⟩
theorem tw_350 : (Cond.fieldLink "ToolHouse$Thing" (22 : Nat) "ToolHouse$Thing" "number" "I") ∈ TB := List.mem_filter.mpr ⟨tm_2 _ (List.mem_of_getElem? (i := 58) rfl), rfl⟩
theorem tw_351 : (Cond.fieldLink "ToolHouse$Planner" (71 : Nat) "ToolHouse$Thing" "number" "I") ∈ TB := List.mem_filter.mpr ⟨tm_2 _ (List.mem_of_getElem? (i := 59) rfl), rfl⟩
theorem tw_352 : (Cond.fieldLink "ToolHouse" (250 : Nat) "ToolHouse$Thing" "number" "I") ∈ TB := List.mem_filter.mpr ⟨tm_2 _ (List.mem_of_getElem? (i := 60) rfl), rfl⟩
theorem tw_353 : (Cond.fieldLink "ToolHouse$Thing" (25 : Nat) "ToolHouse$Thing" "kind" "LToolHouse$Kind;") ∈ TB := List.mem_filter.mpr ⟨tm_2 _ (List.mem_of_getElem? (i := 61) rfl), rfl⟩
theorem tw_354 : (Cond.fieldLink "ToolHouse$LawBook" (28 : Nat) "ToolHouse$Thing" "kind" "LToolHouse$Kind;") ∈ TB := List.mem_filter.mpr ⟨tm_2 _ (List.mem_of_getElem? (i := 62) rfl), rfl⟩
theorem tw_355 : (Cond.fieldLink "ToolHouse$Planner" (56 : Nat) "ToolHouse$Thing" "kind" "LToolHouse$Kind;") ∈ TB := List.mem_filter.mpr ⟨tm_2 _ (List.mem_of_getElem? (i := 63) rfl), rfl⟩
theorem tw_356 : (Cond.fieldLink "ToolHouse" (210 : Nat) "ToolHouse$Thing" "kind" "LToolHouse$Kind;") ∈ TB := List.mem_filter.mpr ⟨tm_2 _ (List.mem_of_getElem? (i := 64) rfl), rfl⟩
theorem tw_357 : (Cond.fieldLink "ToolHouse$Thing" (9 : Nat) "ToolHouse$Thing" "lastLook" "I") ∈ TB := List.mem_filter.mpr ⟨tm_2 _ (List.mem_of_getElem? (i := 65) rfl), rfl⟩
theorem tw_358 : (Cond.fieldLink "ToolHouse$LawBook" (43 : Nat) "ToolHouse$Thing" "lastLook" "I") ∈ TB := List.mem_filter.mpr ⟨tm_2 _ (List.mem_of_getElem? (i := 66) rfl), rfl⟩
theorem tw_359 : (Cond.fieldLink "ToolHouse" (131 : Nat) "ToolHouse$Thing" "lastLook" "I") ∈ TB := List.mem_filter.mpr ⟨tm_2 _ (List.mem_of_getElem? (i := 67) rfl), rfl⟩
theorem tw_360 : (Cond.fieldLink "ToolHouse$Thing" (15 : Nat) "ToolHouse$Thing" "lastBack" "I") ∈ TB := List.mem_filter.mpr ⟨tm_2 _ (List.mem_of_getElem? (i := 68) rfl), rfl⟩
theorem tw_361 : (Cond.fieldLink "ToolHouse" (221 : Nat) "ToolHouse$Thing" "lastBack" "I") ∈ TB := List.mem_filter.mpr ⟨tm_2 _ (List.mem_of_getElem? (i := 69) rfl), rfl⟩
theorem tw_362 : (Cond.fieldLink "ToolHouse$Thing" (18 : Nat) "ToolHouse$Thing" "outWith" "LToolHouse$Ask;") ∈ TB := List.mem_filter.mpr ⟨tm_2 _ (List.mem_of_getElem? (i := 70) rfl), rfl⟩
theorem tw_363 : (Cond.fieldLink "ToolHouse" (127 : Nat) "ToolHouse$Thing" "outWith" "LToolHouse$Ask;") ∈ TB := List.mem_filter.mpr ⟨tm_2 _ (List.mem_of_getElem? (i := 71) rfl), rfl⟩
theorem tw_375 : (Cond.methodLink "ToolHouseLaw" (29 : Nat) ({ cls := "ToolHouse", name := "member", desc := "()I" } : MethodName)) ∈ TB := List.mem_filter.mpr ⟨tm_2 _ (List.mem_of_getElem? (i := 83) rfl), rfl⟩
theorem tw_376 : (Cond.instanceMethod ({ cls := "ToolHouse", name := "member", desc := "()I" } : MethodName)) ∈ TB := List.mem_filter.mpr ⟨tm_2 _ (List.mem_of_getElem? (i := 84) rfl), rfl⟩
theorem tw_377 : (Cond.selects "ToolHouse" ({ cls := "ToolHouse", name := "member", desc := "()I" } : MethodName) ({ cls := "ToolHouse", name := "member", desc := "()I" } : MethodName)) ∈ TB := List.mem_filter.mpr ⟨tm_2 _ (List.mem_of_getElem? (i := 85) rfl), rfl⟩
theorem tw_378 : (Cond.code ({ cls := "ToolHouse", name := "member", desc := "()I" } : MethodName) prog_1_method_4_code (1 : Nat) (some .int)) ∈ TB := List.mem_filter.mpr ⟨tm_2 _ (List.mem_of_getElem? (i := 86) rfl), rfl⟩
theorem tw_379 : (Cond.classLink "ToolHouse" (86 : Nat) "ToolHouse$Member") ∈ TB := List.mem_filter.mpr ⟨tm_2 _ (List.mem_of_getElem? (i := 87) rfl), rfl⟩
theorem tw_380 : (Cond.instantiable "ToolHouse$Member" (4 : Nat)) ∈ TB := List.mem_filter.mpr ⟨tm_2 _ (List.mem_of_getElem? (i := 88) rfl), rfl⟩
theorem tw_381 : (Cond.methodLink "ToolHouse" (88 : Nat) ({ cls := "ToolHouse$Member", name := "<init>", desc := "(I)V" } : MethodName)) ∈ TB := List.mem_filter.mpr ⟨tm_2 _ (List.mem_of_getElem? (i := 89) rfl), rfl⟩
theorem tw_382 : (Cond.instanceMethod ({ cls := "ToolHouse$Member", name := "<init>", desc := "(I)V" } : MethodName)) ∈ TB := List.mem_filter.mpr ⟨tm_2 _ (List.mem_of_getElem? (i := 90) rfl), rfl⟩
theorem tw_383 : (Cond.code ({ cls := "ToolHouse$Member", name := "<init>", desc := "(I)V" } : MethodName) prog_6_method_1_code (2 : Nat) (none : Option Jvm.ClassFile.FieldType)) ∈ TB := List.mem_filter.mpr ⟨tm_2 _ (List.mem_of_getElem? (i := 91) rfl), rfl⟩
theorem tw_384 : (Cond.methodLink "ToolHouse$Member" (1 : Nat) ({ cls := "java/lang/Object", name := "<init>", desc := "()V" } : MethodName)) ∈ TB := List.mem_filter.mpr ⟨tm_2 _ (List.mem_of_getElem? (i := 92) rfl), rfl⟩
theorem tw_385 : (Cond.fieldLink "ToolHouse$Member" (19 : Nat) "ToolHouse$Member" "number" "I") ∈ TB := List.mem_filter.mpr ⟨tm_2 _ (List.mem_of_getElem? (i := 93) rfl), rfl⟩
theorem tw_386 : (Cond.fieldLink "ToolHouse" (256 : Nat) "ToolHouse$Member" "number" "I") ∈ TB := List.mem_filter.mpr ⟨tm_2 _ (List.mem_of_getElem? (i := 94) rfl), rfl⟩
theorem tw_387 : (Cond.fieldLink "ToolHouse$Member" (7 : Nat) "ToolHouse$Member" "hours" "I") ∈ TB := List.mem_filter.mpr ⟨tm_2 _ (List.mem_of_getElem? (i := 95) rfl), rfl⟩
theorem tw_388 : (Cond.fieldLink "ToolHouse" (227 : Nat) "ToolHouse$Member" "hours" "I") ∈ TB := List.mem_filter.mpr ⟨tm_2 _ (List.mem_of_getElem? (i := 96) rfl), rfl⟩
theorem tw_389 : (Cond.fieldLink "ToolHouse$Member" (13 : Nat) "ToolHouse$Member" "fees" "I") ∈ TB := List.mem_filter.mpr ⟨tm_2 _ (List.mem_of_getElem? (i := 97) rfl), rfl⟩
theorem tw_390 : (Cond.fieldLink "ToolHouse" (276 : Nat) "ToolHouse$Member" "fees" "I") ∈ TB := List.mem_filter.mpr ⟨tm_2 _ (List.mem_of_getElem? (i := 98) rfl), rfl⟩
theorem tw_391 : (Cond.fieldLink "ToolHouse$Member" (16 : Nat) "ToolHouse$Member" "asksOut" "I") ∈ TB := List.mem_filter.mpr ⟨tm_2 _ (List.mem_of_getElem? (i := 99) rfl), rfl⟩
theorem tw_392 : (Cond.fieldLink "ToolHouse" (195 : Nat) "ToolHouse$Member" "asksOut" "I") ∈ TB := List.mem_filter.mpr ⟨tm_2 _ (List.mem_of_getElem? (i := 100) rfl), rfl⟩
theorem tw_402 : (Cond.methodLink "ToolHouseLaw" (34 : Nat) ({ cls := "ToolHouse", name := "feed", desc := "(IIIII)I" } : MethodName)) ∈ TB := List.mem_filter.mpr ⟨tm_2 _ (List.mem_of_getElem? (i := 110) rfl), rfl⟩
theorem tw_403 : (Cond.instanceMethod ({ cls := "ToolHouse", name := "feed", desc := "(IIIII)I" } : MethodName)) ∈ TB := List.mem_filter.mpr ⟨tm_2 _ (List.mem_of_getElem? (i := 111) rfl), rfl⟩
theorem tw_404 : (Cond.selects "ToolHouse" ({ cls := "ToolHouse", name := "feed", desc := "(IIIII)I" } : MethodName) ({ cls := "ToolHouse", name := "feed", desc := "(IIIII)I" } : MethodName)) ∈ TB := List.mem_filter.mpr ⟨tm_2 _ (List.mem_of_getElem? (i := 112) rfl), rfl⟩
theorem tw_405 : (Cond.code ({ cls := "ToolHouse", name := "feed", desc := "(IIIII)I" } : MethodName) prog_1_method_5_code (6 : Nat) (some .int)) ∈ TB := List.mem_filter.mpr ⟨tm_2 _ (List.mem_of_getElem? (i := 113) rfl), rfl⟩
theorem tw_406 : (Cond.methodLink "ToolHouse" (91 : Nat) ({ cls := "ToolHouse$Tape", name := "hasRoom", desc := "()Z" } : MethodName)) ∈ TB := List.mem_filter.mpr ⟨tm_2 _ (List.mem_of_getElem? (i := 114) rfl), rfl⟩
theorem tw_407 : (Cond.instanceMethod ({ cls := "ToolHouse$Tape", name := "hasRoom", desc := "()Z" } : MethodName)) ∈ TB := List.mem_filter.mpr ⟨tm_2 _ (List.mem_of_getElem? (i := 115) rfl), rfl⟩
theorem tw_408 : (Cond.selects "ToolHouse$Tape" ({ cls := "ToolHouse$Tape", name := "hasRoom", desc := "()Z" } : MethodName) ({ cls := "ToolHouse$Tape", name := "hasRoom", desc := "()Z" } : MethodName)) ∈ TB := List.mem_filter.mpr ⟨tm_2 _ (List.mem_of_getElem? (i := 116) rfl), rfl⟩
theorem tw_409 : (Cond.code ({ cls := "ToolHouse$Tape", name := "hasRoom", desc := "()Z" } : MethodName) prog_8_method_2_code (1 : Nat) (some .boolean)) ∈ TB := List.mem_filter.mpr ⟨tm_2 _ (List.mem_of_getElem? (i := 117) rfl), rfl⟩
theorem tw_410 : (Cond.methodLink "ToolHouse" (95 : Nat) ({ cls := "ToolHouse$Tape", name := "put", desc := "(I)V" } : MethodName)) ∈ TB := List.mem_filter.mpr ⟨tm_2 _ (List.mem_of_getElem? (i := 118) rfl), rfl⟩
theorem tw_411 : (Cond.instanceMethod ({ cls := "ToolHouse$Tape", name := "put", desc := "(I)V" } : MethodName)) ∈ TB := List.mem_filter.mpr ⟨tm_2 _ (List.mem_of_getElem? (i := 119) rfl), rfl⟩
theorem tw_412 : (Cond.selects "ToolHouse$Tape" ({ cls := "ToolHouse$Tape", name := "put", desc := "(I)V" } : MethodName) ({ cls := "ToolHouse$Tape", name := "put", desc := "(I)V" } : MethodName)) ∈ TB := List.mem_filter.mpr ⟨tm_2 _ (List.mem_of_getElem? (i := 120) rfl), rfl⟩
theorem tw_413 : (Cond.code ({ cls := "ToolHouse$Tape", name := "put", desc := "(I)V" } : MethodName) prog_8_method_3_code (3 : Nat) (none : Option Jvm.ClassFile.FieldType)) ∈ TB := List.mem_filter.mpr ⟨tm_2 _ (List.mem_of_getElem? (i := 121) rfl), rfl⟩
theorem tw_414 : (Cond.methodLink "ToolHouseLaw" (39 : Nat) ({ cls := "ToolHouse", name := "end", desc := "(I)I" } : MethodName)) ∈ TB := List.mem_filter.mpr ⟨tm_2 _ (List.mem_of_getElem? (i := 122) rfl), rfl⟩
theorem tw_415 : (Cond.instanceMethod ({ cls := "ToolHouse", name := "end", desc := "(I)I" } : MethodName)) ∈ TB := List.mem_filter.mpr ⟨tm_2 _ (List.mem_of_getElem? (i := 123) rfl), rfl⟩
theorem tw_416 : (Cond.selects "ToolHouse" ({ cls := "ToolHouse", name := "end", desc := "(I)I" } : MethodName) ({ cls := "ToolHouse", name := "end", desc := "(I)I" } : MethodName)) ∈ TB := List.mem_filter.mpr ⟨tm_2 _ (List.mem_of_getElem? (i := 124) rfl), rfl⟩
theorem tw_417 : (Cond.code ({ cls := "ToolHouse", name := "end", desc := "(I)I" } : MethodName) prog_1_method_6_code (2 : Nat) (some .int)) ∈ TB := List.mem_filter.mpr ⟨tm_2 _ (List.mem_of_getElem? (i := 125) rfl), rfl⟩
theorem tw_418 : (Cond.methodLink "ToolHouseLaw" (43 : Nat) ({ cls := "ToolHouse", name := "law", desc := "()I" } : MethodName)) ∈ TB := List.mem_filter.mpr ⟨tm_2 _ (List.mem_of_getElem? (i := 126) rfl), rfl⟩
theorem tw_419 : (Cond.instanceMethod ({ cls := "ToolHouse", name := "law", desc := "()I" } : MethodName)) ∈ TB := List.mem_filter.mpr ⟨tm_2 _ (List.mem_of_getElem? (i := 127) rfl), rfl⟩
theorem tw_420 : (Cond.selects "ToolHouse" ({ cls := "ToolHouse", name := "law", desc := "()I" } : MethodName) ({ cls := "ToolHouse", name := "law", desc := "()I" } : MethodName)) ∈ TB := List.mem_filter.mpr ⟨tm_2 _ (List.mem_of_getElem? (i := 128) rfl), rfl⟩
theorem tw_421 : (Cond.code ({ cls := "ToolHouse", name := "law", desc := "()I" } : MethodName) prog_1_method_7_code (1 : Nat) (some .int)) ∈ TB := List.mem_filter.mpr ⟨tm_2 _ (List.mem_of_getElem? (i := 129) rfl), rfl⟩
theorem tw_422 : (Cond.methodLink "ToolHouse" (104 : Nat) ({ cls := "ToolHouse$LawReader", name := "read", desc := "(LToolHouse$Tape;I)V" } : MethodName)) ∈ TB := List.mem_filter.mpr ⟨tm_2 _ (List.mem_of_getElem? (i := 130) rfl), rfl⟩
theorem tw_423 : (Cond.instanceMethod ({ cls := "ToolHouse$LawReader", name := "read", desc := "(LToolHouse$Tape;I)V" } : MethodName)) ∈ TB := List.mem_filter.mpr ⟨tm_2 _ (List.mem_of_getElem? (i := 131) rfl), rfl⟩
theorem tw_424 : (Cond.selects "ToolHouse$LawReader" ({ cls := "ToolHouse$LawReader", name := "read", desc := "(LToolHouse$Tape;I)V" } : MethodName) ({ cls := "ToolHouse$LawReader", name := "read", desc := "(LToolHouse$Tape;I)V" } : MethodName)) ∈ TB := List.mem_filter.mpr ⟨tm_2 _ (List.mem_of_getElem? (i := 132) rfl), rfl⟩
theorem tw_425 : (Cond.code ({ cls := "ToolHouse$LawReader", name := "read", desc := "(LToolHouse$Tape;I)V" } : MethodName) prog_5_method_2_code (5 : Nat) (none : Option Jvm.ClassFile.FieldType)) ∈ TB := List.mem_filter.mpr ⟨tm_2 _ (List.mem_of_getElem? (i := 133) rfl), rfl⟩
theorem tw_426 : (Cond.methodLink "ToolHouse$LawReader" (28 : Nat) ({ cls := "java/util/Arrays", name := "fill", desc := "([II)V" } : MethodName)) ∈ TB := List.mem_filter.mpr ⟨tm_2 _ (List.mem_of_getElem? (i := 134) rfl), rfl⟩
theorem tw_427 : (Cond.methodLink "ToolHouse$LawReader" (39 : Nat) ({ cls := "ToolHouse$Tape", name := "byteAt", desc := "(I)I" } : MethodName)) ∈ TB := List.mem_filter.mpr ⟨tm_2 _ (List.mem_of_getElem? (i := 135) rfl), rfl⟩
theorem tw_428 : (Cond.instanceMethod ({ cls := "ToolHouse$Tape", name := "byteAt", desc := "(I)I" } : MethodName)) ∈ TB := List.mem_filter.mpr ⟨tm_2 _ (List.mem_of_getElem? (i := 136) rfl), rfl⟩
theorem tw_429 : (Cond.selects "ToolHouse$Tape" ({ cls := "ToolHouse$Tape", name := "byteAt", desc := "(I)I" } : MethodName) ({ cls := "ToolHouse$Tape", name := "byteAt", desc := "(I)I" } : MethodName)) ∈ TB := List.mem_filter.mpr ⟨tm_2 _ (List.mem_of_getElem? (i := 137) rfl), rfl⟩
theorem tw_430 : (Cond.code ({ cls := "ToolHouse$Tape", name := "byteAt", desc := "(I)I" } : MethodName) prog_8_method_4_code (2 : Nat) (some .int)) ∈ TB := List.mem_filter.mpr ⟨tm_2 _ (List.mem_of_getElem? (i := 138) rfl), rfl⟩
theorem tw_431 : (Cond.methodLink "ToolHouse$LawReader" (43 : Nat) ({ cls := "ToolHouse$LawReader", name := "isBlank", desc := "(I)Z" } : MethodName)) ∈ TB := List.mem_filter.mpr ⟨tm_2 _ (List.mem_of_getElem? (i := 139) rfl), rfl⟩
theorem tw_432 : (Cond.static ({ cls := "ToolHouse$LawReader", name := "isBlank", desc := "(I)Z" } : MethodName)) ∈ TB := List.mem_filter.mpr ⟨tm_2 _ (List.mem_of_getElem? (i := 140) rfl), rfl⟩
theorem tw_433 : (Cond.code ({ cls := "ToolHouse$LawReader", name := "isBlank", desc := "(I)Z" } : MethodName) prog_5_method_10_code (1 : Nat) (some .boolean)) ∈ TB := List.mem_filter.mpr ⟨tm_2 _ (List.mem_of_getElem? (i := 141) rfl), rfl⟩
theorem tw_434 : (Cond.methodLink "ToolHouse$LawReader" (47 : Nat) ({ cls := "ToolHouse$LawReader", name := "endOfToken", desc := "(LToolHouse$Tape;I)I" } : MethodName)) ∈ TB := List.mem_filter.mpr ⟨tm_2 _ (List.mem_of_getElem? (i := 142) rfl), rfl⟩
theorem tw_435 : (Cond.static ({ cls := "ToolHouse$LawReader", name := "endOfToken", desc := "(LToolHouse$Tape;I)I" } : MethodName)) ∈ TB := List.mem_filter.mpr ⟨tm_2 _ (List.mem_of_getElem? (i := 143) rfl), rfl⟩
theorem tw_436 : (Cond.code ({ cls := "ToolHouse$LawReader", name := "endOfToken", desc := "(LToolHouse$Tape;I)I" } : MethodName) prog_5_method_7_code (5 : Nat) (some .int)) ∈ TB := List.mem_filter.mpr ⟨tm_2 _ (List.mem_of_getElem? (i := 144) rfl), rfl⟩
theorem tw_437 : (Cond.methodLink "ToolHouse$LawReader" (75 : Nat) ({ cls := "ToolHouse$LawReader", name := "isLetter", desc := "(I)Z" } : MethodName)) ∈ TB := List.mem_filter.mpr ⟨tm_2 _ (List.mem_of_getElem? (i := 145) rfl), rfl⟩
theorem tw_438 : (Cond.static ({ cls := "ToolHouse$LawReader", name := "isLetter", desc := "(I)Z" } : MethodName)) ∈ TB := List.mem_filter.mpr ⟨tm_2 _ (List.mem_of_getElem? (i := 146) rfl), rfl⟩
theorem tw_439 : (Cond.code ({ cls := "ToolHouse$LawReader", name := "isLetter", desc := "(I)Z" } : MethodName) prog_5_method_11_code (1 : Nat) (some .boolean)) ∈ TB := List.mem_filter.mpr ⟨tm_2 _ (List.mem_of_getElem? (i := 147) rfl), rfl⟩
theorem tw_440 : (Cond.methodLink "ToolHouse$LawReader" (78 : Nat) ({ cls := "ToolHouse$LawReader", name := "isDigit", desc := "(I)Z" } : MethodName)) ∈ TB := List.mem_filter.mpr ⟨tm_2 _ (List.mem_of_getElem? (i := 148) rfl), rfl⟩
theorem tw_441 : (Cond.static ({ cls := "ToolHouse$LawReader", name := "isDigit", desc := "(I)Z" } : MethodName)) ∈ TB := List.mem_filter.mpr ⟨tm_2 _ (List.mem_of_getElem? (i := 149) rfl), rfl⟩
theorem tw_442 : (Cond.code ({ cls := "ToolHouse$LawReader", name := "isDigit", desc := "(I)Z" } : MethodName) prog_5_method_12_code (1 : Nat) (some .boolean)) ∈ TB := List.mem_filter.mpr ⟨tm_2 _ (List.mem_of_getElem? (i := 150) rfl), rfl⟩
theorem tw_443 : (Cond.methodLink "ToolHouse$LawReader" (51 : Nat) ({ cls := "ToolHouse$LawReader", name := "take", desc := "(LToolHouse$Tape;III)V" } : MethodName)) ∈ TB := List.mem_filter.mpr ⟨tm_2 _ (List.mem_of_getElem? (i := 151) rfl), rfl⟩
theorem tw_445 : (Cond.instanceMethod ({ cls := "ToolHouse$LawReader", name := "take", desc := "(LToolHouse$Tape;III)V" } : MethodName)) ∈ TB := List.mem_filter.mpr ⟨tm_2 _ (List.mem_of_getElem? (i := 153) rfl), rfl⟩
theorem tw_446 : (Cond.code ({ cls := "ToolHouse$LawReader", name := "take", desc := "(LToolHouse$Tape;III)V" } : MethodName) prog_5_method_3_code (6 : Nat) (none : Option Jvm.ClassFile.FieldType)) ∈ TB := List.mem_filter.mpr ⟨tm_2 _ (List.mem_of_getElem? (i := 154) rfl), rfl⟩
theorem tw_447 : (Cond.methodLink "ToolHouse$LawReader" (59 : Nat) ({ cls := "ToolHouse$LawReader", name := "numberOf", desc := "(LToolHouse$Tape;II)I" } : MethodName)) ∈ TB := List.mem_filter.mpr ⟨tm_2 _ (List.mem_of_getElem? (i := 155) rfl), rfl⟩
theorem tw_448 : (Cond.static ({ cls := "ToolHouse$LawReader", name := "numberOf", desc := "(LToolHouse$Tape;II)I" } : MethodName)) ∈ TB := List.mem_filter.mpr ⟨tm_2 _ (List.mem_of_getElem? (i := 156) rfl), rfl⟩
theorem tw_449 : (Cond.code ({ cls := "ToolHouse$LawReader", name := "numberOf", desc := "(LToolHouse$Tape;II)I" } : MethodName) prog_5_method_9_code (5 : Nat) (some .int)) ∈ TB := List.mem_filter.mpr ⟨tm_2 _ (List.mem_of_getElem? (i := 157) rfl), rfl⟩
theorem tw_450 : (Cond.methodLink "ToolHouse$LawReader" (63 : Nat) ({ cls := "ToolHouse$LawReader", name := "isEvery", desc := "(LToolHouse$Tape;II)Z" } : MethodName)) ∈ TB := List.mem_filter.mpr ⟨tm_2 _ (List.mem_of_getElem? (i := 158) rfl), rfl⟩
theorem tw_451 : (Cond.static ({ cls := "ToolHouse$LawReader", name := "isEvery", desc := "(LToolHouse$Tape;II)Z" } : MethodName)) ∈ TB := List.mem_filter.mpr ⟨tm_2 _ (List.mem_of_getElem? (i := 159) rfl), rfl⟩
theorem tw_452 : (Cond.code ({ cls := "ToolHouse$LawReader", name := "isEvery", desc := "(LToolHouse$Tape;II)Z" } : MethodName) prog_5_method_8_code (4 : Nat) (some .boolean)) ∈ TB := List.mem_filter.mpr ⟨tm_2 _ (List.mem_of_getElem? (i := 160) rfl), rfl⟩
theorem tw_454 : (Cond.methodLink "ToolHouse$LawReader" (83 : Nat) ({ cls := "java/lang/String", name := "length", desc := "()I" } : MethodName)) ∈ TB := List.mem_filter.mpr ⟨tm_2 _ (List.mem_of_getElem? (i := 162) rfl), rfl⟩
theorem tw_455 : (Cond.instanceMethod ({ cls := "java/lang/String", name := "length", desc := "()I" } : MethodName)) ∈ TB := List.mem_filter.mpr ⟨tm_2 _ (List.mem_of_getElem? (i := 163) rfl), rfl⟩
theorem tw_456 : (Cond.selects "java/lang/String" ({ cls := "java/lang/String", name := "length", desc := "()I" } : MethodName) ({ cls := "java/lang/String", name := "length", desc := "()I" } : MethodName)) ∈ TB := List.mem_filter.mpr ⟨tm_2 _ (List.mem_of_getElem? (i := 164) rfl), rfl⟩
theorem tw_457 : (Cond.code ({ cls := "java/lang/String", name := "length", desc := "()I" } : MethodName) prog_18_method_54_code (1 : Nat) (some .int)) ∈ TB := List.mem_filter.mpr ⟨tm_2 _ (List.mem_of_getElem? (i := 165) rfl), rfl⟩
theorem tw_458 : (Cond.methodLink "java/lang/String" (335 : Nat) ({ cls := "java/lang/String", name := "coder", desc := "()B" } : MethodName)) ∈ TB := List.mem_filter.mpr ⟨tm_2 _ (List.mem_of_getElem? (i := 166) rfl), rfl⟩
theorem tw_459 : (Cond.instanceMethod ({ cls := "java/lang/String", name := "coder", desc := "()B" } : MethodName)) ∈ TB := List.mem_filter.mpr ⟨tm_2 _ (List.mem_of_getElem? (i := 167) rfl), rfl⟩
theorem tw_460 : (Cond.selects "java/lang/String" ({ cls := "java/lang/String", name := "coder", desc := "()B" } : MethodName) ({ cls := "java/lang/String", name := "coder", desc := "()B" } : MethodName)) ∈ TB := List.mem_filter.mpr ⟨tm_2 _ (List.mem_of_getElem? (i := 168) rfl), rfl⟩
theorem tw_461 : (Cond.code ({ cls := "java/lang/String", name := "coder", desc := "()B" } : MethodName) prog_18_method_152_code (1 : Nat) (some .byte)) ∈ TB := List.mem_filter.mpr ⟨tm_2 _ (List.mem_of_getElem? (i := 169) rfl), rfl⟩
theorem tw_462 : (Cond.fieldLink "java/lang/String" (38 : Nat) "java/lang/String" "COMPACT_STRINGS" "Z") ∈ TB := List.mem_filter.mpr ⟨tm_2 _ (List.mem_of_getElem? (i := 170) rfl), rfl⟩
theorem tw_464 : (Cond.methodLink "ToolHouse$LawReader" (88 : Nat) ({ cls := "java/lang/String", name := "charAt", desc := "(I)C" } : MethodName)) ∈ TB := List.mem_filter.mpr ⟨tm_2 _ (List.mem_of_getElem? (i := 172) rfl), rfl⟩
theorem tw_465 : (Cond.instanceMethod ({ cls := "java/lang/String", name := "charAt", desc := "(I)C" } : MethodName)) ∈ TB := List.mem_filter.mpr ⟨tm_2 _ (List.mem_of_getElem? (i := 173) rfl), rfl⟩
theorem tw_466 : (Cond.selects "java/lang/String" ({ cls := "java/lang/String", name := "charAt", desc := "(I)C" } : MethodName) ({ cls := "java/lang/String", name := "charAt", desc := "(I)C" } : MethodName)) ∈ TB := List.mem_filter.mpr ⟨tm_2 _ (List.mem_of_getElem? (i := 174) rfl), rfl⟩
theorem tw_467 : (Cond.code ({ cls := "java/lang/String", name := "charAt", desc := "(I)C" } : MethodName) prog_18_method_56_code (2 : Nat) (some .char)) ∈ TB := List.mem_filter.mpr ⟨tm_2 _ (List.mem_of_getElem? (i := 175) rfl), rfl⟩
theorem tw_468 : (Cond.methodLink "java/lang/String" (492 : Nat) ({ cls := "java/lang/String", name := "isLatin1", desc := "()Z" } : MethodName)) ∈ TB := List.mem_filter.mpr ⟨tm_2 _ (List.mem_of_getElem? (i := 176) rfl), rfl⟩
theorem tw_469 : (Cond.instanceMethod ({ cls := "java/lang/String", name := "isLatin1", desc := "()Z" } : MethodName)) ∈ TB := List.mem_filter.mpr ⟨tm_2 _ (List.mem_of_getElem? (i := 177) rfl), rfl⟩
theorem tw_470 : (Cond.selects "java/lang/String" ({ cls := "java/lang/String", name := "isLatin1", desc := "()Z" } : MethodName) ({ cls := "java/lang/String", name := "isLatin1", desc := "()Z" } : MethodName)) ∈ TB := List.mem_filter.mpr ⟨tm_2 _ (List.mem_of_getElem? (i := 178) rfl), rfl⟩
theorem tw_471 : (Cond.code ({ cls := "java/lang/String", name := "isLatin1", desc := "()Z" } : MethodName) prog_18_method_154_code (1 : Nat) (some .boolean)) ∈ TB := List.mem_filter.mpr ⟨tm_2 _ (List.mem_of_getElem? (i := 179) rfl), rfl⟩
theorem tw_472 : (Cond.methodLink "java/lang/String" (495 : Nat) ({ cls := "java/lang/StringLatin1", name := "charAt", desc := "([BI)C" } : MethodName)) ∈ TB := List.mem_filter.mpr ⟨tm_2 _ (List.mem_of_getElem? (i := 180) rfl), rfl⟩
theorem tw_473 : (Cond.static ({ cls := "java/lang/StringLatin1", name := "charAt", desc := "([BI)C" } : MethodName)) ∈ TB := List.mem_filter.mpr ⟨tm_2 _ (List.mem_of_getElem? (i := 181) rfl), rfl⟩
theorem tw_474 : (Cond.code ({ cls := "java/lang/StringLatin1", name := "charAt", desc := "([BI)C" } : MethodName) prog_19_method_2_code (2 : Nat) (some .char)) ∈ TB := List.mem_filter.mpr ⟨tm_2 _ (List.mem_of_getElem? (i := 182) rfl), rfl⟩
theorem tw_475 : (Cond.methodLink "java/lang/StringLatin1" (9 : Nat) ({ cls := "java/lang/String", name := "checkIndex", desc := "(II)V" } : MethodName)) ∈ TB := List.mem_filter.mpr ⟨tm_2 _ (List.mem_of_getElem? (i := 183) rfl), rfl⟩
theorem tw_476 : (Cond.static ({ cls := "java/lang/String", name := "checkIndex", desc := "(II)V" } : MethodName)) ∈ TB := List.mem_filter.mpr ⟨tm_2 _ (List.mem_of_getElem? (i := 184) rfl), rfl⟩
theorem tw_477 : (Cond.code ({ cls := "java/lang/String", name := "checkIndex", desc := "(II)V" } : MethodName) prog_18_method_155_code (2 : Nat) (none : Option Jvm.ClassFile.FieldType)) ∈ TB := List.mem_filter.mpr ⟨tm_2 _ (List.mem_of_getElem? (i := 185) rfl), rfl⟩
theorem tw_478 : (Cond.fieldLink "java/lang/String" (1053 : Nat) "jdk/internal/util/Preconditions" "SIOOBE_FORMATTER" "Ljava/util/function/BiFunction;") ∈ TB := List.mem_filter.mpr ⟨tm_2 _ (List.mem_of_getElem? (i := 186) rfl), rfl⟩
theorem tw_480 : (Cond.methodLink "java/lang/String" (1059 : Nat) ({ cls := "jdk/internal/util/Preconditions", name := "checkIndex", desc := "(IILjava/util/function/BiFunction;)I" } : MethodName)) ∈ TB := List.mem_filter.mpr ⟨tm_2 _ (List.mem_of_getElem? (i := 188) rfl), rfl⟩
theorem tw_481 : (Cond.methodLink "java/lang/String" (498 : Nat) ({ cls := "java/lang/StringUTF16", name := "charAt", desc := "([BI)C" } : MethodName)) ∈ TB := List.mem_filter.mpr ⟨tm_2 _ (List.mem_of_getElem? (i := 189) rfl), rfl⟩
theorem tw_482 : (Cond.static ({ cls := "java/lang/StringUTF16", name := "charAt", desc := "([BI)C" } : MethodName)) ∈ TB := List.mem_filter.mpr ⟨tm_2 _ (List.mem_of_getElem? (i := 190) rfl), rfl⟩
theorem tw_483 : (Cond.code ({ cls := "java/lang/StringUTF16", name := "charAt", desc := "([BI)C" } : MethodName) prog_20_method_83_code (2 : Nat) (some .char)) ∈ TB := List.mem_filter.mpr ⟨tm_2 _ (List.mem_of_getElem? (i := 191) rfl), rfl⟩
theorem tw_484 : (Cond.methodLink "java/lang/StringUTF16" (67 : Nat) ({ cls := "java/lang/StringUTF16", name := "checkIndex", desc := "(I[B)V" } : MethodName)) ∈ TB := List.mem_filter.mpr ⟨tm_2 _ (List.mem_of_getElem? (i := 192) rfl), rfl⟩
theorem tw_485 : (Cond.static ({ cls := "java/lang/StringUTF16", name := "checkIndex", desc := "(I[B)V" } : MethodName)) ∈ TB := List.mem_filter.mpr ⟨tm_2 _ (List.mem_of_getElem? (i := 193) rfl), rfl⟩
theorem tw_486 : (Cond.code ({ cls := "java/lang/StringUTF16", name := "checkIndex", desc := "(I[B)V" } : MethodName) prog_20_method_91_code (2 : Nat) (none : Option Jvm.ClassFile.FieldType)) ∈ TB := List.mem_filter.mpr ⟨tm_2 _ (List.mem_of_getElem? (i := 194) rfl), rfl⟩
theorem tw_487 : (Cond.methodLink "java/lang/StringUTF16" (48 : Nat) ({ cls := "java/lang/StringUTF16", name := "length", desc := "([B)I" } : MethodName)) ∈ TB := List.mem_filter.mpr ⟨tm_2 _ (List.mem_of_getElem? (i := 195) rfl), rfl⟩
theorem tw_488 : (Cond.static ({ cls := "java/lang/StringUTF16", name := "length", desc := "([B)I" } : MethodName)) ∈ TB := List.mem_filter.mpr ⟨tm_2 _ (List.mem_of_getElem? (i := 196) rfl), rfl⟩
theorem tw_489 : (Cond.code ({ cls := "java/lang/StringUTF16", name := "length", desc := "([B)I" } : MethodName) prog_20_method_6_code (1 : Nat) (some .int)) ∈ TB := List.mem_filter.mpr ⟨tm_2 _ (List.mem_of_getElem? (i := 197) rfl), rfl⟩
theorem tw_490 : (Cond.methodLink "java/lang/StringUTF16" (414 : Nat) ({ cls := "java/lang/String", name := "checkIndex", desc := "(II)V" } : MethodName)) ∈ TB := List.mem_filter.mpr ⟨tm_2 _ (List.mem_of_getElem? (i := 198) rfl), rfl⟩
theorem tw_491 : (Cond.methodLink "java/lang/StringUTF16" (71 : Nat) ({ cls := "java/lang/StringUTF16", name := "getChar", desc := "([BI)C" } : MethodName)) ∈ TB := List.mem_filter.mpr ⟨tm_2 _ (List.mem_of_getElem? (i := 199) rfl), rfl⟩
theorem tw_492 : (Cond.static ({ cls := "java/lang/StringUTF16", name := "getChar", desc := "([BI)C" } : MethodName)) ∈ TB := List.mem_filter.mpr ⟨tm_2 _ (List.mem_of_getElem? (i := 200) rfl), rfl⟩
theorem tw_493 : (Cond.code ({ cls := "java/lang/StringUTF16", name := "getChar", desc := "([BI)C" } : MethodName) prog_20_method_5_code (2 : Nat) (some .char)) ∈ TB := List.mem_filter.mpr ⟨tm_2 _ (List.mem_of_getElem? (i := 201) rfl), rfl⟩
theorem tw_494 : (Cond.fieldLink "java/lang/StringUTF16" (44 : Nat) "java/lang/StringUTF16" "$assertionsDisabled" "Z") ∈ TB := List.mem_filter.mpr ⟨tm_2 _ (List.mem_of_getElem? (i := 202) rfl), rfl⟩
theorem tw_496 : (Cond.fieldLink "java/lang/StringUTF16" (59 : Nat) "java/lang/StringUTF16" "HI_BYTE_SHIFT" "I") ∈ TB := List.mem_filter.mpr ⟨tm_2 _ (List.mem_of_getElem? (i := 204) rfl), rfl⟩
theorem tw_498 : (Cond.fieldLink "java/lang/StringUTF16" (63 : Nat) "java/lang/StringUTF16" "LO_BYTE_SHIFT" "I") ∈ TB := List.mem_filter.mpr ⟨tm_2 _ (List.mem_of_getElem? (i := 206) rfl), rfl⟩
theorem tw_500 : (Cond.methodLink "ToolHouse$LawReader" (67 : Nat) ({ cls := "ToolHouse$LawReader", name := "takeKind", desc := "(III)V" } : MethodName)) ∈ TB := List.mem_filter.mpr ⟨tm_2 _ (List.mem_of_getElem? (i := 208) rfl), rfl⟩
theorem tw_502 : (Cond.instanceMethod ({ cls := "ToolHouse$LawReader", name := "takeKind", desc := "(III)V" } : MethodName)) ∈ TB := List.mem_filter.mpr ⟨tm_2 _ (List.mem_of_getElem? (i := 210) rfl), rfl⟩
theorem tw_503 : (Cond.code ({ cls := "ToolHouse$LawReader", name := "takeKind", desc := "(III)V" } : MethodName) prog_5_method_4_code (4 : Nat) (none : Option Jvm.ClassFile.FieldType)) ∈ TB := List.mem_filter.mpr ⟨tm_2 _ (List.mem_of_getElem? (i := 211) rfl), rfl⟩
theorem tw_504 : (Cond.methodLink "ToolHouse$LawReader" (55 : Nat) ({ cls := "ToolHouse$LawReader", name := "blame", desc := "(II)V" } : MethodName)) ∈ TB := List.mem_filter.mpr ⟨tm_2 _ (List.mem_of_getElem? (i := 212) rfl), rfl⟩
theorem tw_506 : (Cond.instanceMethod ({ cls := "ToolHouse$LawReader", name := "blame", desc := "(II)V" } : MethodName)) ∈ TB := List.mem_filter.mpr ⟨tm_2 _ (List.mem_of_getElem? (i := 214) rfl), rfl⟩
theorem tw_507 : (Cond.code ({ cls := "ToolHouse$LawReader", name := "blame", desc := "(II)V" } : MethodName) prog_5_method_6_code (3 : Nat) (none : Option Jvm.ClassFile.FieldType)) ∈ TB := List.mem_filter.mpr ⟨tm_2 _ (List.mem_of_getElem? (i := 215) rfl), rfl⟩
theorem tw_508 : (Cond.methodLink "ToolHouse$LawReader" (71 : Nat) ({ cls := "ToolHouse$LawReader", name := "takeDays", desc := "(I)V" } : MethodName)) ∈ TB := List.mem_filter.mpr ⟨tm_2 _ (List.mem_of_getElem? (i := 216) rfl), rfl⟩
theorem tw_510 : (Cond.instanceMethod ({ cls := "ToolHouse$LawReader", name := "takeDays", desc := "(I)V" } : MethodName)) ∈ TB := List.mem_filter.mpr ⟨tm_2 _ (List.mem_of_getElem? (i := 218) rfl), rfl⟩
theorem tw_511 : (Cond.code ({ cls := "ToolHouse$LawReader", name := "takeDays", desc := "(I)V" } : MethodName) prog_5_method_5_code (2 : Nat) (none : Option Jvm.ClassFile.FieldType)) ∈ TB := List.mem_filter.mpr ⟨tm_2 _ (List.mem_of_getElem? (i := 219) rfl), rfl⟩
theorem tw_512 : (Cond.methodLink "ToolHouse" (119 : Nat) ({ cls := "ToolHouse$LawBook", name := "tell", desc := "([I)V" } : MethodName)) ∈ TB := List.mem_filter.mpr ⟨tm_2 _ (List.mem_of_getElem? (i := 220) rfl), rfl⟩
theorem tw_513 : (Cond.instanceMethod ({ cls := "ToolHouse$LawBook", name := "tell", desc := "([I)V" } : MethodName)) ∈ TB := List.mem_filter.mpr ⟨tm_2 _ (List.mem_of_getElem? (i := 221) rfl), rfl⟩
theorem tw_514 : (Cond.selects "ToolHouse$LawBook" ({ cls := "ToolHouse$LawBook", name := "tell", desc := "([I)V" } : MethodName) ({ cls := "ToolHouse$LawBook", name := "tell", desc := "([I)V" } : MethodName)) ∈ TB := List.mem_filter.mpr ⟨tm_2 _ (List.mem_of_getElem? (i := 222) rfl), rfl⟩
theorem tw_515 : (Cond.code ({ cls := "ToolHouse$LawBook", name := "tell", desc := "([I)V" } : MethodName) prog_4_method_2_code (3 : Nat) (none : Option Jvm.ClassFile.FieldType)) ∈ TB := List.mem_filter.mpr ⟨tm_2 _ (List.mem_of_getElem? (i := 223) rfl), rfl⟩
theorem tw_516 : (Cond.arrayClass .byte) ∈ TB := List.mem_filter.mpr ⟨tm_2 _ (List.mem_of_getElem? (i := 224) rfl), rfl⟩
theorem tw_517 : (Cond.methodLink "ToolHouseLaw" (47 : Nat) ({ cls := "ToolHouse", name := "place", desc := "()I" } : MethodName)) ∈ TB := List.mem_filter.mpr ⟨tm_2 _ (List.mem_of_getElem? (i := 225) rfl), rfl⟩
theorem tw_518 : (Cond.instanceMethod ({ cls := "ToolHouse", name := "place", desc := "()I" } : MethodName)) ∈ TB := List.mem_filter.mpr ⟨tm_2 _ (List.mem_of_getElem? (i := 226) rfl), rfl⟩
theorem tw_519 : (Cond.selects "ToolHouse" ({ cls := "ToolHouse", name := "place", desc := "()I" } : MethodName) ({ cls := "ToolHouse", name := "place", desc := "()I" } : MethodName)) ∈ TB := List.mem_filter.mpr ⟨tm_2 _ (List.mem_of_getElem? (i := 227) rfl), rfl⟩
theorem tw_520 : (Cond.code ({ cls := "ToolHouse", name := "place", desc := "()I" } : MethodName) prog_1_method_8_code (1 : Nat) (some .int)) ∈ TB := List.mem_filter.mpr ⟨tm_2 _ (List.mem_of_getElem? (i := 228) rfl), rfl⟩
theorem tw_521 : (Cond.methodLink "ToolHouseLaw" (51 : Nat) ({ cls := "ToolHouse", name := "look", desc := "(I)Z" } : MethodName)) ∈ TB := List.mem_filter.mpr ⟨tm_2 _ (List.mem_of_getElem? (i := 229) rfl), rfl⟩
theorem tw_522 : (Cond.instanceMethod ({ cls := "ToolHouse", name := "look", desc := "(I)Z" } : MethodName)) ∈ TB := List.mem_filter.mpr ⟨tm_2 _ (List.mem_of_getElem? (i := 230) rfl), rfl⟩
theorem tw_523 : (Cond.selects "ToolHouse" ({ cls := "ToolHouse", name := "look", desc := "(I)Z" } : MethodName) ({ cls := "ToolHouse", name := "look", desc := "(I)Z" } : MethodName)) ∈ TB := List.mem_filter.mpr ⟨tm_2 _ (List.mem_of_getElem? (i := 231) rfl), rfl⟩
theorem tw_524 : (Cond.code ({ cls := "ToolHouse", name := "look", desc := "(I)Z" } : MethodName) prog_1_method_9_code (3 : Nat) (some .boolean)) ∈ TB := List.mem_filter.mpr ⟨tm_2 _ (List.mem_of_getElem? (i := 232) rfl), rfl⟩
theorem tw_525 : (Cond.methodLink "ToolHouse" (123 : Nat) ({ cls := "ToolHouse", name := "thingAt", desc := "(I)LToolHouse$Thing;" } : MethodName)) ∈ TB := List.mem_filter.mpr ⟨tm_2 _ (List.mem_of_getElem? (i := 233) rfl), rfl⟩
theorem tw_527 : (Cond.instanceMethod ({ cls := "ToolHouse", name := "thingAt", desc := "(I)LToolHouse$Thing;" } : MethodName)) ∈ TB := List.mem_filter.mpr ⟨tm_2 _ (List.mem_of_getElem? (i := 235) rfl), rfl⟩
theorem tw_528 : (Cond.code ({ cls := "ToolHouse", name := "thingAt", desc := "(I)LToolHouse$Thing;" } : MethodName) prog_1_method_27_code (2 : Nat) (some (.object "ToolHouse$Thing"))) ∈ TB := List.mem_filter.mpr ⟨tm_2 _ (List.mem_of_getElem? (i := 236) rfl), rfl⟩
theorem tw_529 : (Cond.methodLink "ToolHouseLaw" (56 : Nat) ({ cls := "ToolHouse", name := "lawful", desc := "(II)I" } : MethodName)) ∈ TB := List.mem_filter.mpr ⟨tm_2 _ (List.mem_of_getElem? (i := 237) rfl), rfl⟩
theorem tw_530 : (Cond.instanceMethod ({ cls := "ToolHouse", name := "lawful", desc := "(II)I" } : MethodName)) ∈ TB := List.mem_filter.mpr ⟨tm_2 _ (List.mem_of_getElem? (i := 238) rfl), rfl⟩
theorem tw_531 : (Cond.selects "ToolHouse" ({ cls := "ToolHouse", name := "lawful", desc := "(II)I" } : MethodName) ({ cls := "ToolHouse", name := "lawful", desc := "(II)I" } : MethodName)) ∈ TB := List.mem_filter.mpr ⟨tm_2 _ (List.mem_of_getElem? (i := 239) rfl), rfl⟩
theorem tw_532 : (Cond.code ({ cls := "ToolHouse", name := "lawful", desc := "(II)I" } : MethodName) prog_1_method_10_code (4 : Nat) (some .int)) ∈ TB := List.mem_filter.mpr ⟨tm_3 _ (List.mem_of_getElem? (i := 0) rfl), rfl⟩
theorem tw_533 : (Cond.methodLink "ToolHouse" (134 : Nat) ({ cls := "ToolHouse$LawBook", name := "lets", desc := "(LToolHouse$Thing;I)Z" } : MethodName)) ∈ TB := List.mem_filter.mpr ⟨tm_3 _ (List.mem_of_getElem? (i := 1) rfl), rfl⟩
theorem tw_534 : (Cond.instanceMethod ({ cls := "ToolHouse$LawBook", name := "lets", desc := "(LToolHouse$Thing;I)Z" } : MethodName)) ∈ TB := List.mem_filter.mpr ⟨tm_3 _ (List.mem_of_getElem? (i := 2) rfl), rfl⟩
theorem tw_535 : (Cond.selects "ToolHouse$LawBook" ({ cls := "ToolHouse$LawBook", name := "lets", desc := "(LToolHouse$Thing;I)Z" } : MethodName) ({ cls := "ToolHouse$LawBook", name := "lets", desc := "(LToolHouse$Thing;I)Z" } : MethodName)) ∈ TB := List.mem_filter.mpr ⟨tm_3 _ (List.mem_of_getElem? (i := 3) rfl), rfl⟩
theorem tw_536 : (Cond.code ({ cls := "ToolHouse$LawBook", name := "lets", desc := "(LToolHouse$Thing;I)Z" } : MethodName) prog_4_method_4_code (4 : Nat) (some .boolean)) ∈ TB := List.mem_filter.mpr ⟨tm_3 _ (List.mem_of_getElem? (i := 4) rfl), rfl⟩
theorem tw_537 : (Cond.methodLink "ToolHouse$LawBook" (39 : Nat) ({ cls := "ToolHouse$LawBook", name := "daysWanted", desc := "(I)I" } : MethodName)) ∈ TB := List.mem_filter.mpr ⟨tm_3 _ (List.mem_of_getElem? (i := 5) rfl), rfl⟩
theorem tw_538 : (Cond.instanceMethod ({ cls := "ToolHouse$LawBook", name := "daysWanted", desc := "(I)I" } : MethodName)) ∈ TB := List.mem_filter.mpr ⟨tm_3 _ (List.mem_of_getElem? (i := 6) rfl), rfl⟩
theorem tw_539 : (Cond.selects "ToolHouse$LawBook" ({ cls := "ToolHouse$LawBook", name := "daysWanted", desc := "(I)I" } : MethodName) ({ cls := "ToolHouse$LawBook", name := "daysWanted", desc := "(I)I" } : MethodName)) ∈ TB := List.mem_filter.mpr ⟨tm_3 _ (List.mem_of_getElem? (i := 7) rfl), rfl⟩
theorem tw_540 : (Cond.code ({ cls := "ToolHouse$LawBook", name := "daysWanted", desc := "(I)I" } : MethodName) prog_4_method_3_code (2 : Nat) (some .int)) ∈ TB := List.mem_filter.mpr ⟨tm_3 _ (List.mem_of_getElem? (i := 8) rfl), rfl⟩
theorem tw_541 : (Cond.methodLink "ToolHouseLaw" (60 : Nat) ({ cls := "ToolHouse", name := "ask", desc := "(IIIIII)I" } : MethodName)) ∈ TB := List.mem_filter.mpr ⟨tm_3 _ (List.mem_of_getElem? (i := 9) rfl), rfl⟩
theorem tw_542 : (Cond.instanceMethod ({ cls := "ToolHouse", name := "ask", desc := "(IIIIII)I" } : MethodName)) ∈ TB := List.mem_filter.mpr ⟨tm_3 _ (List.mem_of_getElem? (i := 10) rfl), rfl⟩
theorem tw_543 : (Cond.selects "ToolHouse" ({ cls := "ToolHouse", name := "ask", desc := "(IIIIII)I" } : MethodName) ({ cls := "ToolHouse", name := "ask", desc := "(IIIIII)I" } : MethodName)) ∈ TB := List.mem_filter.mpr ⟨tm_3 _ (List.mem_of_getElem? (i := 11) rfl), rfl⟩
theorem tw_544 : (Cond.code ({ cls := "ToolHouse", name := "ask", desc := "(IIIIII)I" } : MethodName) prog_1_method_11_code (9 : Nat) (some .int)) ∈ TB := List.mem_filter.mpr ⟨tm_3 _ (List.mem_of_getElem? (i := 12) rfl), rfl⟩
theorem tw_545 : (Cond.methodLink "ToolHouse" (138 : Nat) ({ cls := "ToolHouse", name := "memberAt", desc := "(I)LToolHouse$Member;" } : MethodName)) ∈ TB := List.mem_filter.mpr ⟨tm_3 _ (List.mem_of_getElem? (i := 13) rfl), rfl⟩
theorem tw_547 : (Cond.instanceMethod ({ cls := "ToolHouse", name := "memberAt", desc := "(I)LToolHouse$Member;" } : MethodName)) ∈ TB := List.mem_filter.mpr ⟨tm_3 _ (List.mem_of_getElem? (i := 15) rfl), rfl⟩
theorem tw_548 : (Cond.code ({ cls := "ToolHouse", name := "memberAt", desc := "(I)LToolHouse$Member;" } : MethodName) prog_1_method_28_code (2 : Nat) (some (.object "ToolHouse$Member"))) ∈ TB := List.mem_filter.mpr ⟨tm_3 _ (List.mem_of_getElem? (i := 16) rfl), rfl⟩
theorem tw_549 : (Cond.methodLink "ToolHouse" (142 : Nat) ({ cls := "ToolHouse", name := "canBeAsked", desc := "(II)Z" } : MethodName)) ∈ TB := List.mem_filter.mpr ⟨tm_3 _ (List.mem_of_getElem? (i := 17) rfl), rfl⟩
theorem tw_551 : (Cond.instanceMethod ({ cls := "ToolHouse", name := "canBeAsked", desc := "(II)Z" } : MethodName)) ∈ TB := List.mem_filter.mpr ⟨tm_3 _ (List.mem_of_getElem? (i := 19) rfl), rfl⟩
theorem tw_552 : (Cond.code ({ cls := "ToolHouse", name := "canBeAsked", desc := "(II)Z" } : MethodName) prog_1_method_30_code (3 : Nat) (some .boolean)) ∈ TB := List.mem_filter.mpr ⟨tm_3 _ (List.mem_of_getElem? (i := 20) rfl), rfl⟩
theorem tw_553 : (Cond.methodLink "ToolHouse" (146 : Nat) ({ cls := "ToolHouse", name := "howManyAre", desc := "(I)I" } : MethodName)) ∈ TB := List.mem_filter.mpr ⟨tm_3 _ (List.mem_of_getElem? (i := 21) rfl), rfl⟩
theorem tw_555 : (Cond.instanceMethod ({ cls := "ToolHouse", name := "howManyAre", desc := "(I)I" } : MethodName)) ∈ TB := List.mem_filter.mpr ⟨tm_3 _ (List.mem_of_getElem? (i := 23) rfl), rfl⟩
theorem tw_556 : (Cond.code ({ cls := "ToolHouse", name := "howManyAre", desc := "(I)I" } : MethodName) prog_1_method_31_code (4 : Nat) (some .int)) ∈ TB := List.mem_filter.mpr ⟨tm_3 _ (List.mem_of_getElem? (i := 24) rfl), rfl⟩
theorem tw_557 : (Cond.classLink "ToolHouse" (150 : Nat) "ToolHouse$Ask") ∈ TB := List.mem_filter.mpr ⟨tm_3 _ (List.mem_of_getElem? (i := 25) rfl), rfl⟩
theorem tw_558 : (Cond.instantiable "ToolHouse$Ask" (11 : Nat)) ∈ TB := List.mem_filter.mpr ⟨tm_3 _ (List.mem_of_getElem? (i := 26) rfl), rfl⟩
theorem tw_559 : (Cond.methodLink "ToolHouse" (152 : Nat) ({ cls := "ToolHouse$Ask", name := "<init>", desc := "(ILToolHouse$Member;LToolHouse$Kind;IIII)V" } : MethodName)) ∈ TB := List.mem_filter.mpr ⟨tm_3 _ (List.mem_of_getElem? (i := 27) rfl), rfl⟩
theorem tw_560 : (Cond.instanceMethod ({ cls := "ToolHouse$Ask", name := "<init>", desc := "(ILToolHouse$Member;LToolHouse$Kind;IIII)V" } : MethodName)) ∈ TB := List.mem_filter.mpr ⟨tm_3 _ (List.mem_of_getElem? (i := 28) rfl), rfl⟩
theorem tw_561 : (Cond.code ({ cls := "ToolHouse$Ask", name := "<init>", desc := "(ILToolHouse$Member;LToolHouse$Kind;IIII)V" } : MethodName) prog_2_method_1_code (8 : Nat) (none : Option Jvm.ClassFile.FieldType)) ∈ TB := List.mem_filter.mpr ⟨tm_3 _ (List.mem_of_getElem? (i := 29) rfl), rfl⟩
theorem tw_562 : (Cond.methodLink "ToolHouse$Ask" (3 : Nat) ({ cls := "java/lang/Object", name := "<init>", desc := "()V" } : MethodName)) ∈ TB := List.mem_filter.mpr ⟨tm_3 _ (List.mem_of_getElem? (i := 30) rfl), rfl⟩
theorem tw_563 : (Cond.fieldLink "ToolHouse$Ask" (25 : Nat) "ToolHouse$Ask" "number" "I") ∈ TB := List.mem_filter.mpr ⟨tm_3 _ (List.mem_of_getElem? (i := 31) rfl), rfl⟩
theorem tw_564 : (Cond.fieldLink "ToolHouse" (264 : Nat) "ToolHouse$Ask" "number" "I") ∈ TB := List.mem_filter.mpr ⟨tm_3 _ (List.mem_of_getElem? (i := 32) rfl), rfl⟩
theorem tw_565 : (Cond.fieldLink "ToolHouse$Ask" (28 : Nat) "ToolHouse$Ask" "member" "LToolHouse$Member;") ∈ TB := List.mem_filter.mpr ⟨tm_3 _ (List.mem_of_getElem? (i := 33) rfl), rfl⟩
theorem tw_566 : (Cond.fieldLink "ToolHouse" (191 : Nat) "ToolHouse$Ask" "member" "LToolHouse$Member;") ∈ TB := List.mem_filter.mpr ⟨tm_3 _ (List.mem_of_getElem? (i := 34) rfl), rfl⟩
theorem tw_567 : (Cond.fieldLink "ToolHouse$Ask" (32 : Nat) "ToolHouse$Ask" "kind" "LToolHouse$Kind;") ∈ TB := List.mem_filter.mpr ⟨tm_3 _ (List.mem_of_getElem? (i := 35) rfl), rfl⟩
theorem tw_568 : (Cond.fieldLink "ToolHouse$Kind" (22 : Nat) "ToolHouse$Ask" "kind" "LToolHouse$Kind;") ∈ TB := List.mem_filter.mpr ⟨tm_3 _ (List.mem_of_getElem? (i := 36) rfl), rfl⟩
theorem tw_569 : (Cond.fieldLink "ToolHouse$Planner" (80 : Nat) "ToolHouse$Ask" "kind" "LToolHouse$Kind;") ∈ TB := List.mem_filter.mpr ⟨tm_3 _ (List.mem_of_getElem? (i := 37) rfl), rfl⟩
theorem tw_570 : (Cond.fieldLink "ToolHouse" (257 : Nat) "ToolHouse$Ask" "kind" "LToolHouse$Kind;") ∈ TB := List.mem_filter.mpr ⟨tm_3 _ (List.mem_of_getElem? (i := 38) rfl), rfl⟩
theorem tw_571 : (Cond.fieldLink "ToolHouse$Ask" (36 : Nat) "ToolHouse$Ask" "needs" "I") ∈ TB := List.mem_filter.mpr ⟨tm_3 _ (List.mem_of_getElem? (i := 39) rfl), rfl⟩
theorem tw_572 : (Cond.fieldLink "ToolHouse$Kind" (28 : Nat) "ToolHouse$Ask" "needs" "I") ∈ TB := List.mem_filter.mpr ⟨tm_3 _ (List.mem_of_getElem? (i := 40) rfl), rfl⟩
theorem tw_573 : (Cond.fieldLink "ToolHouse$Ask" (39 : Nat) "ToolHouse$Ask" "first" "I") ∈ TB := List.mem_filter.mpr ⟨tm_3 _ (List.mem_of_getElem? (i := 41) rfl), rfl⟩
theorem tw_574 : (Cond.fieldLink "ToolHouse$Planner" (82 : Nat) "ToolHouse$Ask" "first" "I") ∈ TB := List.mem_filter.mpr ⟨tm_3 _ (List.mem_of_getElem? (i := 42) rfl), rfl⟩
theorem tw_575 : (Cond.fieldLink "ToolHouse" (207 : Nat) "ToolHouse$Ask" "first" "I") ∈ TB := List.mem_filter.mpr ⟨tm_3 _ (List.mem_of_getElem? (i := 43) rfl), rfl⟩
theorem tw_576 : (Cond.fieldLink "ToolHouse$Ask" (42 : Nat) "ToolHouse$Ask" "last" "I") ∈ TB := List.mem_filter.mpr ⟨tm_3 _ (List.mem_of_getElem? (i := 44) rfl), rfl⟩
theorem tw_577 : (Cond.fieldLink "ToolHouse$Thing" (29 : Nat) "ToolHouse$Ask" "last" "I") ∈ TB := List.mem_filter.mpr ⟨tm_3 _ (List.mem_of_getElem? (i := 45) rfl), rfl⟩
theorem tw_578 : (Cond.fieldLink "ToolHouse$Planner" (85 : Nat) "ToolHouse$Ask" "last" "I") ∈ TB := List.mem_filter.mpr ⟨tm_3 _ (List.mem_of_getElem? (i := 46) rfl), rfl⟩
theorem tw_579 : (Cond.fieldLink "ToolHouse" (198 : Nat) "ToolHouse$Ask" "last" "I") ∈ TB := List.mem_filter.mpr ⟨tm_3 _ (List.mem_of_getElem? (i := 47) rfl), rfl⟩
theorem tw_580 : (Cond.fieldLink "ToolHouse$Ask" (45 : Nat) "ToolHouse$Ask" "rank" "I") ∈ TB := List.mem_filter.mpr ⟨tm_3 _ (List.mem_of_getElem? (i := 48) rfl), rfl⟩
theorem tw_581 : (Cond.fieldLink "ToolHouse$Planner" (74 : Nat) "ToolHouse$Ask" "rank" "I") ∈ TB := List.mem_filter.mpr ⟨tm_3 _ (List.mem_of_getElem? (i := 49) rfl), rfl⟩
theorem tw_582 : (Cond.fieldLink "ToolHouse" (259 : Nat) "ToolHouse$Ask" "rank" "I") ∈ TB := List.mem_filter.mpr ⟨tm_3 _ (List.mem_of_getElem? (i := 50) rfl), rfl⟩
theorem tw_583 : (Cond.fieldLink "ToolHouse$Ask" (9 : Nat) "ToolHouse$Ask" "state" "I") ∈ TB := List.mem_filter.mpr ⟨tm_3 _ (List.mem_of_getElem? (i := 51) rfl), rfl⟩
theorem tw_584 : (Cond.fieldLink "ToolHouse" (162 : Nat) "ToolHouse$Ask" "state" "I") ∈ TB := List.mem_filter.mpr ⟨tm_3 _ (List.mem_of_getElem? (i := 52) rfl), rfl⟩
theorem tw_585 : (Cond.fieldLink "ToolHouse$Ask" (15 : Nat) "ToolHouse$Ask" "thing" "LToolHouse$Thing;") ∈ TB := List.mem_filter.mpr ⟨tm_3 _ (List.mem_of_getElem? (i := 53) rfl), rfl⟩
theorem tw_586 : (Cond.fieldLink "ToolHouse" (183 : Nat) "ToolHouse$Ask" "thing" "LToolHouse$Thing;") ∈ TB := List.mem_filter.mpr ⟨tm_3 _ (List.mem_of_getElem? (i := 54) rfl), rfl⟩
theorem tw_587 : (Cond.fieldLink "ToolHouse$Ask" (19 : Nat) "ToolHouse$Ask" "moves" "I") ∈ TB := List.mem_filter.mpr ⟨tm_3 _ (List.mem_of_getElem? (i := 55) rfl), rfl⟩
theorem tw_588 : (Cond.fieldLink "ToolHouse" (253 : Nat) "ToolHouse$Ask" "moves" "I") ∈ TB := List.mem_filter.mpr ⟨tm_3 _ (List.mem_of_getElem? (i := 56) rfl), rfl⟩
theorem tw_589 : (Cond.fieldLink "ToolHouse$Ask" (22 : Nat) "ToolHouse$Ask" "backDay" "I") ∈ TB := List.mem_filter.mpr ⟨tm_3 _ (List.mem_of_getElem? (i := 57) rfl), rfl⟩
theorem tw_590 : (Cond.fieldLink "ToolHouse" (224 : Nat) "ToolHouse$Ask" "backDay" "I") ∈ TB := List.mem_filter.mpr ⟨tm_3 _ (List.mem_of_getElem? (i := 58) rfl), rfl⟩
theorem tw_614 : (Cond.methodLink "ToolHouseLaw" (65 : Nat) ({ cls := "ToolHouse", name := "plan", desc := "()I" } : MethodName)) ∈ TB := List.mem_filter.mpr ⟨tm_3 _ (List.mem_of_getElem? (i := 82) rfl), rfl⟩
theorem tw_615 : (Cond.instanceMethod ({ cls := "ToolHouse", name := "plan", desc := "()I" } : MethodName)) ∈ TB := List.mem_filter.mpr ⟨tm_3 _ (List.mem_of_getElem? (i := 83) rfl), rfl⟩
theorem tw_616 : (Cond.selects "ToolHouse" ({ cls := "ToolHouse", name := "plan", desc := "()I" } : MethodName) ({ cls := "ToolHouse", name := "plan", desc := "()I" } : MethodName)) ∈ TB := List.mem_filter.mpr ⟨tm_3 _ (List.mem_of_getElem? (i := 84) rfl), rfl⟩
theorem tw_617 : (Cond.code ({ cls := "ToolHouse", name := "plan", desc := "()I" } : MethodName) prog_1_method_12_code (3 : Nat) (some .int)) ∈ TB := List.mem_filter.mpr ⟨tm_3 _ (List.mem_of_getElem? (i := 85) rfl), rfl⟩
theorem tw_618 : (Cond.methodLink "ToolHouse" (155 : Nat) ({ cls := "ToolHouse$Planner", name := "begin", desc := "()V" } : MethodName)) ∈ TB := List.mem_filter.mpr ⟨tm_3 _ (List.mem_of_getElem? (i := 86) rfl), rfl⟩
theorem tw_619 : (Cond.instanceMethod ({ cls := "ToolHouse$Planner", name := "begin", desc := "()V" } : MethodName)) ∈ TB := List.mem_filter.mpr ⟨tm_3 _ (List.mem_of_getElem? (i := 87) rfl), rfl⟩
theorem tw_620 : (Cond.selects "ToolHouse$Planner" ({ cls := "ToolHouse$Planner", name := "begin", desc := "()V" } : MethodName) ({ cls := "ToolHouse$Planner", name := "begin", desc := "()V" } : MethodName)) ∈ TB := List.mem_filter.mpr ⟨tm_3 _ (List.mem_of_getElem? (i := 88) rfl), rfl⟩
theorem tw_621 : (Cond.code ({ cls := "ToolHouse$Planner", name := "begin", desc := "()V" } : MethodName) prog_7_method_2_code (1 : Nat) (none : Option Jvm.ClassFile.FieldType)) ∈ TB := List.mem_filter.mpr ⟨tm_3 _ (List.mem_of_getElem? (i := 89) rfl), rfl⟩
theorem tw_622 : (Cond.methodLink "ToolHouse$Planner" (28 : Nat) ({ cls := "java/util/Arrays", name := "fill", desc := "([II)V" } : MethodName)) ∈ TB := List.mem_filter.mpr ⟨tm_3 _ (List.mem_of_getElem? (i := 90) rfl), rfl⟩
theorem tw_623 : (Cond.methodLink "ToolHouse" (165 : Nat) ({ cls := "ToolHouse$Planner", name := "add", desc := "(LToolHouse$Ask;)V" } : MethodName)) ∈ TB := List.mem_filter.mpr ⟨tm_3 _ (List.mem_of_getElem? (i := 91) rfl), rfl⟩
theorem tw_624 : (Cond.instanceMethod ({ cls := "ToolHouse$Planner", name := "add", desc := "(LToolHouse$Ask;)V" } : MethodName)) ∈ TB := List.mem_filter.mpr ⟨tm_3 _ (List.mem_of_getElem? (i := 92) rfl), rfl⟩
theorem tw_625 : (Cond.selects "ToolHouse$Planner" ({ cls := "ToolHouse$Planner", name := "add", desc := "(LToolHouse$Ask;)V" } : MethodName) ({ cls := "ToolHouse$Planner", name := "add", desc := "(LToolHouse$Ask;)V" } : MethodName)) ∈ TB := List.mem_filter.mpr ⟨tm_3 _ (List.mem_of_getElem? (i := 93) rfl), rfl⟩
theorem tw_626 : (Cond.code ({ cls := "ToolHouse$Planner", name := "add", desc := "(LToolHouse$Ask;)V" } : MethodName) prog_7_method_3_code (2 : Nat) (none : Option Jvm.ClassFile.FieldType)) ∈ TB := List.mem_filter.mpr ⟨tm_3 _ (List.mem_of_getElem? (i := 94) rfl), rfl⟩
theorem tw_627 : (Cond.methodLink "ToolHouse" (168 : Nat) ({ cls := "ToolHouse", name := "rowThatMayHave", desc := "(LToolHouse$Thing;)I" } : MethodName)) ∈ TB := List.mem_filter.mpr ⟨tm_3 _ (List.mem_of_getElem? (i := 95) rfl), rfl⟩
theorem tw_629 : (Cond.instanceMethod ({ cls := "ToolHouse", name := "rowThatMayHave", desc := "(LToolHouse$Thing;)I" } : MethodName)) ∈ TB := List.mem_filter.mpr ⟨tm_3 _ (List.mem_of_getElem? (i := 97) rfl), rfl⟩
theorem tw_630 : (Cond.code ({ cls := "ToolHouse", name := "rowThatMayHave", desc := "(LToolHouse$Thing;)I" } : MethodName) prog_1_method_35_code (5 : Nat) (some .int)) ∈ TB := List.mem_filter.mpr ⟨tm_3 _ (List.mem_of_getElem? (i := 98) rfl), rfl⟩
theorem tw_631 : (Cond.methodLink "ToolHouse" (296 : Nat) ({ cls := "ToolHouse$Planner", name := "askAtRow", desc := "(I)LToolHouse$Ask;" } : MethodName)) ∈ TB := List.mem_filter.mpr ⟨tm_3 _ (List.mem_of_getElem? (i := 99) rfl), rfl⟩
theorem tw_632 : (Cond.instanceMethod ({ cls := "ToolHouse$Planner", name := "askAtRow", desc := "(I)LToolHouse$Ask;" } : MethodName)) ∈ TB := List.mem_filter.mpr ⟨tm_3 _ (List.mem_of_getElem? (i := 100) rfl), rfl⟩
theorem tw_633 : (Cond.selects "ToolHouse$Planner" ({ cls := "ToolHouse$Planner", name := "askAtRow", desc := "(I)LToolHouse$Ask;" } : MethodName) ({ cls := "ToolHouse$Planner", name := "askAtRow", desc := "(I)LToolHouse$Ask;" } : MethodName)) ∈ TB := List.mem_filter.mpr ⟨tm_3 _ (List.mem_of_getElem? (i := 101) rfl), rfl⟩
theorem tw_634 : (Cond.code ({ cls := "ToolHouse$Planner", name := "askAtRow", desc := "(I)LToolHouse$Ask;" } : MethodName) prog_7_method_4_code (2 : Nat) (some (.object "ToolHouse$Ask"))) ∈ TB := List.mem_filter.mpr ⟨tm_3 _ (List.mem_of_getElem? (i := 102) rfl), rfl⟩
theorem tw_635 : (Cond.methodLink "ToolHouse" (236 : Nat) ({ cls := "ToolHouse$Kind", name := "fits", desc := "(LToolHouse$Ask;)Z" } : MethodName)) ∈ TB := List.mem_filter.mpr ⟨tm_3 _ (List.mem_of_getElem? (i := 103) rfl), rfl⟩
theorem tw_636 : (Cond.instanceMethod ({ cls := "ToolHouse$Kind", name := "fits", desc := "(LToolHouse$Ask;)Z" } : MethodName)) ∈ TB := List.mem_filter.mpr ⟨tm_3 _ (List.mem_of_getElem? (i := 104) rfl), rfl⟩
theorem tw_637 : (Cond.selects "ToolHouse$Kind" ({ cls := "ToolHouse$Kind", name := "fits", desc := "(LToolHouse$Ask;)Z" } : MethodName) ({ cls := "ToolHouse$Kind", name := "fits", desc := "(LToolHouse$Ask;)Z" } : MethodName)) ∈ TB := List.mem_filter.mpr ⟨tm_3 _ (List.mem_of_getElem? (i := 105) rfl), rfl⟩
theorem tw_638 : (Cond.code ({ cls := "ToolHouse$Kind", name := "fits", desc := "(LToolHouse$Ask;)Z" } : MethodName) prog_3_method_2_code (2 : Nat) (some .boolean)) ∈ TB := List.mem_filter.mpr ⟨tm_3 _ (List.mem_of_getElem? (i := 106) rfl), rfl⟩
theorem tw_639 : (Cond.methodLink "ToolHouse" (299 : Nat) ({ cls := "ToolHouse", name := "isFreeFor", desc := "(LToolHouse$Ask;LToolHouse$Thing;)Z" } : MethodName)) ∈ TB := List.mem_filter.mpr ⟨tm_3 _ (List.mem_of_getElem? (i := 107) rfl), rfl⟩
theorem tw_641 : (Cond.instanceMethod ({ cls := "ToolHouse", name := "isFreeFor", desc := "(LToolHouse$Ask;LToolHouse$Thing;)Z" } : MethodName)) ∈ TB := List.mem_filter.mpr ⟨tm_3 _ (List.mem_of_getElem? (i := 109) rfl), rfl⟩
theorem tw_642 : (Cond.code ({ cls := "ToolHouse", name := "isFreeFor", desc := "(LToolHouse$Ask;LToolHouse$Thing;)Z" } : MethodName) prog_1_method_34_code (3 : Nat) (some .boolean)) ∈ TB := List.mem_filter.mpr ⟨tm_3 _ (List.mem_of_getElem? (i := 110) rfl), rfl⟩
theorem tw_643 : (Cond.methodLink "ToolHouse" (272 : Nat) ({ cls := "ToolHouse", name := "isFreeBut", desc := "(LToolHouse$Ask;LToolHouse$Thing;II)Z" } : MethodName)) ∈ TB := List.mem_filter.mpr ⟨tm_3 _ (List.mem_of_getElem? (i := 111) rfl), rfl⟩
theorem tw_645 : (Cond.instanceMethod ({ cls := "ToolHouse", name := "isFreeBut", desc := "(LToolHouse$Ask;LToolHouse$Thing;II)Z" } : MethodName)) ∈ TB := List.mem_filter.mpr ⟨tm_3 _ (List.mem_of_getElem? (i := 113) rfl), rfl⟩
theorem tw_646 : (Cond.code ({ cls := "ToolHouse", name := "isFreeBut", desc := "(LToolHouse$Ask;LToolHouse$Thing;II)Z" } : MethodName) prog_1_method_33_code (8 : Nat) (some .boolean)) ∈ TB := List.mem_filter.mpr ⟨tm_3 _ (List.mem_of_getElem? (i := 114) rfl), rfl⟩
theorem tw_647 : (Cond.methodLink "ToolHouse" (286 : Nat) ({ cls := "ToolHouse$Ask", name := "holds", desc := "(LToolHouse$Thing;)Z" } : MethodName)) ∈ TB := List.mem_filter.mpr ⟨tm_3 _ (List.mem_of_getElem? (i := 115) rfl), rfl⟩
theorem tw_648 : (Cond.instanceMethod ({ cls := "ToolHouse$Ask", name := "holds", desc := "(LToolHouse$Thing;)Z" } : MethodName)) ∈ TB := List.mem_filter.mpr ⟨tm_3 _ (List.mem_of_getElem? (i := 116) rfl), rfl⟩
theorem tw_649 : (Cond.selects "ToolHouse$Ask" ({ cls := "ToolHouse$Ask", name := "holds", desc := "(LToolHouse$Thing;)Z" } : MethodName) ({ cls := "ToolHouse$Ask", name := "holds", desc := "(LToolHouse$Thing;)Z" } : MethodName)) ∈ TB := List.mem_filter.mpr ⟨tm_3 _ (List.mem_of_getElem? (i := 117) rfl), rfl⟩
theorem tw_650 : (Cond.code ({ cls := "ToolHouse$Ask", name := "holds", desc := "(LToolHouse$Thing;)Z" } : MethodName) prog_2_method_3_code (2 : Nat) (some .boolean)) ∈ TB := List.mem_filter.mpr ⟨tm_3 _ (List.mem_of_getElem? (i := 118) rfl), rfl⟩
theorem tw_651 : (Cond.methodLink "ToolHouse" (289 : Nat) ({ cls := "ToolHouse$Ask", name := "lastDay", desc := "(I)I" } : MethodName)) ∈ TB := List.mem_filter.mpr ⟨tm_3 _ (List.mem_of_getElem? (i := 119) rfl), rfl⟩
theorem tw_652 : (Cond.instanceMethod ({ cls := "ToolHouse$Ask", name := "lastDay", desc := "(I)I" } : MethodName)) ∈ TB := List.mem_filter.mpr ⟨tm_3 _ (List.mem_of_getElem? (i := 120) rfl), rfl⟩
theorem tw_653 : (Cond.selects "ToolHouse$Ask" ({ cls := "ToolHouse$Ask", name := "lastDay", desc := "(I)I" } : MethodName) ({ cls := "ToolHouse$Ask", name := "lastDay", desc := "(I)I" } : MethodName)) ∈ TB := List.mem_filter.mpr ⟨tm_3 _ (List.mem_of_getElem? (i := 121) rfl), rfl⟩
theorem tw_654 : (Cond.code ({ cls := "ToolHouse$Ask", name := "lastDay", desc := "(I)I" } : MethodName) prog_2_method_4_code (2 : Nat) (some .int)) ∈ TB := List.mem_filter.mpr ⟨tm_3 _ (List.mem_of_getElem? (i := 122) rfl), rfl⟩
theorem tw_655 : (Cond.methodLink "ToolHouse$Ask" (48 : Nat) ({ cls := "java/lang/Math", name := "max", desc := "(II)I" } : MethodName)) ∈ TB := List.mem_filter.mpr ⟨tm_3 _ (List.mem_of_getElem? (i := 123) rfl), rfl⟩
theorem tw_656 : (Cond.methodLink "ToolHouse" (292 : Nat) ({ cls := "ToolHouse", name := "areNear", desc := "(IIIII)Z" } : MethodName)) ∈ TB := List.mem_filter.mpr ⟨tm_3 _ (List.mem_of_getElem? (i := 124) rfl), rfl⟩
theorem tw_657 : (Cond.static ({ cls := "ToolHouse", name := "areNear", desc := "(IIIII)Z" } : MethodName)) ∈ TB := List.mem_filter.mpr ⟨tm_3 _ (List.mem_of_getElem? (i := 125) rfl), rfl⟩
theorem tw_658 : (Cond.code ({ cls := "ToolHouse", name := "areNear", desc := "(IIIII)Z" } : MethodName) prog_1_method_25_code (5 : Nat) (some .boolean)) ∈ TB := List.mem_filter.mpr ⟨tm_3 _ (List.mem_of_getElem? (i := 126) rfl), rfl⟩
theorem tw_659 : (Cond.methodLink "ToolHouse" (172 : Nat) ({ cls := "ToolHouse$Planner", name := "offer", desc := "(LToolHouse$Thing;I)V" } : MethodName)) ∈ TB := List.mem_filter.mpr ⟨tm_3 _ (List.mem_of_getElem? (i := 127) rfl), rfl⟩
theorem tw_660 : (Cond.instanceMethod ({ cls := "ToolHouse$Planner", name := "offer", desc := "(LToolHouse$Thing;I)V" } : MethodName)) ∈ TB := List.mem_filter.mpr ⟨tm_3 _ (List.mem_of_getElem? (i := 128) rfl), rfl⟩
theorem tw_661 : (Cond.selects "ToolHouse$Planner" ({ cls := "ToolHouse$Planner", name := "offer", desc := "(LToolHouse$Thing;I)V" } : MethodName) ({ cls := "ToolHouse$Planner", name := "offer", desc := "(LToolHouse$Thing;I)V" } : MethodName)) ∈ TB := List.mem_filter.mpr ⟨tm_3 _ (List.mem_of_getElem? (i := 129) rfl), rfl⟩
theorem tw_662 : (Cond.code ({ cls := "ToolHouse$Planner", name := "offer", desc := "(LToolHouse$Thing;I)V" } : MethodName) prog_7_method_5_code (6 : Nat) (none : Option Jvm.ClassFile.FieldType)) ∈ TB := List.mem_filter.mpr ⟨tm_3 _ (List.mem_of_getElem? (i := 130) rfl), rfl⟩
theorem tw_663 : (Cond.methodLink "ToolHouse$Planner" (34 : Nat) ({ cls := "ToolHouse$Planner", name := "weigh", desc := "(LToolHouse$Thing;I)V" } : MethodName)) ∈ TB := List.mem_filter.mpr ⟨tm_3 _ (List.mem_of_getElem? (i := 131) rfl), rfl⟩
theorem tw_665 : (Cond.instanceMethod ({ cls := "ToolHouse$Planner", name := "weigh", desc := "(LToolHouse$Thing;I)V" } : MethodName)) ∈ TB := List.mem_filter.mpr ⟨tm_3 _ (List.mem_of_getElem? (i := 133) rfl), rfl⟩
theorem tw_666 : (Cond.code ({ cls := "ToolHouse$Planner", name := "weigh", desc := "(LToolHouse$Thing;I)V" } : MethodName) prog_7_method_8_code (10 : Nat) (none : Option Jvm.ClassFile.FieldType)) ∈ TB := List.mem_filter.mpr ⟨tm_3 _ (List.mem_of_getElem? (i := 134) rfl), rfl⟩
theorem tw_667 : (Cond.methodLink "ToolHouse$Planner" (48 : Nat) ({ cls := "ToolHouse$Planner", name := "askAtRow", desc := "(I)LToolHouse$Ask;" } : MethodName)) ∈ TB := List.mem_filter.mpr ⟨tm_3 _ (List.mem_of_getElem? (i := 135) rfl), rfl⟩
theorem tw_668 : (Cond.methodLink "ToolHouse$Planner" (52 : Nat) ({ cls := "ToolHouse$Planner", name := "worthOf", desc := "(LToolHouse$Ask;LToolHouse$Thing;I)I" } : MethodName)) ∈ TB := List.mem_filter.mpr ⟨tm_3 _ (List.mem_of_getElem? (i := 136) rfl), rfl⟩
theorem tw_669 : (Cond.static ({ cls := "ToolHouse$Planner", name := "worthOf", desc := "(LToolHouse$Ask;LToolHouse$Thing;I)I" } : MethodName)) ∈ TB := List.mem_filter.mpr ⟨tm_3 _ (List.mem_of_getElem? (i := 137) rfl), rfl⟩
theorem tw_670 : (Cond.code ({ cls := "ToolHouse$Planner", name := "worthOf", desc := "(LToolHouse$Ask;LToolHouse$Thing;I)I" } : MethodName) prog_7_method_9_code (5 : Nat) (some .int)) ∈ TB := List.mem_filter.mpr ⟨tm_3 _ (List.mem_of_getElem? (i := 138) rfl), rfl⟩
theorem tw_671 : (Cond.constant "ToolHouse$Planner" (77 : Nat) (80199288 : Int32)) ∈ TB := List.mem_filter.mpr ⟨tm_3 _ (List.mem_of_getElem? (i := 139) rfl), rfl⟩
theorem tw_672 : (Cond.constant "ToolHouse$Planner" (78 : Nat) (13366548 : Int32)) ∈ TB := List.mem_filter.mpr ⟨tm_3 _ (List.mem_of_getElem? (i := 140) rfl), rfl⟩
theorem tw_673 : (Cond.constant "ToolHouse$Planner" (79 : Nat) (2227758 : Int32)) ∈ TB := List.mem_filter.mpr ⟨tm_3 _ (List.mem_of_getElem? (i := 141) rfl), rfl⟩
theorem tw_674 : (Cond.constant "ToolHouse$Planner" (81 : Nat) (371293 : Int32)) ∈ TB := List.mem_filter.mpr ⟨tm_3 _ (List.mem_of_getElem? (i := 142) rfl), rfl⟩
theorem tw_675 : (Cond.methodLink "ToolHouse$Planner" (67 : Nat) ({ cls := "ToolHouse$Planner", name := "nearTo", desc := "(LToolHouse$Ask;II)I" } : MethodName)) ∈ TB := List.mem_filter.mpr ⟨tm_3 _ (List.mem_of_getElem? (i := 143) rfl), rfl⟩
theorem tw_677 : (Cond.instanceMethod ({ cls := "ToolHouse$Planner", name := "nearTo", desc := "(LToolHouse$Ask;II)I" } : MethodName)) ∈ TB := List.mem_filter.mpr ⟨tm_3 _ (List.mem_of_getElem? (i := 145) rfl), rfl⟩
theorem tw_678 : (Cond.code ({ cls := "ToolHouse$Planner", name := "nearTo", desc := "(LToolHouse$Ask;II)I" } : MethodName) prog_7_method_10_code (7 : Nat) (some .int)) ∈ TB := List.mem_filter.mpr ⟨tm_3 _ (List.mem_of_getElem? (i := 146) rfl), rfl⟩
theorem tw_679 : (Cond.methodLinkNest "ToolHouse$Planner" (88 : Nat) ({ cls := "ToolHouse", name := "areNear", desc := "(IIIII)Z" } : MethodName) "ToolHouse") ∈ NW := List.mem_filter.mpr ⟨tm_3 _ (List.mem_of_getElem? (i := 147) rfl), rfl⟩
theorem tw_680 : (Cond.methodLink "ToolHouse$Planner" (38 : Nat) ({ cls := "ToolHouse$Planner", name := "wholeRow", desc := "()I" } : MethodName)) ∈ TB := List.mem_filter.mpr ⟨tm_3 _ (List.mem_of_getElem? (i := 148) rfl), rfl⟩
theorem tw_682 : (Cond.instanceMethod ({ cls := "ToolHouse$Planner", name := "wholeRow", desc := "()I" } : MethodName)) ∈ TB := List.mem_filter.mpr ⟨tm_3 _ (List.mem_of_getElem? (i := 150) rfl), rfl⟩
theorem tw_683 : (Cond.code ({ cls := "ToolHouse$Planner", name := "wholeRow", desc := "()I" } : MethodName) prog_7_method_7_code (1 : Nat) (some .int)) ∈ TB := List.mem_filter.mpr ⟨tm_3 _ (List.mem_of_getElem? (i := 151) rfl), rfl⟩
theorem tw_684 : (Cond.methodLink "ToolHouse$Planner" (42 : Nat) ({ cls := "java/lang/Math", name := "max", desc := "(II)I" } : MethodName)) ∈ TB := List.mem_filter.mpr ⟨tm_3 _ (List.mem_of_getElem? (i := 152) rfl), rfl⟩
theorem tw_685 : (Cond.methodLink "ToolHouse" (176 : Nat) ({ cls := "ToolHouse", name := "carryOutPlan", desc := "()I" } : MethodName)) ∈ TB := List.mem_filter.mpr ⟨tm_3 _ (List.mem_of_getElem? (i := 153) rfl), rfl⟩
theorem tw_687 : (Cond.instanceMethod ({ cls := "ToolHouse", name := "carryOutPlan", desc := "()I" } : MethodName)) ∈ TB := List.mem_filter.mpr ⟨tm_3 _ (List.mem_of_getElem? (i := 155) rfl), rfl⟩
theorem tw_688 : (Cond.code ({ cls := "ToolHouse", name := "carryOutPlan", desc := "()I" } : MethodName) prog_1_method_36_code (4 : Nat) (some .int)) ∈ TB := List.mem_filter.mpr ⟨tm_3 _ (List.mem_of_getElem? (i := 156) rfl), rfl⟩
theorem tw_689 : (Cond.methodLink "ToolHouse" (303 : Nat) ({ cls := "ToolHouse$Planner", name := "thingAtRow", desc := "(I)I" } : MethodName)) ∈ TB := List.mem_filter.mpr ⟨tm_3 _ (List.mem_of_getElem? (i := 157) rfl), rfl⟩
theorem tw_690 : (Cond.instanceMethod ({ cls := "ToolHouse$Planner", name := "thingAtRow", desc := "(I)I" } : MethodName)) ∈ TB := List.mem_filter.mpr ⟨tm_3 _ (List.mem_of_getElem? (i := 158) rfl), rfl⟩
theorem tw_691 : (Cond.selects "ToolHouse$Planner" ({ cls := "ToolHouse$Planner", name := "thingAtRow", desc := "(I)I" } : MethodName) ({ cls := "ToolHouse$Planner", name := "thingAtRow", desc := "(I)I" } : MethodName)) ∈ TB := List.mem_filter.mpr ⟨tm_3 _ (List.mem_of_getElem? (i := 159) rfl), rfl⟩
theorem tw_692 : (Cond.code ({ cls := "ToolHouse$Planner", name := "thingAtRow", desc := "(I)I" } : MethodName) prog_7_method_6_code (4 : Nat) (some .int)) ∈ TB := List.mem_filter.mpr ⟨tm_3 _ (List.mem_of_getElem? (i := 160) rfl), rfl⟩
theorem tw_693 : (Cond.methodLink "ToolHouse" (306 : Nat) ({ cls := "ToolHouse", name := "refuse", desc := "(LToolHouse$Ask;)V" } : MethodName)) ∈ TB := List.mem_filter.mpr ⟨tm_3 _ (List.mem_of_getElem? (i := 161) rfl), rfl⟩
theorem tw_695 : (Cond.instanceMethod ({ cls := "ToolHouse", name := "refuse", desc := "(LToolHouse$Ask;)V" } : MethodName)) ∈ TB := List.mem_filter.mpr ⟨tm_3 _ (List.mem_of_getElem? (i := 163) rfl), rfl⟩
theorem tw_696 : (Cond.code ({ cls := "ToolHouse", name := "refuse", desc := "(LToolHouse$Ask;)V" } : MethodName) prog_1_method_37_code (3 : Nat) (none : Option Jvm.ClassFile.FieldType)) ∈ TB := List.mem_filter.mpr ⟨tm_3 _ (List.mem_of_getElem? (i := 164) rfl), rfl⟩
theorem tw_697 : (Cond.methodLink "ToolHouse" (309 : Nat) ({ cls := "java/util/ArrayList", name := "add", desc := "(ILjava/lang/Object;)V" } : MethodName)) ∈ TB := List.mem_filter.mpr ⟨tm_3 _ (List.mem_of_getElem? (i := 165) rfl), rfl⟩
theorem tw_698 : (Cond.instanceMethod ({ cls := "java/util/ArrayList", name := "add", desc := "(ILjava/lang/Object;)V" } : MethodName)) ∈ TB := List.mem_filter.mpr ⟨tm_3 _ (List.mem_of_getElem? (i := 166) rfl), rfl⟩
theorem tw_699 : (Cond.selects "java/util/ArrayList" ({ cls := "java/util/ArrayList", name := "add", desc := "(ILjava/lang/Object;)V" } : MethodName) ({ cls := "java/util/ArrayList", name := "add", desc := "(ILjava/lang/Object;)V" } : MethodName)) ∈ TB := List.mem_filter.mpr ⟨tm_3 _ (List.mem_of_getElem? (i := 167) rfl), rfl⟩
theorem tw_700 : (Cond.code ({ cls := "java/util/ArrayList", name := "add", desc := "(ILjava/lang/Object;)V" } : MethodName) prog_25_method_26_code (5 : Nat) (none : Option Jvm.ClassFile.FieldType)) ∈ TB := List.mem_filter.mpr ⟨tm_3 _ (List.mem_of_getElem? (i := 168) rfl), rfl⟩
theorem tw_701 : (Cond.methodLink "java/util/ArrayList" (135 : Nat) ({ cls := "java/util/ArrayList", name := "rangeCheckForAdd", desc := "(I)V" } : MethodName)) ∈ TB := List.mem_filter.mpr ⟨tm_3 _ (List.mem_of_getElem? (i := 169) rfl), rfl⟩
theorem tw_703 : (Cond.instanceMethod ({ cls := "java/util/ArrayList", name := "rangeCheckForAdd", desc := "(I)V" } : MethodName)) ∈ TB := List.mem_filter.mpr ⟨tm_3 _ (List.mem_of_getElem? (i := 171) rfl), rfl⟩
theorem tw_704 : (Cond.code ({ cls := "java/util/ArrayList", name := "rangeCheckForAdd", desc := "(I)V" } : MethodName) prog_25_method_45_code (2 : Nat) (none : Option Jvm.ClassFile.FieldType)) ∈ TB := List.mem_filter.mpr ⟨tm_3 _ (List.mem_of_getElem? (i := 172) rfl), rfl⟩
theorem tw_705 : (Cond.methodLink "java/util/ArrayList" (112 : Nat) ({ cls := "java/lang/System", name := "arraycopy", desc := "(Ljava/lang/Object;ILjava/lang/Object;II)V" } : MethodName)) ∈ TB := List.mem_filter.mpr ⟨tm_3 _ (List.mem_of_getElem? (i := 173) rfl), rfl⟩
theorem tw_706 : (Cond.methodLink "ToolHouseLaw" (69 : Nat) ({ cls := "ToolHouse", name := "off", desc := "(I)Z" } : MethodName)) ∈ TB := List.mem_filter.mpr ⟨tm_3 _ (List.mem_of_getElem? (i := 174) rfl), rfl⟩
theorem tw_707 : (Cond.instanceMethod ({ cls := "ToolHouse", name := "off", desc := "(I)Z" } : MethodName)) ∈ TB := List.mem_filter.mpr ⟨tm_3 _ (List.mem_of_getElem? (i := 175) rfl), rfl⟩
theorem tw_708 : (Cond.selects "ToolHouse" ({ cls := "ToolHouse", name := "off", desc := "(I)Z" } : MethodName) ({ cls := "ToolHouse", name := "off", desc := "(I)Z" } : MethodName)) ∈ TB := List.mem_filter.mpr ⟨tm_3 _ (List.mem_of_getElem? (i := 176) rfl), rfl⟩
theorem tw_709 : (Cond.code ({ cls := "ToolHouse", name := "off", desc := "(I)Z" } : MethodName) prog_1_method_13_code (3 : Nat) (some .boolean)) ∈ TB := List.mem_filter.mpr ⟨tm_3 _ (List.mem_of_getElem? (i := 177) rfl), rfl⟩
theorem tw_710 : (Cond.methodLink "ToolHouse" (179 : Nat) ({ cls := "ToolHouse", name := "askAt", desc := "(I)LToolHouse$Ask;" } : MethodName)) ∈ TB := List.mem_filter.mpr ⟨tm_3 _ (List.mem_of_getElem? (i := 178) rfl), rfl⟩
theorem tw_712 : (Cond.instanceMethod ({ cls := "ToolHouse", name := "askAt", desc := "(I)LToolHouse$Ask;" } : MethodName)) ∈ TB := List.mem_filter.mpr ⟨tm_3 _ (List.mem_of_getElem? (i := 180) rfl), rfl⟩
theorem tw_713 : (Cond.code ({ cls := "ToolHouse", name := "askAt", desc := "(I)LToolHouse$Ask;" } : MethodName) prog_1_method_29_code (2 : Nat) (some (.object "ToolHouse$Ask"))) ∈ TB := List.mem_filter.mpr ⟨tm_3 _ (List.mem_of_getElem? (i := 181) rfl), rfl⟩
theorem tw_714 : (Cond.methodLink "ToolHouseLaw" (73 : Nat) ({ cls := "ToolHouse", name := "out", desc := "(I)I" } : MethodName)) ∈ TB := List.mem_filter.mpr ⟨tm_3 _ (List.mem_of_getElem? (i := 182) rfl), rfl⟩
theorem tw_715 : (Cond.instanceMethod ({ cls := "ToolHouse", name := "out", desc := "(I)I" } : MethodName)) ∈ TB := List.mem_filter.mpr ⟨tm_3 _ (List.mem_of_getElem? (i := 183) rfl), rfl⟩
theorem tw_716 : (Cond.selects "ToolHouse" ({ cls := "ToolHouse", name := "out", desc := "(I)I" } : MethodName) ({ cls := "ToolHouse", name := "out", desc := "(I)I" } : MethodName)) ∈ TB := List.mem_filter.mpr ⟨tm_3 _ (List.mem_of_getElem? (i := 184) rfl), rfl⟩
theorem tw_717 : (Cond.code ({ cls := "ToolHouse", name := "out", desc := "(I)I" } : MethodName) prog_1_method_14_code (4 : Nat) (some .int)) ∈ TB := List.mem_filter.mpr ⟨tm_3 _ (List.mem_of_getElem? (i := 185) rfl), rfl⟩
theorem tw_718 : (Cond.methodLink "ToolHouse" (187 : Nat) ({ cls := "ToolHouse", name := "hindranceOf", desc := "(LToolHouse$Ask;LToolHouse$Thing;)I" } : MethodName)) ∈ TB := List.mem_filter.mpr ⟨tm_3 _ (List.mem_of_getElem? (i := 186) rfl), rfl⟩
theorem tw_720 : (Cond.instanceMethod ({ cls := "ToolHouse", name := "hindranceOf", desc := "(LToolHouse$Ask;LToolHouse$Thing;)I" } : MethodName)) ∈ TB := List.mem_filter.mpr ⟨tm_3 _ (List.mem_of_getElem? (i := 188) rfl), rfl⟩
theorem tw_721 : (Cond.code ({ cls := "ToolHouse", name := "hindranceOf", desc := "(LToolHouse$Ask;LToolHouse$Thing;)I" } : MethodName) prog_1_method_38_code (3 : Nat) (some .int)) ∈ TB := List.mem_filter.mpr ⟨tm_3 _ (List.mem_of_getElem? (i := 189) rfl), rfl⟩
theorem tw_722 : (Cond.methodLink "ToolHouse" (312 : Nat) ({ cls := "ToolHouse$Thing", name := "isCaredFor", desc := "(I)Z" } : MethodName)) ∈ TB := List.mem_filter.mpr ⟨tm_3 _ (List.mem_of_getElem? (i := 190) rfl), rfl⟩
theorem tw_723 : (Cond.instanceMethod ({ cls := "ToolHouse$Thing", name := "isCaredFor", desc := "(I)Z" } : MethodName)) ∈ TB := List.mem_filter.mpr ⟨tm_3 _ (List.mem_of_getElem? (i := 191) rfl), rfl⟩
theorem tw_724 : (Cond.selects "ToolHouse$Thing" ({ cls := "ToolHouse$Thing", name := "isCaredFor", desc := "(I)Z" } : MethodName) ({ cls := "ToolHouse$Thing", name := "isCaredFor", desc := "(I)Z" } : MethodName)) ∈ TB := List.mem_filter.mpr ⟨tm_3 _ (List.mem_of_getElem? (i := 192) rfl), rfl⟩
theorem tw_725 : (Cond.code ({ cls := "ToolHouse$Thing", name := "isCaredFor", desc := "(I)Z" } : MethodName) prog_9_method_3_code (2 : Nat) (some .boolean)) ∈ TB := List.mem_filter.mpr ⟨tm_3 _ (List.mem_of_getElem? (i := 193) rfl), rfl⟩
theorem tw_726 : (Cond.methodLink "ToolHouseLaw" (77 : Nat) ({ cls := "ToolHouse", name := "back", desc := "(I)I" } : MethodName)) ∈ TB := List.mem_filter.mpr ⟨tm_3 _ (List.mem_of_getElem? (i := 194) rfl), rfl⟩
theorem tw_727 : (Cond.instanceMethod ({ cls := "ToolHouse", name := "back", desc := "(I)I" } : MethodName)) ∈ TB := List.mem_filter.mpr ⟨tm_3 _ (List.mem_of_getElem? (i := 195) rfl), rfl⟩
theorem tw_728 : (Cond.selects "ToolHouse" ({ cls := "ToolHouse", name := "back", desc := "(I)I" } : MethodName) ({ cls := "ToolHouse", name := "back", desc := "(I)I" } : MethodName)) ∈ TB := List.mem_filter.mpr ⟨tm_3 _ (List.mem_of_getElem? (i := 196) rfl), rfl⟩
theorem tw_729 : (Cond.code ({ cls := "ToolHouse", name := "back", desc := "(I)I" } : MethodName) prog_1_method_15_code (4 : Nat) (some .int)) ∈ TB := List.mem_filter.mpr ⟨tm_3 _ (List.mem_of_getElem? (i := 197) rfl), rfl⟩
theorem tw_730 : (Cond.methodLink "ToolHouse" (201 : Nat) ({ cls := "java/lang/Math", name := "max", desc := "(II)I" } : MethodName)) ∈ TB := List.mem_filter.mpr ⟨tm_3 _ (List.mem_of_getElem? (i := 198) rfl), rfl⟩
theorem tw_731 : (Cond.methodLink "ToolHouse" (217 : Nat) ({ cls := "ToolHouse$Member", name := "owe", desc := "(II)V" } : MethodName)) ∈ TB := List.mem_filter.mpr ⟨tm_3 _ (List.mem_of_getElem? (i := 199) rfl), rfl⟩
theorem tw_732 : (Cond.instanceMethod ({ cls := "ToolHouse$Member", name := "owe", desc := "(II)V" } : MethodName)) ∈ TB := List.mem_filter.mpr ⟨tm_3 _ (List.mem_of_getElem? (i := 200) rfl), rfl⟩
theorem tw_733 : (Cond.selects "ToolHouse$Member" ({ cls := "ToolHouse$Member", name := "owe", desc := "(II)V" } : MethodName) ({ cls := "ToolHouse$Member", name := "owe", desc := "(II)V" } : MethodName)) ∈ TB := List.mem_filter.mpr ⟨tm_3 _ (List.mem_of_getElem? (i := 201) rfl), rfl⟩
theorem tw_734 : (Cond.code ({ cls := "ToolHouse$Member", name := "owe", desc := "(II)V" } : MethodName) prog_6_method_2_code (3 : Nat) (none : Option Jvm.ClassFile.FieldType)) ∈ TB := List.mem_filter.mpr ⟨tm_3 _ (List.mem_of_getElem? (i := 202) rfl), rfl⟩
theorem tw_735 : (Cond.methodLink "ToolHouseLaw" (81 : Nat) ({ cls := "ToolHouse", name := "work", desc := "(II)I" } : MethodName)) ∈ TB := List.mem_filter.mpr ⟨tm_3 _ (List.mem_of_getElem? (i := 203) rfl), rfl⟩
theorem tw_736 : (Cond.instanceMethod ({ cls := "ToolHouse", name := "work", desc := "(II)I" } : MethodName)) ∈ TB := List.mem_filter.mpr ⟨tm_3 _ (List.mem_of_getElem? (i := 204) rfl), rfl⟩
theorem tw_737 : (Cond.selects "ToolHouse" ({ cls := "ToolHouse", name := "work", desc := "(II)I" } : MethodName) ({ cls := "ToolHouse", name := "work", desc := "(II)I" } : MethodName)) ∈ TB := List.mem_filter.mpr ⟨tm_3 _ (List.mem_of_getElem? (i := 205) rfl), rfl⟩
theorem tw_738 : (Cond.code ({ cls := "ToolHouse", name := "work", desc := "(II)I" } : MethodName) prog_1_method_16_code (4 : Nat) (some .int)) ∈ TB := List.mem_filter.mpr ⟨tm_3 _ (List.mem_of_getElem? (i := 206) rfl), rfl⟩
theorem tw_739 : (Cond.methodLink "ToolHouseLaw" (85 : Nat) ({ cls := "ToolHouse", name := "days", desc := "(I)I" } : MethodName)) ∈ TB := List.mem_filter.mpr ⟨tm_3 _ (List.mem_of_getElem? (i := 207) rfl), rfl⟩
theorem tw_740 : (Cond.instanceMethod ({ cls := "ToolHouse", name := "days", desc := "(I)I" } : MethodName)) ∈ TB := List.mem_filter.mpr ⟨tm_3 _ (List.mem_of_getElem? (i := 208) rfl), rfl⟩
theorem tw_741 : (Cond.selects "ToolHouse" ({ cls := "ToolHouse", name := "days", desc := "(I)I" } : MethodName) ({ cls := "ToolHouse", name := "days", desc := "(I)I" } : MethodName)) ∈ TB := List.mem_filter.mpr ⟨tm_3 _ (List.mem_of_getElem? (i := 209) rfl), rfl⟩
theorem tw_742 : (Cond.code ({ cls := "ToolHouse", name := "days", desc := "(I)I" } : MethodName) prog_1_method_17_code (3 : Nat) (some .int)) ∈ TB := List.mem_filter.mpr ⟨tm_3 _ (List.mem_of_getElem? (i := 210) rfl), rfl⟩
theorem tw_743 : (Cond.methodLink "ToolHouse" (230 : Nat) ({ cls := "ToolHouse", name := "loseWhatIsOver", desc := "()V" } : MethodName)) ∈ TB := List.mem_filter.mpr ⟨tm_3 _ (List.mem_of_getElem? (i := 211) rfl), rfl⟩
theorem tw_745 : (Cond.instanceMethod ({ cls := "ToolHouse", name := "loseWhatIsOver", desc := "()V" } : MethodName)) ∈ TB := List.mem_filter.mpr ⟨tm_3 _ (List.mem_of_getElem? (i := 213) rfl), rfl⟩
theorem tw_746 : (Cond.code ({ cls := "ToolHouse", name := "loseWhatIsOver", desc := "()V" } : MethodName) prog_1_method_39_code (3 : Nat) (none : Option Jvm.ClassFile.FieldType)) ∈ TB := List.mem_filter.mpr ⟨tm_3 _ (List.mem_of_getElem? (i := 214) rfl), rfl⟩
theorem tw_747 : (Cond.methodLink "ToolHouse" (233 : Nat) ({ cls := "ToolHouse", name := "moveFromLateThings", desc := "()V" } : MethodName)) ∈ TB := List.mem_filter.mpr ⟨tm_3 _ (List.mem_of_getElem? (i := 215) rfl), rfl⟩
theorem tw_749 : (Cond.instanceMethod ({ cls := "ToolHouse", name := "moveFromLateThings", desc := "()V" } : MethodName)) ∈ TB := List.mem_filter.mpr ⟨tm_3 _ (List.mem_of_getElem? (i := 217) rfl), rfl⟩
theorem tw_750 : (Cond.code ({ cls := "ToolHouse", name := "moveFromLateThings", desc := "()V" } : MethodName) prog_1_method_40_code (4 : Nat) (none : Option Jvm.ClassFile.FieldType)) ∈ TB := List.mem_filter.mpr ⟨tm_3 _ (List.mem_of_getElem? (i := 218) rfl), rfl⟩
theorem tw_751 : (Cond.methodLink "ToolHouse" (315 : Nat) ({ cls := "ToolHouse", name := "nextToMove", desc := "()LToolHouse$Ask;" } : MethodName)) ∈ TB := List.mem_filter.mpr ⟨tm_3 _ (List.mem_of_getElem? (i := 219) rfl), rfl⟩
theorem tw_753 : (Cond.instanceMethod ({ cls := "ToolHouse", name := "nextToMove", desc := "()LToolHouse$Ask;" } : MethodName)) ∈ TB := List.mem_filter.mpr ⟨tm_3 _ (List.mem_of_getElem? (i := 221) rfl), rfl⟩
theorem tw_754 : (Cond.code ({ cls := "ToolHouse", name := "nextToMove", desc := "()LToolHouse$Ask;" } : MethodName) prog_1_method_41_code (4 : Nat) (some (.object "ToolHouse$Ask"))) ∈ TB := List.mem_filter.mpr ⟨tm_3 _ (List.mem_of_getElem? (i := 222) rfl), rfl⟩
theorem tw_755 : (Cond.methodLink "ToolHouse" (323 : Nat) ({ cls := "ToolHouse", name := "mustMove", desc := "(LToolHouse$Ask;)Z" } : MethodName)) ∈ TB := List.mem_filter.mpr ⟨tm_3 _ (List.mem_of_getElem? (i := 223) rfl), rfl⟩
theorem tw_757 : (Cond.instanceMethod ({ cls := "ToolHouse", name := "mustMove", desc := "(LToolHouse$Ask;)Z" } : MethodName)) ∈ TB := List.mem_filter.mpr ⟨tm_3 _ (List.mem_of_getElem? (i := 225) rfl), rfl⟩
theorem tw_758 : (Cond.code ({ cls := "ToolHouse", name := "mustMove", desc := "(LToolHouse$Ask;)Z" } : MethodName) prog_1_method_42_code (2 : Nat) (some .boolean)) ∈ TB := List.mem_filter.mpr ⟨tm_3 _ (List.mem_of_getElem? (i := 226) rfl), rfl⟩
theorem tw_759 : (Cond.methodLink "ToolHouse" (265 : Nat) ({ cls := "ToolHouse$Thing", name := "isLate", desc := "(I)Z" } : MethodName)) ∈ TB := List.mem_filter.mpr ⟨tm_3 _ (List.mem_of_getElem? (i := 227) rfl), rfl⟩
theorem tw_760 : (Cond.instanceMethod ({ cls := "ToolHouse$Thing", name := "isLate", desc := "(I)Z" } : MethodName)) ∈ TB := List.mem_filter.mpr ⟨tm_3 _ (List.mem_of_getElem? (i := 228) rfl), rfl⟩
theorem tw_761 : (Cond.selects "ToolHouse$Thing" ({ cls := "ToolHouse$Thing", name := "isLate", desc := "(I)Z" } : MethodName) ({ cls := "ToolHouse$Thing", name := "isLate", desc := "(I)Z" } : MethodName)) ∈ TB := List.mem_filter.mpr ⟨tm_3 _ (List.mem_of_getElem? (i := 229) rfl), rfl⟩
theorem tw_762 : (Cond.code ({ cls := "ToolHouse$Thing", name := "isLate", desc := "(I)Z" } : MethodName) prog_9_method_2_code (2 : Nat) (some .boolean)) ∈ TB := List.mem_filter.mpr ⟨tm_3 _ (List.mem_of_getElem? (i := 230) rfl), rfl⟩
theorem tw_763 : (Cond.methodLink "ToolHouse" (326 : Nat) ({ cls := "ToolHouse$Ask", name := "movesAheadOf", desc := "(LToolHouse$Ask;)Z" } : MethodName)) ∈ TB := List.mem_filter.mpr ⟨tm_3 _ (List.mem_of_getElem? (i := 231) rfl), rfl⟩
theorem tw_764 : (Cond.instanceMethod ({ cls := "ToolHouse$Ask", name := "movesAheadOf", desc := "(LToolHouse$Ask;)Z" } : MethodName)) ∈ TB := List.mem_filter.mpr ⟨tm_3 _ (List.mem_of_getElem? (i := 232) rfl), rfl⟩
theorem tw_765 : (Cond.selects "ToolHouse$Ask" ({ cls := "ToolHouse$Ask", name := "movesAheadOf", desc := "(LToolHouse$Ask;)Z" } : MethodName) ({ cls := "ToolHouse$Ask", name := "movesAheadOf", desc := "(LToolHouse$Ask;)Z" } : MethodName)) ∈ TB := List.mem_filter.mpr ⟨tm_3 _ (List.mem_of_getElem? (i := 233) rfl), rfl⟩
theorem tw_766 : (Cond.code ({ cls := "ToolHouse$Ask", name := "movesAheadOf", desc := "(LToolHouse$Ask;)Z" } : MethodName) prog_2_method_5_code (2 : Nat) (some .boolean)) ∈ TB := List.mem_filter.mpr ⟨tm_3 _ (List.mem_of_getElem? (i := 234) rfl), rfl⟩
theorem tw_767 : (Cond.methodLink "ToolHouse" (319 : Nat) ({ cls := "ToolHouse", name := "firstOtherThingFor", desc := "(LToolHouse$Ask;)LToolHouse$Thing;" } : MethodName)) ∈ TB := List.mem_filter.mpr ⟨tm_3 _ (List.mem_of_getElem? (i := 235) rfl), rfl⟩
theorem tw_769 : (Cond.instanceMethod ({ cls := "ToolHouse", name := "firstOtherThingFor", desc := "(LToolHouse$Ask;)LToolHouse$Thing;" } : MethodName)) ∈ TB := List.mem_filter.mpr ⟨tm_3 _ (List.mem_of_getElem? (i := 237) rfl), rfl⟩
theorem tw_770 : (Cond.code ({ cls := "ToolHouse", name := "firstOtherThingFor", desc := "(LToolHouse$Ask;)LToolHouse$Thing;" } : MethodName) prog_1_method_43_code (4 : Nat) (some (.object "ToolHouse$Thing"))) ∈ TB := List.mem_filter.mpr ⟨tm_3 _ (List.mem_of_getElem? (i := 238) rfl), rfl⟩
theorem tw_771 : (Cond.methodLink "ToolHouseLaw" (89 : Nat) ({ cls := "ToolHouse", name := "buy", desc := "(I)I" } : MethodName)) ∈ TB := List.mem_filter.mpr ⟨tm_3 _ (List.mem_of_getElem? (i := 239) rfl), rfl⟩
theorem tw_772 : (Cond.instanceMethod ({ cls := "ToolHouse", name := "buy", desc := "(I)I" } : MethodName)) ∈ TB := List.mem_filter.mpr ⟨tm_4 _ (List.mem_of_getElem? (i := 0) rfl), rfl⟩
theorem tw_773 : (Cond.selects "ToolHouse" ({ cls := "ToolHouse", name := "buy", desc := "(I)I" } : MethodName) ({ cls := "ToolHouse", name := "buy", desc := "(I)I" } : MethodName)) ∈ TB := List.mem_filter.mpr ⟨tm_4 _ (List.mem_of_getElem? (i := 1) rfl), rfl⟩
theorem tw_774 : (Cond.code ({ cls := "ToolHouse", name := "buy", desc := "(I)I" } : MethodName) prog_1_method_18_code (7 : Nat) (some .int)) ∈ TB := List.mem_filter.mpr ⟨tm_4 _ (List.mem_of_getElem? (i := 2) rfl), rfl⟩
theorem tw_775 : (Cond.methodLink "ToolHouseLaw" (102 : Nat) ({ cls := "ToolHouse", name := "thingOf", desc := "(II)I" } : MethodName)) ∈ TB := List.mem_filter.mpr ⟨tm_4 _ (List.mem_of_getElem? (i := 3) rfl), rfl⟩
theorem tw_776 : (Cond.instanceMethod ({ cls := "ToolHouse", name := "thingOf", desc := "(II)I" } : MethodName)) ∈ TB := List.mem_filter.mpr ⟨tm_4 _ (List.mem_of_getElem? (i := 4) rfl), rfl⟩
theorem tw_777 : (Cond.selects "ToolHouse" ({ cls := "ToolHouse", name := "thingOf", desc := "(II)I" } : MethodName) ({ cls := "ToolHouse", name := "thingOf", desc := "(II)I" } : MethodName)) ∈ TB := List.mem_filter.mpr ⟨tm_4 _ (List.mem_of_getElem? (i := 5) rfl), rfl⟩
theorem tw_778 : (Cond.code ({ cls := "ToolHouse", name := "thingOf", desc := "(II)I" } : MethodName) prog_1_method_20_code (4 : Nat) (some .int)) ∈ TB := List.mem_filter.mpr ⟨tm_4 _ (List.mem_of_getElem? (i := 6) rfl), rfl⟩
theorem tw_779 : (Cond.methodLink "ToolHouse" (269 : Nat) ({ cls := "ToolHouse", name := "howManyAreBookedOn", desc := "(LToolHouse$Thing;)I" } : MethodName)) ∈ TB := List.mem_filter.mpr ⟨tm_4 _ (List.mem_of_getElem? (i := 7) rfl), rfl⟩
theorem tw_781 : (Cond.instanceMethod ({ cls := "ToolHouse", name := "howManyAreBookedOn", desc := "(LToolHouse$Thing;)I" } : MethodName)) ∈ TB := List.mem_filter.mpr ⟨tm_4 _ (List.mem_of_getElem? (i := 9) rfl), rfl⟩
theorem tw_782 : (Cond.code ({ cls := "ToolHouse", name := "howManyAreBookedOn", desc := "(LToolHouse$Thing;)I" } : MethodName) prog_1_method_32_code (4 : Nat) (some .int)) ∈ TB := List.mem_filter.mpr ⟨tm_4 _ (List.mem_of_getElem? (i := 10) rfl), rfl⟩
theorem tw_783 : (Cond.methodLink "ToolHouse" (282 : Nat) ({ cls := "ToolHouse$Ask", name := "isBookedOn", desc := "(LToolHouse$Thing;)Z" } : MethodName)) ∈ TB := List.mem_filter.mpr ⟨tm_4 _ (List.mem_of_getElem? (i := 11) rfl), rfl⟩
theorem tw_784 : (Cond.instanceMethod ({ cls := "ToolHouse$Ask", name := "isBookedOn", desc := "(LToolHouse$Thing;)Z" } : MethodName)) ∈ TB := List.mem_filter.mpr ⟨tm_4 _ (List.mem_of_getElem? (i := 12) rfl), rfl⟩
theorem tw_785 : (Cond.selects "ToolHouse$Ask" ({ cls := "ToolHouse$Ask", name := "isBookedOn", desc := "(LToolHouse$Thing;)Z" } : MethodName) ({ cls := "ToolHouse$Ask", name := "isBookedOn", desc := "(LToolHouse$Thing;)Z" } : MethodName)) ∈ TB := List.mem_filter.mpr ⟨tm_4 _ (List.mem_of_getElem? (i := 13) rfl), rfl⟩
theorem tw_786 : (Cond.code ({ cls := "ToolHouse$Ask", name := "isBookedOn", desc := "(LToolHouse$Thing;)Z" } : MethodName) prog_2_method_2_code (2 : Nat) (some .boolean)) ∈ TB := List.mem_filter.mpr ⟨tm_4 _ (List.mem_of_getElem? (i := 14) rfl), rfl⟩
theorem tw_787 : (Cond.methodLink "ToolHouseLaw" (106 : Nat) ({ cls := "ToolHouse", name := "isFree", desc := "(III)I" } : MethodName)) ∈ TB := List.mem_filter.mpr ⟨tm_4 _ (List.mem_of_getElem? (i := 15) rfl), rfl⟩
theorem tw_788 : (Cond.instanceMethod ({ cls := "ToolHouse", name := "isFree", desc := "(III)I" } : MethodName)) ∈ TB := List.mem_filter.mpr ⟨tm_4 _ (List.mem_of_getElem? (i := 16) rfl), rfl⟩
theorem tw_789 : (Cond.selects "ToolHouse" ({ cls := "ToolHouse", name := "isFree", desc := "(III)I" } : MethodName) ({ cls := "ToolHouse", name := "isFree", desc := "(III)I" } : MethodName)) ∈ TB := List.mem_filter.mpr ⟨tm_4 _ (List.mem_of_getElem? (i := 17) rfl), rfl⟩
theorem tw_790 : (Cond.code ({ cls := "ToolHouse", name := "isFree", desc := "(III)I" } : MethodName) prog_1_method_21_code (5 : Nat) (some .int)) ∈ TB := List.mem_filter.mpr ⟨tm_4 _ (List.mem_of_getElem? (i := 18) rfl), rfl⟩
theorem tw_791 : (Cond.methodLink "ToolHouseLaw" (110 : Nat) ({ cls := "ToolHouse", name := "memberOf", desc := "(II)I" } : MethodName)) ∈ TB := List.mem_filter.mpr ⟨tm_4 _ (List.mem_of_getElem? (i := 19) rfl), rfl⟩
theorem tw_792 : (Cond.instanceMethod ({ cls := "ToolHouse", name := "memberOf", desc := "(II)I" } : MethodName)) ∈ TB := List.mem_filter.mpr ⟨tm_4 _ (List.mem_of_getElem? (i := 20) rfl), rfl⟩
theorem tw_793 : (Cond.selects "ToolHouse" ({ cls := "ToolHouse", name := "memberOf", desc := "(II)I" } : MethodName) ({ cls := "ToolHouse", name := "memberOf", desc := "(II)I" } : MethodName)) ∈ TB := List.mem_filter.mpr ⟨tm_4 _ (List.mem_of_getElem? (i := 21) rfl), rfl⟩
theorem tw_794 : (Cond.code ({ cls := "ToolHouse", name := "memberOf", desc := "(II)I" } : MethodName) prog_1_method_22_code (4 : Nat) (some .int)) ∈ TB := List.mem_filter.mpr ⟨tm_4 _ (List.mem_of_getElem? (i := 22) rfl), rfl⟩
theorem tw_795 : (Cond.methodLink "ToolHouseLaw" (114 : Nat) ({ cls := "ToolHouse", name := "count", desc := "(I)I" } : MethodName)) ∈ TB := List.mem_filter.mpr ⟨tm_4 _ (List.mem_of_getElem? (i := 23) rfl), rfl⟩
theorem tw_796 : (Cond.instanceMethod ({ cls := "ToolHouse", name := "count", desc := "(I)I" } : MethodName)) ∈ TB := List.mem_filter.mpr ⟨tm_4 _ (List.mem_of_getElem? (i := 24) rfl), rfl⟩
theorem tw_797 : (Cond.selects "ToolHouse" ({ cls := "ToolHouse", name := "count", desc := "(I)I" } : MethodName) ({ cls := "ToolHouse", name := "count", desc := "(I)I" } : MethodName)) ∈ TB := List.mem_filter.mpr ⟨tm_4 _ (List.mem_of_getElem? (i := 25) rfl), rfl⟩
theorem tw_798 : (Cond.code ({ cls := "ToolHouse", name := "count", desc := "(I)I" } : MethodName) prog_1_method_23_code (2 : Nat) (some .int)) ∈ TB := List.mem_filter.mpr ⟨tm_4 _ (List.mem_of_getElem? (i := 26) rfl), rfl⟩
theorem tw_799 : (Cond.methodLink "ToolHouse" (279 : Nat) ({ cls := "ToolHouse$LawBook", name := "daysWanted", desc := "(I)I" } : MethodName)) ∈ TB := List.mem_filter.mpr ⟨tm_4 _ (List.mem_of_getElem? (i := 27) rfl), rfl⟩
theorem tw_800 : (Cond.methodLink "ToolHouseLaw" (93 : Nat) ({ cls := "ToolHouseLaw", name := "of", desc := "(LToolHouse;II[J)I" } : MethodName)) ∈ TB := List.mem_filter.mpr ⟨tm_4 _ (List.mem_of_getElem? (i := 28) rfl), rfl⟩
theorem tw_801 : (Cond.static ({ cls := "ToolHouseLaw", name := "of", desc := "(LToolHouse;II[J)I" } : MethodName)) ∈ TB := List.mem_filter.mpr ⟨tm_4 _ (List.mem_of_getElem? (i := 29) rfl), rfl⟩
theorem tw_803 : (Cond.classLink "ToolHouseLaw" (13 : Nat) "java/util/NoSuchElementException") ∈ TB := List.mem_filter.mpr ⟨tm_4 _ (List.mem_of_getElem? (i := 31) rfl), rfl⟩
theorem tw_804 : (Cond.methodLink "ToolHouseLaw" (7 : Nat) ({ cls := "ToolHouse", name := "of", desc := "(II)I" } : MethodName)) ∈ TB := List.mem_filter.mpr ⟨tm_4 _ (List.mem_of_getElem? (i := 32) rfl), rfl⟩
theorem tw_805 : (Cond.instanceMethod ({ cls := "ToolHouse", name := "of", desc := "(II)I" } : MethodName)) ∈ TB := List.mem_filter.mpr ⟨tm_4 _ (List.mem_of_getElem? (i := 33) rfl), rfl⟩
theorem tw_806 : (Cond.selects "ToolHouse" ({ cls := "ToolHouse", name := "of", desc := "(II)I" } : MethodName) ({ cls := "ToolHouse", name := "of", desc := "(II)I" } : MethodName)) ∈ TB := List.mem_filter.mpr ⟨tm_4 _ (List.mem_of_getElem? (i := 34) rfl), rfl⟩
theorem tw_807 : (Cond.code ({ cls := "ToolHouse", name := "of", desc := "(II)I" } : MethodName) prog_1_method_19_code (4 : Nat) (some .int)) ∈ TB := List.mem_filter.mpr ⟨tm_4 _ (List.mem_of_getElem? (i := 35) rfl), rfl⟩
theorem tw_808 : (Cond.classLink "ToolHouse" (243 : Nat) "java/util/NoSuchElementException") ∈ TB := List.mem_filter.mpr ⟨tm_4 _ (List.mem_of_getElem? (i := 36) rfl), rfl⟩
theorem tw_809 : (Cond.instantiable "java/util/NoSuchElementException" (6 : Nat)) ∈ TB := List.mem_filter.mpr ⟨tm_4 _ (List.mem_of_getElem? (i := 37) rfl), rfl⟩
theorem tw_810 : (Cond.castable "java/util/NoSuchElementException" "java/util/NoSuchElementException") ∈ NW := List.mem_filter.mpr ⟨tm_4 _ (List.mem_of_getElem? (i := 38) rfl), rfl⟩
theorem tw_811 : (Cond.declares ({ cls := "java/lang/RuntimeException", name := "<init>", desc := "()V" } : MethodName)) ∈ NW := List.mem_filter.mpr ⟨tm_4 _ (List.mem_of_getElem? (i := 39) rfl), rfl⟩
theorem tw_812 : (Cond.declares ({ cls := "java/lang/RuntimeException", name := "<init>", desc := "(Ljava/lang/String;)V" } : MethodName)) ∈ NW := List.mem_filter.mpr ⟨tm_4 _ (List.mem_of_getElem? (i := 40) rfl), rfl⟩
theorem tw_813 : (Cond.declares ({ cls := "java/lang/Exception", name := "<init>", desc := "()V" } : MethodName)) ∈ NW := List.mem_filter.mpr ⟨tm_4 _ (List.mem_of_getElem? (i := 41) rfl), rfl⟩
theorem tw_814 : (Cond.declares ({ cls := "java/lang/Exception", name := "<init>", desc := "(Ljava/lang/String;)V" } : MethodName)) ∈ NW := List.mem_filter.mpr ⟨tm_4 _ (List.mem_of_getElem? (i := 42) rfl), rfl⟩
theorem tw_815 : (Cond.declares ({ cls := "java/lang/Throwable", name := "<init>", desc := "()V" } : MethodName)) ∈ NW := List.mem_filter.mpr ⟨tm_4 _ (List.mem_of_getElem? (i := 43) rfl), rfl⟩
theorem tw_816 : (Cond.declares ({ cls := "java/lang/Throwable", name := "<init>", desc := "(Ljava/lang/String;)V" } : MethodName)) ∈ NW := List.mem_filter.mpr ⟨tm_4 _ (List.mem_of_getElem? (i := 44) rfl), rfl⟩
theorem tw_817 : (Cond.selects "java/util/NoSuchElementException" ({ cls := "java/lang/Throwable", name := "fillInStackTrace", desc := "(I)Ljava/lang/Throwable;" } : MethodName) ({ cls := "java/lang/Throwable", name := "fillInStackTrace", desc := "(I)Ljava/lang/Throwable;" } : MethodName)) ∈ TB := List.mem_filter.mpr ⟨tm_4 _ (List.mem_of_getElem? (i := 45) rfl), rfl⟩
theorem tw_818 : (Cond.selects "java/util/NoSuchElementException" ({ cls := "java/lang/Throwable", name := "fillInStackTrace", desc := "()Ljava/lang/Throwable;" } : MethodName) ({ cls := "java/lang/Throwable", name := "fillInStackTrace", desc := "()Ljava/lang/Throwable;" } : MethodName)) ∈ TB := List.mem_filter.mpr ⟨tm_4 _ (List.mem_of_getElem? (i := 46) rfl), rfl⟩
theorem tw_829 : (Cond.fieldLink "java/lang/Throwable" (198 : Nat) "java/lang/Throwable" "backtrace" "Ljava/lang/Object;") ∈ TB := List.mem_filter.mpr ⟨tm_4 _ (List.mem_of_getElem? (i := 57) rfl), rfl⟩
theorem tw_831 : (Cond.instanceMethod ({ cls := "java/lang/Throwable", name := "<init>", desc := "()V" } : MethodName)) ∈ TB := List.mem_filter.mpr ⟨tm_4 _ (List.mem_of_getElem? (i := 59) rfl), rfl⟩
theorem tw_832 : (Cond.code ({ cls := "java/lang/Throwable", name := "<init>", desc := "()V" } : MethodName) prog_22_method_1_code (1 : Nat) (none : Option Jvm.ClassFile.FieldType)) ∈ TB := List.mem_filter.mpr ⟨tm_4 _ (List.mem_of_getElem? (i := 60) rfl), rfl⟩
theorem tw_833 : (Cond.methodLink "java/lang/Throwable" (1 : Nat) ({ cls := "java/lang/Object", name := "<init>", desc := "()V" } : MethodName)) ∈ TB := List.mem_filter.mpr ⟨tm_4 _ (List.mem_of_getElem? (i := 61) rfl), rfl⟩
theorem tw_834 : (Cond.fieldLink "java/lang/Throwable" (13 : Nat) "java/lang/Throwable" "UNASSIGNED_STACK" "[Ljava/lang/StackTraceElement;") ∈ TB := List.mem_filter.mpr ⟨tm_4 _ (List.mem_of_getElem? (i := 62) rfl), rfl⟩
theorem tw_836 : (Cond.fieldLink "java/lang/Throwable" (20 : Nat) "java/lang/Throwable" "SUPPRESSED_SENTINEL" "Ljava/util/List;") ∈ TB := List.mem_filter.mpr ⟨tm_4 _ (List.mem_of_getElem? (i := 64) rfl), rfl⟩
theorem tw_838 : (Cond.methodLink "java/lang/Throwable" (27 : Nat) ({ cls := "java/lang/Throwable", name := "fillInStackTrace", desc := "()Ljava/lang/Throwable;" } : MethodName)) ∈ TB := List.mem_filter.mpr ⟨tm_4 _ (List.mem_of_getElem? (i := 66) rfl), rfl⟩
theorem tw_839 : (Cond.instanceMethod ({ cls := "java/lang/Throwable", name := "fillInStackTrace", desc := "()Ljava/lang/Throwable;" } : MethodName)) ∈ TB := List.mem_filter.mpr ⟨tm_4 _ (List.mem_of_getElem? (i := 67) rfl), rfl⟩
theorem tw_842 : (Cond.methodLink "java/lang/Throwable" (202 : Nat) ({ cls := "java/lang/Throwable", name := "fillInStackTrace", desc := "(I)Ljava/lang/Throwable;" } : MethodName)) ∈ TB := List.mem_filter.mpr ⟨tm_4 _ (List.mem_of_getElem? (i := 70) rfl), rfl⟩
theorem tw_844 : (Cond.instanceMethod ({ cls := "java/lang/Throwable", name := "fillInStackTrace", desc := "(I)Ljava/lang/Throwable;" } : MethodName)) ∈ TB := List.mem_filter.mpr ⟨tm_4 _ (List.mem_of_getElem? (i := 72) rfl), rfl⟩
theorem tw_845 : (Cond.instantiable "java/lang/Throwable" (6 : Nat)) ∈ TB := List.mem_filter.mpr ⟨tm_4 _ (List.mem_of_getElem? (i := 73) rfl), rfl⟩
theorem tw_848 : (Cond.methodLink "ToolHouse" (247 : Nat) ({ cls := "java/util/NoSuchElementException", name := "<init>", desc := "(Ljava/lang/String;)V" } : MethodName)) ∈ TB := List.mem_filter.mpr ⟨tm_4 _ (List.mem_of_getElem? (i := 76) rfl), rfl⟩
theorem tw_849 : (Cond.instanceMethod ({ cls := "java/util/NoSuchElementException", name := "<init>", desc := "(Ljava/lang/String;)V" } : MethodName)) ∈ TB := List.mem_filter.mpr ⟨tm_4 _ (List.mem_of_getElem? (i := 77) rfl), rfl⟩
theorem tw_850 : (Cond.code ({ cls := "java/util/NoSuchElementException", name := "<init>", desc := "(Ljava/lang/String;)V" } : MethodName) prog_29_method_4_code (2 : Nat) (none : Option Jvm.ClassFile.FieldType)) ∈ TB := List.mem_filter.mpr ⟨tm_4 _ (List.mem_of_getElem? (i := 78) rfl), rfl⟩
theorem tw_851 : (Cond.methodLink "java/util/NoSuchElementException" (13 : Nat) ({ cls := "java/lang/RuntimeException", name := "<init>", desc := "(Ljava/lang/String;)V" } : MethodName)) ∈ TB := List.mem_filter.mpr ⟨tm_4 _ (List.mem_of_getElem? (i := 79) rfl), rfl⟩
theorem tw_852 : (Cond.instanceMethod ({ cls := "java/lang/RuntimeException", name := "<init>", desc := "(Ljava/lang/String;)V" } : MethodName)) ∈ TB := List.mem_filter.mpr ⟨tm_4 _ (List.mem_of_getElem? (i := 80) rfl), rfl⟩
theorem tw_853 : (Cond.code ({ cls := "java/lang/RuntimeException", name := "<init>", desc := "(Ljava/lang/String;)V" } : MethodName) prog_17_method_2_code (2 : Nat) (none : Option Jvm.ClassFile.FieldType)) ∈ TB := List.mem_filter.mpr ⟨tm_4 _ (List.mem_of_getElem? (i := 81) rfl), rfl⟩
theorem tw_854 : (Cond.methodLink "java/lang/RuntimeException" (7 : Nat) ({ cls := "java/lang/Exception", name := "<init>", desc := "(Ljava/lang/String;)V" } : MethodName)) ∈ TB := List.mem_filter.mpr ⟨tm_4 _ (List.mem_of_getElem? (i := 82) rfl), rfl⟩
theorem tw_855 : (Cond.instanceMethod ({ cls := "java/lang/Exception", name := "<init>", desc := "(Ljava/lang/String;)V" } : MethodName)) ∈ TB := List.mem_filter.mpr ⟨tm_4 _ (List.mem_of_getElem? (i := 83) rfl), rfl⟩
theorem tw_856 : (Cond.code ({ cls := "java/lang/Exception", name := "<init>", desc := "(Ljava/lang/String;)V" } : MethodName) prog_14_method_2_code (2 : Nat) (none : Option Jvm.ClassFile.FieldType)) ∈ TB := List.mem_filter.mpr ⟨tm_4 _ (List.mem_of_getElem? (i := 84) rfl), rfl⟩
theorem tw_857 : (Cond.methodLink "java/lang/Exception" (7 : Nat) ({ cls := "java/lang/Throwable", name := "<init>", desc := "(Ljava/lang/String;)V" } : MethodName)) ∈ TB := List.mem_filter.mpr ⟨tm_4 _ (List.mem_of_getElem? (i := 85) rfl), rfl⟩
theorem tw_858 : (Cond.instanceMethod ({ cls := "java/lang/Throwable", name := "<init>", desc := "(Ljava/lang/String;)V" } : MethodName)) ∈ TB := List.mem_filter.mpr ⟨tm_4 _ (List.mem_of_getElem? (i := 86) rfl), rfl⟩
theorem tw_859 : (Cond.code ({ cls := "java/lang/Throwable", name := "<init>", desc := "(Ljava/lang/String;)V" } : MethodName) prog_22_method_2_code (2 : Nat) (none : Option Jvm.ClassFile.FieldType)) ∈ TB := List.mem_filter.mpr ⟨tm_4 _ (List.mem_of_getElem? (i := 87) rfl), rfl⟩
theorem tw_860 : (Cond.fieldLink "java/lang/Throwable" (198 : Nat) "java/lang/Throwable" "backtrace" "Ljava/lang/Object;") ∈ TB := List.mem_filter.mpr ⟨tm_4 _ (List.mem_of_getElem? (i := 88) rfl), rfl⟩
theorem tw_861 : (Cond.fieldLink "java/lang/Throwable" (31 : Nat) "java/lang/Throwable" "detailMessage" "Ljava/lang/String;") ∈ TB := List.mem_filter.mpr ⟨tm_4 _ (List.mem_of_getElem? (i := 89) rfl), rfl⟩
theorem tw_862 : (Cond.fieldLink "java/lang/Throwable" (7 : Nat) "java/lang/Throwable" "cause" "Ljava/lang/Throwable;") ∈ TB := List.mem_filter.mpr ⟨tm_4 _ (List.mem_of_getElem? (i := 90) rfl), rfl⟩
theorem tw_863 : (Cond.fieldLink "java/lang/Throwable" (17 : Nat) "java/lang/Throwable" "stackTrace" "[Ljava/lang/StackTraceElement;") ∈ TB := List.mem_filter.mpr ⟨tm_4 _ (List.mem_of_getElem? (i := 91) rfl), rfl⟩
theorem tw_864 : (Cond.fieldLink "java/lang/Throwable" (24 : Nat) "java/lang/Throwable" "suppressedExceptions" "Ljava/util/List;") ∈ TB := List.mem_filter.mpr ⟨tm_4 _ (List.mem_of_getElem? (i := 92) rfl), rfl⟩
theorem tw_874 : (Cond.classLink "ToolHouseLaw" (16 : Nat) "ToolHouseModel") ∈ TB := List.mem_filter.mpr ⟨tm_4 _ (List.mem_of_getElem? (i := 102) rfl), rfl⟩
theorem tw_875 : (Cond.instantiable "ToolHouseModel" (43 : Nat)) ∈ TB := List.mem_filter.mpr ⟨tm_4 _ (List.mem_of_getElem? (i := 103) rfl), rfl⟩
theorem tw_876 : (Cond.methodLink "ToolHouseLaw" (18 : Nat) ({ cls := "ToolHouseModel", name := "<init>", desc := "()V" } : MethodName)) ∈ TB := List.mem_filter.mpr ⟨tm_4 _ (List.mem_of_getElem? (i := 104) rfl), rfl⟩
theorem tw_877 : (Cond.instanceMethod ({ cls := "ToolHouseModel", name := "<init>", desc := "()V" } : MethodName)) ∈ TB := List.mem_filter.mpr ⟨tm_4 _ (List.mem_of_getElem? (i := 105) rfl), rfl⟩
theorem tw_878 : (Cond.code ({ cls := "ToolHouseModel", name := "<init>", desc := "()V" } : MethodName) prog_11_method_1_code (1 : Nat) (none : Option Jvm.ClassFile.FieldType)) ∈ TB := List.mem_filter.mpr ⟨tm_4 _ (List.mem_of_getElem? (i := 106) rfl), rfl⟩
theorem tw_879 : (Cond.methodLink "ToolHouseModel" (1 : Nat) ({ cls := "java/lang/Object", name := "<init>", desc := "()V" } : MethodName)) ∈ TB := List.mem_filter.mpr ⟨tm_4 _ (List.mem_of_getElem? (i := 107) rfl), rfl⟩
theorem tw_880 : (Cond.fieldLink "ToolHouseModel" (97 : Nat) "ToolHouseModel" "thrown" "I") ∈ TB := List.mem_filter.mpr ⟨tm_4 _ (List.mem_of_getElem? (i := 108) rfl), rfl⟩
theorem tw_881 : (Cond.fieldLink "ToolHouseModel" (104 : Nat) "ToolHouseModel" "kinds" "I") ∈ TB := List.mem_filter.mpr ⟨tm_4 _ (List.mem_of_getElem? (i := 109) rfl), rfl⟩
theorem tw_882 : (Cond.fieldLink "ToolHouseModel" (7 : Nat) "ToolHouseModel" "care" "[I") ∈ TB := List.mem_filter.mpr ⟨tm_4 _ (List.mem_of_getElem? (i := 110) rfl), rfl⟩
theorem tw_883 : (Cond.fieldLink "ToolHouseModel" (13 : Nat) "ToolHouseModel" "features" "[I") ∈ TB := List.mem_filter.mpr ⟨tm_4 _ (List.mem_of_getElem? (i := 111) rfl), rfl⟩
theorem tw_884 : (Cond.fieldLink "ToolHouseModel" (16 : Nat) "ToolHouseModel" "fee" "[I") ∈ TB := List.mem_filter.mpr ⟨tm_4 _ (List.mem_of_getElem? (i := 112) rfl), rfl⟩
theorem tw_885 : (Cond.fieldLink "ToolHouseModel" (107 : Nat) "ToolHouseModel" "things" "I") ∈ TB := List.mem_filter.mpr ⟨tm_4 _ (List.mem_of_getElem? (i := 113) rfl), rfl⟩
theorem tw_886 : (Cond.fieldLink "ToolHouseModel" (19 : Nat) "ToolHouseModel" "kindOf" "[I") ∈ TB := List.mem_filter.mpr ⟨tm_4 _ (List.mem_of_getElem? (i := 114) rfl), rfl⟩
theorem tw_887 : (Cond.fieldLink "ToolHouseModel" (22 : Nat) "ToolHouseModel" "looked" "[I") ∈ TB := List.mem_filter.mpr ⟨tm_4 _ (List.mem_of_getElem? (i := 115) rfl), rfl⟩
theorem tw_888 : (Cond.fieldLink "ToolHouseModel" (110 : Nat) "ToolHouseModel" "members" "I") ∈ TB := List.mem_filter.mpr ⟨tm_4 _ (List.mem_of_getElem? (i := 116) rfl), rfl⟩
theorem tw_889 : (Cond.fieldLink "ToolHouseModel" (25 : Nat) "ToolHouseModel" "owes" "[I") ∈ TB := List.mem_filter.mpr ⟨tm_4 _ (List.mem_of_getElem? (i := 117) rfl), rfl⟩
theorem tw_890 : (Cond.fieldLink "ToolHouseModel" (28 : Nat) "ToolHouseModel" "fees" "[I") ∈ TB := List.mem_filter.mpr ⟨tm_4 _ (List.mem_of_getElem? (i := 118) rfl), rfl⟩
theorem tw_891 : (Cond.fieldLink "ToolHouseModel" (164 : Nat) "ToolHouseModel" "now" "I") ∈ TB := List.mem_filter.mpr ⟨tm_4 _ (List.mem_of_getElem? (i := 119) rfl), rfl⟩
theorem tw_892 : (Cond.fieldLink "ToolHouseModel" (31 : Nat) "ToolHouseModel" "tape" "[B") ∈ TB := List.mem_filter.mpr ⟨tm_4 _ (List.mem_of_getElem? (i := 120) rfl), rfl⟩
theorem tw_893 : (Cond.fieldLink "ToolHouseModel" (117 : Nat) "ToolHouseModel" "taped" "I") ∈ TB := List.mem_filter.mpr ⟨tm_4 _ (List.mem_of_getElem? (i := 121) rfl), rfl⟩
theorem tw_894 : (Cond.fieldLink "ToolHouseModel" (149 : Nat) "ToolHouseModel" "laws" "I") ∈ TB := List.mem_filter.mpr ⟨tm_4 _ (List.mem_of_getElem? (i := 122) rfl), rfl⟩
theorem tw_895 : (Cond.fieldLink "ToolHouseModel" (35 : Nat) "ToolHouseModel" "wants" "[I") ∈ TB := List.mem_filter.mpr ⟨tm_4 _ (List.mem_of_getElem? (i := 123) rfl), rfl⟩
theorem tw_896 : (Cond.fieldLink "ToolHouseModel" (38 : Nat) "ToolHouseModel" "reads" "[I") ∈ TB := List.mem_filter.mpr ⟨tm_4 _ (List.mem_of_getElem? (i := 124) rfl), rfl⟩
theorem tw_897 : (Cond.fieldLink "ToolHouseModel" (136 : Nat) "ToolHouseModel" "faultKind" "I") ∈ TB := List.mem_filter.mpr ⟨tm_4 _ (List.mem_of_getElem? (i := 125) rfl), rfl⟩
theorem tw_898 : (Cond.fieldLink "ToolHouseModel" (41 : Nat) "ToolHouseModel" "faultPlace" "I") ∈ TB := List.mem_filter.mpr ⟨tm_4 _ (List.mem_of_getElem? (i := 126) rfl), rfl⟩
theorem tw_899 : (Cond.fieldLink "ToolHouseModel" (123 : Nat) "ToolHouseModel" "from" "I") ∈ TB := List.mem_filter.mpr ⟨tm_4 _ (List.mem_of_getElem? (i := 127) rfl), rfl⟩
theorem tw_900 : (Cond.fieldLink "ToolHouseModel" (120 : Nat) "ToolHouseModel" "over" "I") ∈ TB := List.mem_filter.mpr ⟨tm_4 _ (List.mem_of_getElem? (i := 128) rfl), rfl⟩
theorem tw_901 : (Cond.fieldLink "ToolHouseModel" (133 : Nat) "ToolHouseModel" "value" "I") ∈ TB := List.mem_filter.mpr ⟨tm_4 _ (List.mem_of_getElem? (i := 129) rfl), rfl⟩
theorem tw_902 : (Cond.fieldLink "ToolHouseModel" (130 : Nat) "ToolHouseModel" "sort" "I") ∈ TB := List.mem_filter.mpr ⟨tm_4 _ (List.mem_of_getElem? (i := 130) rfl), rfl⟩
theorem tw_903 : (Cond.fieldLink "ToolHouseModel" (171 : Nat) "ToolHouseModel" "asks" "I") ∈ TB := List.mem_filter.mpr ⟨tm_4 _ (List.mem_of_getElem? (i := 131) rfl), rfl⟩
theorem tw_904 : (Cond.fieldLink "ToolHouseModel" (45 : Nat) "ToolHouseModel" "state" "[I") ∈ TB := List.mem_filter.mpr ⟨tm_4 _ (List.mem_of_getElem? (i := 132) rfl), rfl⟩
theorem tw_905 : (Cond.fieldLink "ToolHouseModel" (48 : Nat) "ToolHouseModel" "on" "[I") ∈ TB := List.mem_filter.mpr ⟨tm_4 _ (List.mem_of_getElem? (i := 133) rfl), rfl⟩
theorem tw_906 : (Cond.fieldLink "ToolHouseModel" (51 : Nat) "ToolHouseModel" "moved" "[I") ∈ TB := List.mem_filter.mpr ⟨tm_4 _ (List.mem_of_getElem? (i := 134) rfl), rfl⟩
theorem tw_907 : (Cond.fieldLink "ToolHouseModel" (54 : Nat) "ToolHouseModel" "who" "[I") ∈ TB := List.mem_filter.mpr ⟨tm_4 _ (List.mem_of_getElem? (i := 135) rfl), rfl⟩
theorem tw_908 : (Cond.fieldLink "ToolHouseModel" (57 : Nat) "ToolHouseModel" "what" "[I") ∈ TB := List.mem_filter.mpr ⟨tm_4 _ (List.mem_of_getElem? (i := 136) rfl), rfl⟩
theorem tw_909 : (Cond.fieldLink "ToolHouseModel" (60 : Nat) "ToolHouseModel" "needs" "[I") ∈ TB := List.mem_filter.mpr ⟨tm_4 _ (List.mem_of_getElem? (i := 137) rfl), rfl⟩
theorem tw_910 : (Cond.fieldLink "ToolHouseModel" (63 : Nat) "ToolHouseModel" "first" "[I") ∈ TB := List.mem_filter.mpr ⟨tm_4 _ (List.mem_of_getElem? (i := 138) rfl), rfl⟩
theorem tw_911 : (Cond.fieldLink "ToolHouseModel" (66 : Nat) "ToolHouseModel" "last" "[I") ∈ TB := List.mem_filter.mpr ⟨tm_4 _ (List.mem_of_getElem? (i := 139) rfl), rfl⟩
theorem tw_912 : (Cond.fieldLink "ToolHouseModel" (69 : Nat) "ToolHouseModel" "rank" "[I") ∈ TB := List.mem_filter.mpr ⟨tm_4 _ (List.mem_of_getElem? (i := 140) rfl), rfl⟩
theorem tw_913 : (Cond.fieldLink "ToolHouseModel" (72 : Nat) "ToolHouseModel" "cameBack" "[I") ∈ TB := List.mem_filter.mpr ⟨tm_4 _ (List.mem_of_getElem? (i := 141) rfl), rfl⟩
theorem tw_914 : (Cond.fieldLink "ToolHouseModel" (75 : Nat) "ToolHouseModel" "row" "[I") ∈ TB := List.mem_filter.mpr ⟨tm_4 _ (List.mem_of_getElem? (i := 142) rfl), rfl⟩
theorem tw_915 : (Cond.fieldLink "ToolHouseModel" (187 : Nat) "ToolHouseModel" "many" "I") ∈ TB := List.mem_filter.mpr ⟨tm_4 _ (List.mem_of_getElem? (i := 143) rfl), rfl⟩
theorem tw_916 : (Cond.fieldLink "ToolHouseModel" (78 : Nat) "ToolHouseModel" "tried" "[I") ∈ TB := List.mem_filter.mpr ⟨tm_4 _ (List.mem_of_getElem? (i := 144) rfl), rfl⟩
theorem tw_917 : (Cond.fieldLink "ToolHouseModel" (81 : Nat) "ToolHouseModel" "best" "[I") ∈ TB := List.mem_filter.mpr ⟨tm_4 _ (List.mem_of_getElem? (i := 145) rfl), rfl⟩
theorem tw_918 : (Cond.fieldLink "ToolHouseModel" (194 : Nat) "ToolHouseModel" "bestWorth" "I") ∈ TB := List.mem_filter.mpr ⟨tm_4 _ (List.mem_of_getElem? (i := 146) rfl), rfl⟩
theorem tw_919 : (Cond.fieldLink "ToolHouseModel" (84 : Nat) "ToolHouseModel" "can" "[Z") ∈ TB := List.mem_filter.mpr ⟨tm_4 _ (List.mem_of_getElem? (i := 147) rfl), rfl⟩
theorem tw_920 : (Cond.fieldLink "ToolHouseModel" (88 : Nat) "ToolHouseModel" "isDone" "[Z") ∈ TB := List.mem_filter.mpr ⟨tm_4 _ (List.mem_of_getElem? (i := 148) rfl), rfl⟩
theorem tw_921 : (Cond.fieldLink "ToolHouseModel" (91 : Nat) "ToolHouseModel" "order" "[I") ∈ TB := List.mem_filter.mpr ⟨tm_4 _ (List.mem_of_getElem? (i := 149) rfl), rfl⟩
theorem tw_922 : (Cond.fieldLink "ToolHouseModel" (94 : Nat) "ToolHouseModel" "mostTo" "[I") ∈ TB := List.mem_filter.mpr ⟨tm_4 _ (List.mem_of_getElem? (i := 150) rfl), rfl⟩
theorem tw_1010 : (Cond.arrayClass .boolean) ∈ TB := List.mem_filter.mpr ⟨tm_4 _ (List.mem_of_getElem? (i := 238) rfl), rfl⟩
theorem tw_1011 : (Cond.methodLink "ToolHouseLaw" (99 : Nat) ({ cls := "ToolHouseModel", name := "thrown", desc := "()I" } : MethodName)) ∈ TB := List.mem_filter.mpr ⟨tm_4 _ (List.mem_of_getElem? (i := 239) rfl), rfl⟩
theorem tw_1012 : (Cond.instanceMethod ({ cls := "ToolHouseModel", name := "thrown", desc := "()I" } : MethodName)) ∈ TB := List.mem_filter.mpr ⟨tm_5 _ (List.mem_of_getElem? (i := 0) rfl), rfl⟩
theorem tw_1013 : (Cond.selects "ToolHouseModel" ({ cls := "ToolHouseModel", name := "thrown", desc := "()I" } : MethodName) ({ cls := "ToolHouseModel", name := "thrown", desc := "()I" } : MethodName)) ∈ TB := List.mem_filter.mpr ⟨tm_5 _ (List.mem_of_getElem? (i := 1) rfl), rfl⟩
theorem tw_1014 : (Cond.code ({ cls := "ToolHouseModel", name := "thrown", desc := "()I" } : MethodName) prog_11_method_2_code (1 : Nat) (some .int)) ∈ TB := List.mem_filter.mpr ⟨tm_5 _ (List.mem_of_getElem? (i := 2) rfl), rfl⟩
theorem tw_1015 : (Cond.methodLink "ToolHouseLaw" (23 : Nat) ({ cls := "ToolHouseModel", name := "kind", desc := "(III)I" } : MethodName)) ∈ TB := List.mem_filter.mpr ⟨tm_5 _ (List.mem_of_getElem? (i := 3) rfl), rfl⟩
theorem tw_1016 : (Cond.instanceMethod ({ cls := "ToolHouseModel", name := "kind", desc := "(III)I" } : MethodName)) ∈ TB := List.mem_filter.mpr ⟨tm_5 _ (List.mem_of_getElem? (i := 4) rfl), rfl⟩
theorem tw_1017 : (Cond.selects "ToolHouseModel" ({ cls := "ToolHouseModel", name := "kind", desc := "(III)I" } : MethodName) ({ cls := "ToolHouseModel", name := "kind", desc := "(III)I" } : MethodName)) ∈ TB := List.mem_filter.mpr ⟨tm_5 _ (List.mem_of_getElem? (i := 5) rfl), rfl⟩
theorem tw_1018 : (Cond.code ({ cls := "ToolHouseModel", name := "kind", desc := "(III)I" } : MethodName) prog_11_method_4_code (4 : Nat) (some .int)) ∈ TB := List.mem_filter.mpr ⟨tm_5 _ (List.mem_of_getElem? (i := 6) rfl), rfl⟩
theorem tw_1019 : (Cond.methodLink "ToolHouseModel" (100 : Nat) ({ cls := "ToolHouseModel", name := "within", desc := "(III)Z" } : MethodName)) ∈ TB := List.mem_filter.mpr ⟨tm_5 _ (List.mem_of_getElem? (i := 7) rfl), rfl⟩
theorem tw_1020 : (Cond.static ({ cls := "ToolHouseModel", name := "within", desc := "(III)Z" } : MethodName)) ∈ TB := List.mem_filter.mpr ⟨tm_5 _ (List.mem_of_getElem? (i := 8) rfl), rfl⟩
theorem tw_1021 : (Cond.code ({ cls := "ToolHouseModel", name := "within", desc := "(III)Z" } : MethodName) prog_11_method_3_code (3 : Nat) (some .boolean)) ∈ TB := List.mem_filter.mpr ⟨tm_5 _ (List.mem_of_getElem? (i := 9) rfl), rfl⟩
theorem tw_1022 : (Cond.methodLink "ToolHouseLaw" (28 : Nat) ({ cls := "ToolHouseModel", name := "thing", desc := "(I)I" } : MethodName)) ∈ TB := List.mem_filter.mpr ⟨tm_5 _ (List.mem_of_getElem? (i := 10) rfl), rfl⟩
theorem tw_1023 : (Cond.instanceMethod ({ cls := "ToolHouseModel", name := "thing", desc := "(I)I" } : MethodName)) ∈ TB := List.mem_filter.mpr ⟨tm_5 _ (List.mem_of_getElem? (i := 11) rfl), rfl⟩
theorem tw_1024 : (Cond.selects "ToolHouseModel" ({ cls := "ToolHouseModel", name := "thing", desc := "(I)I" } : MethodName) ({ cls := "ToolHouseModel", name := "thing", desc := "(I)I" } : MethodName)) ∈ TB := List.mem_filter.mpr ⟨tm_5 _ (List.mem_of_getElem? (i := 12) rfl), rfl⟩
theorem tw_1025 : (Cond.code ({ cls := "ToolHouseModel", name := "thing", desc := "(I)I" } : MethodName) prog_11_method_8_code (2 : Nat) (some .int)) ∈ TB := List.mem_filter.mpr ⟨tm_5 _ (List.mem_of_getElem? (i := 13) rfl), rfl⟩
theorem tw_1026 : (Cond.methodLink "ToolHouseModel" (113 : Nat) ({ cls := "ToolHouseModel", name := "isKind", desc := "(I)Z" } : MethodName)) ∈ TB := List.mem_filter.mpr ⟨tm_5 _ (List.mem_of_getElem? (i := 14) rfl), rfl⟩
theorem tw_1028 : (Cond.instanceMethod ({ cls := "ToolHouseModel", name := "isKind", desc := "(I)Z" } : MethodName)) ∈ TB := List.mem_filter.mpr ⟨tm_5 _ (List.mem_of_getElem? (i := 16) rfl), rfl⟩
theorem tw_1029 : (Cond.code ({ cls := "ToolHouseModel", name := "isKind", desc := "(I)Z" } : MethodName) prog_11_method_5_code (2 : Nat) (some .boolean)) ∈ TB := List.mem_filter.mpr ⟨tm_5 _ (List.mem_of_getElem? (i := 17) rfl), rfl⟩
theorem tw_1030 : (Cond.methodLink "ToolHouseLaw" (33 : Nat) ({ cls := "ToolHouseModel", name := "member", desc := "()I" } : MethodName)) ∈ TB := List.mem_filter.mpr ⟨tm_5 _ (List.mem_of_getElem? (i := 18) rfl), rfl⟩
theorem tw_1031 : (Cond.instanceMethod ({ cls := "ToolHouseModel", name := "member", desc := "()I" } : MethodName)) ∈ TB := List.mem_filter.mpr ⟨tm_5 _ (List.mem_of_getElem? (i := 19) rfl), rfl⟩
theorem tw_1032 : (Cond.selects "ToolHouseModel" ({ cls := "ToolHouseModel", name := "member", desc := "()I" } : MethodName) ({ cls := "ToolHouseModel", name := "member", desc := "()I" } : MethodName)) ∈ TB := List.mem_filter.mpr ⟨tm_5 _ (List.mem_of_getElem? (i := 20) rfl), rfl⟩
theorem tw_1033 : (Cond.code ({ cls := "ToolHouseModel", name := "member", desc := "()I" } : MethodName) prog_11_method_9_code (1 : Nat) (some .int)) ∈ TB := List.mem_filter.mpr ⟨tm_5 _ (List.mem_of_getElem? (i := 21) rfl), rfl⟩
theorem tw_1034 : (Cond.methodLink "ToolHouseLaw" (38 : Nat) ({ cls := "ToolHouseModel", name := "feed", desc := "(IIIII)I" } : MethodName)) ∈ TB := List.mem_filter.mpr ⟨tm_5 _ (List.mem_of_getElem? (i := 22) rfl), rfl⟩
theorem tw_1035 : (Cond.instanceMethod ({ cls := "ToolHouseModel", name := "feed", desc := "(IIIII)I" } : MethodName)) ∈ TB := List.mem_filter.mpr ⟨tm_5 _ (List.mem_of_getElem? (i := 23) rfl), rfl⟩
theorem tw_1036 : (Cond.selects "ToolHouseModel" ({ cls := "ToolHouseModel", name := "feed", desc := "(IIIII)I" } : MethodName) ({ cls := "ToolHouseModel", name := "feed", desc := "(IIIII)I" } : MethodName)) ∈ TB := List.mem_filter.mpr ⟨tm_5 _ (List.mem_of_getElem? (i := 24) rfl), rfl⟩
theorem tw_1037 : (Cond.code ({ cls := "ToolHouseModel", name := "feed", desc := "(IIIII)I" } : MethodName) prog_11_method_10_code (8 : Nat) (some .int)) ∈ TB := List.mem_filter.mpr ⟨tm_5 _ (List.mem_of_getElem? (i := 25) rfl), rfl⟩
theorem tw_1038 : (Cond.methodLink "ToolHouseLaw" (42 : Nat) ({ cls := "ToolHouseModel", name := "end", desc := "(I)I" } : MethodName)) ∈ TB := List.mem_filter.mpr ⟨tm_5 _ (List.mem_of_getElem? (i := 26) rfl), rfl⟩
theorem tw_1039 : (Cond.instanceMethod ({ cls := "ToolHouseModel", name := "end", desc := "(I)I" } : MethodName)) ∈ TB := List.mem_filter.mpr ⟨tm_5 _ (List.mem_of_getElem? (i := 27) rfl), rfl⟩
theorem tw_1040 : (Cond.selects "ToolHouseModel" ({ cls := "ToolHouseModel", name := "end", desc := "(I)I" } : MethodName) ({ cls := "ToolHouseModel", name := "end", desc := "(I)I" } : MethodName)) ∈ TB := List.mem_filter.mpr ⟨tm_5 _ (List.mem_of_getElem? (i := 28) rfl), rfl⟩
theorem tw_1041 : (Cond.code ({ cls := "ToolHouseModel", name := "end", desc := "(I)I" } : MethodName) prog_11_method_11_code (2 : Nat) (some .int)) ∈ TB := List.mem_filter.mpr ⟨tm_5 _ (List.mem_of_getElem? (i := 29) rfl), rfl⟩
theorem tw_1042 : (Cond.methodLink "ToolHouseLaw" (46 : Nat) ({ cls := "ToolHouseModel", name := "law", desc := "()I" } : MethodName)) ∈ TB := List.mem_filter.mpr ⟨tm_5 _ (List.mem_of_getElem? (i := 30) rfl), rfl⟩
theorem tw_1043 : (Cond.instanceMethod ({ cls := "ToolHouseModel", name := "law", desc := "()I" } : MethodName)) ∈ TB := List.mem_filter.mpr ⟨tm_5 _ (List.mem_of_getElem? (i := 31) rfl), rfl⟩
theorem tw_1044 : (Cond.selects "ToolHouseModel" ({ cls := "ToolHouseModel", name := "law", desc := "()I" } : MethodName) ({ cls := "ToolHouseModel", name := "law", desc := "()I" } : MethodName)) ∈ TB := List.mem_filter.mpr ⟨tm_5 _ (List.mem_of_getElem? (i := 32) rfl), rfl⟩
theorem tw_1045 : (Cond.code ({ cls := "ToolHouseModel", name := "law", desc := "()I" } : MethodName) prog_11_method_17_code (3 : Nat) (some .int)) ∈ TB := List.mem_filter.mpr ⟨tm_5 _ (List.mem_of_getElem? (i := 33) rfl), rfl⟩
theorem tw_1046 : (Cond.methodLink "ToolHouseModel" (146 : Nat) ({ cls := "ToolHouseModel", name := "token", desc := "()V" } : MethodName)) ∈ TB := List.mem_filter.mpr ⟨tm_5 _ (List.mem_of_getElem? (i := 34) rfl), rfl⟩
theorem tw_1048 : (Cond.instanceMethod ({ cls := "ToolHouseModel", name := "token", desc := "()V" } : MethodName)) ∈ TB := List.mem_filter.mpr ⟨tm_5 _ (List.mem_of_getElem? (i := 36) rfl), rfl⟩
theorem tw_1049 : (Cond.code ({ cls := "ToolHouseModel", name := "token", desc := "()V" } : MethodName) prog_11_method_13_code (2 : Nat) (none : Option Jvm.ClassFile.FieldType)) ∈ TB := List.mem_filter.mpr ⟨tm_5 _ (List.mem_of_getElem? (i := 37) rfl), rfl⟩
theorem tw_1050 : (Cond.methodLink "ToolHouseModel" (126 : Nat) ({ cls := "ToolHouseModel", name := "byteAt", desc := "(I)I" } : MethodName)) ∈ TB := List.mem_filter.mpr ⟨tm_5 _ (List.mem_of_getElem? (i := 38) rfl), rfl⟩
theorem tw_1052 : (Cond.instanceMethod ({ cls := "ToolHouseModel", name := "byteAt", desc := "(I)I" } : MethodName)) ∈ TB := List.mem_filter.mpr ⟨tm_5 _ (List.mem_of_getElem? (i := 40) rfl), rfl⟩
theorem tw_1053 : (Cond.code ({ cls := "ToolHouseModel", name := "byteAt", desc := "(I)I" } : MethodName) prog_11_method_12_code (2 : Nat) (some .int)) ∈ TB := List.mem_filter.mpr ⟨tm_5 _ (List.mem_of_getElem? (i := 41) rfl), rfl⟩
theorem tw_1054 : (Cond.methodLink "ToolHouseModel" (152 : Nat) ({ cls := "ToolHouseModel", name := "statement", desc := "()Z" } : MethodName)) ∈ TB := List.mem_filter.mpr ⟨tm_5 _ (List.mem_of_getElem? (i := 42) rfl), rfl⟩
theorem tw_1056 : (Cond.instanceMethod ({ cls := "ToolHouseModel", name := "statement", desc := "()Z" } : MethodName)) ∈ TB := List.mem_filter.mpr ⟨tm_5 _ (List.mem_of_getElem? (i := 44) rfl), rfl⟩
theorem tw_1057 : (Cond.code ({ cls := "ToolHouseModel", name := "statement", desc := "()Z" } : MethodName) prog_11_method_16_code (3 : Nat) (some .boolean)) ∈ TB := List.mem_filter.mpr ⟨tm_5 _ (List.mem_of_getElem? (i := 45) rfl), rfl⟩
theorem tw_1058 : (Cond.methodLink "ToolHouseModel" (139 : Nat) ({ cls := "ToolHouseModel", name := "isEvery", desc := "()Z" } : MethodName)) ∈ TB := List.mem_filter.mpr ⟨tm_5 _ (List.mem_of_getElem? (i := 46) rfl), rfl⟩
theorem tw_1060 : (Cond.instanceMethod ({ cls := "ToolHouseModel", name := "isEvery", desc := "()Z" } : MethodName)) ∈ TB := List.mem_filter.mpr ⟨tm_5 _ (List.mem_of_getElem? (i := 48) rfl), rfl⟩
theorem tw_1061 : (Cond.code ({ cls := "ToolHouseModel", name := "isEvery", desc := "()Z" } : MethodName) prog_11_method_15_code (1 : Nat) (some .boolean)) ∈ TB := List.mem_filter.mpr ⟨tm_5 _ (List.mem_of_getElem? (i := 49) rfl), rfl⟩
theorem tw_1062 : (Cond.methodLink "ToolHouseModel" (143 : Nat) ({ cls := "ToolHouseModel", name := "wrong", desc := "(I)Z" } : MethodName)) ∈ TB := List.mem_filter.mpr ⟨tm_5 _ (List.mem_of_getElem? (i := 50) rfl), rfl⟩
theorem tw_1064 : (Cond.instanceMethod ({ cls := "ToolHouseModel", name := "wrong", desc := "(I)Z" } : MethodName)) ∈ TB := List.mem_filter.mpr ⟨tm_5 _ (List.mem_of_getElem? (i := 52) rfl), rfl⟩
theorem tw_1065 : (Cond.code ({ cls := "ToolHouseModel", name := "wrong", desc := "(I)Z" } : MethodName) prog_11_method_14_code (2 : Nat) (some .boolean)) ∈ TB := List.mem_filter.mpr ⟨tm_5 _ (List.mem_of_getElem? (i := 53) rfl), rfl⟩
theorem tw_1066 : (Cond.methodLink "ToolHouseLaw" (50 : Nat) ({ cls := "ToolHouseModel", name := "place", desc := "()I" } : MethodName)) ∈ TB := List.mem_filter.mpr ⟨tm_5 _ (List.mem_of_getElem? (i := 54) rfl), rfl⟩
theorem tw_1067 : (Cond.instanceMethod ({ cls := "ToolHouseModel", name := "place", desc := "()I" } : MethodName)) ∈ TB := List.mem_filter.mpr ⟨tm_5 _ (List.mem_of_getElem? (i := 55) rfl), rfl⟩
theorem tw_1068 : (Cond.selects "ToolHouseModel" ({ cls := "ToolHouseModel", name := "place", desc := "()I" } : MethodName) ({ cls := "ToolHouseModel", name := "place", desc := "()I" } : MethodName)) ∈ TB := List.mem_filter.mpr ⟨tm_5 _ (List.mem_of_getElem? (i := 56) rfl), rfl⟩
theorem tw_1069 : (Cond.code ({ cls := "ToolHouseModel", name := "place", desc := "()I" } : MethodName) prog_11_method_18_code (1 : Nat) (some .int)) ∈ TB := List.mem_filter.mpr ⟨tm_5 _ (List.mem_of_getElem? (i := 57) rfl), rfl⟩
theorem tw_1070 : (Cond.methodLink "ToolHouseLaw" (55 : Nat) ({ cls := "ToolHouseModel", name := "look", desc := "(I)Z" } : MethodName)) ∈ TB := List.mem_filter.mpr ⟨tm_5 _ (List.mem_of_getElem? (i := 58) rfl), rfl⟩
theorem tw_1071 : (Cond.instanceMethod ({ cls := "ToolHouseModel", name := "look", desc := "(I)Z" } : MethodName)) ∈ TB := List.mem_filter.mpr ⟨tm_5 _ (List.mem_of_getElem? (i := 59) rfl), rfl⟩
theorem tw_1072 : (Cond.selects "ToolHouseModel" ({ cls := "ToolHouseModel", name := "look", desc := "(I)Z" } : MethodName) ({ cls := "ToolHouseModel", name := "look", desc := "(I)Z" } : MethodName)) ∈ TB := List.mem_filter.mpr ⟨tm_5 _ (List.mem_of_getElem? (i := 60) rfl), rfl⟩
theorem tw_1073 : (Cond.code ({ cls := "ToolHouseModel", name := "look", desc := "(I)Z" } : MethodName) prog_11_method_21_code (2 : Nat) (some .boolean)) ∈ TB := List.mem_filter.mpr ⟨tm_5 _ (List.mem_of_getElem? (i := 61) rfl), rfl⟩
theorem tw_1074 : (Cond.methodLink "ToolHouseModel" (158 : Nat) ({ cls := "ToolHouseModel", name := "isThing", desc := "(I)Z" } : MethodName)) ∈ TB := List.mem_filter.mpr ⟨tm_5 _ (List.mem_of_getElem? (i := 62) rfl), rfl⟩
theorem tw_1076 : (Cond.instanceMethod ({ cls := "ToolHouseModel", name := "isThing", desc := "(I)Z" } : MethodName)) ∈ TB := List.mem_filter.mpr ⟨tm_5 _ (List.mem_of_getElem? (i := 64) rfl), rfl⟩
theorem tw_1077 : (Cond.code ({ cls := "ToolHouseModel", name := "isThing", desc := "(I)Z" } : MethodName) prog_11_method_6_code (2 : Nat) (some .boolean)) ∈ TB := List.mem_filter.mpr ⟨tm_5 _ (List.mem_of_getElem? (i := 65) rfl), rfl⟩
theorem tw_1078 : (Cond.methodLink "ToolHouseModel" (161 : Nat) ({ cls := "ToolHouseModel", name := "outWith", desc := "(I)I" } : MethodName)) ∈ TB := List.mem_filter.mpr ⟨tm_5 _ (List.mem_of_getElem? (i := 66) rfl), rfl⟩
theorem tw_1080 : (Cond.instanceMethod ({ cls := "ToolHouseModel", name := "outWith", desc := "(I)I" } : MethodName)) ∈ TB := List.mem_filter.mpr ⟨tm_5 _ (List.mem_of_getElem? (i := 68) rfl), rfl⟩
theorem tw_1081 : (Cond.code ({ cls := "ToolHouseModel", name := "outWith", desc := "(I)I" } : MethodName) prog_11_method_26_code (3 : Nat) (some .int)) ∈ TB := List.mem_filter.mpr ⟨tm_5 _ (List.mem_of_getElem? (i := 69) rfl), rfl⟩
theorem tw_1082 : (Cond.methodLink "ToolHouseLaw" (59 : Nat) ({ cls := "ToolHouseModel", name := "lawful", desc := "(II)I" } : MethodName)) ∈ TB := List.mem_filter.mpr ⟨tm_5 _ (List.mem_of_getElem? (i := 70) rfl), rfl⟩
theorem tw_1083 : (Cond.instanceMethod ({ cls := "ToolHouseModel", name := "lawful", desc := "(II)I" } : MethodName)) ∈ TB := List.mem_filter.mpr ⟨tm_5 _ (List.mem_of_getElem? (i := 71) rfl), rfl⟩
theorem tw_1084 : (Cond.selects "ToolHouseModel" ({ cls := "ToolHouseModel", name := "lawful", desc := "(II)I" } : MethodName) ({ cls := "ToolHouseModel", name := "lawful", desc := "(II)I" } : MethodName)) ∈ TB := List.mem_filter.mpr ⟨tm_5 _ (List.mem_of_getElem? (i := 72) rfl), rfl⟩
theorem tw_1085 : (Cond.code ({ cls := "ToolHouseModel", name := "lawful", desc := "(II)I" } : MethodName) prog_11_method_22_code (3 : Nat) (some .int)) ∈ TB := List.mem_filter.mpr ⟨tm_5 _ (List.mem_of_getElem? (i := 73) rfl), rfl⟩
theorem tw_1086 : (Cond.methodLink "ToolHouseModel" (167 : Nat) ({ cls := "ToolHouseModel", name := "isLawful", desc := "(II)Z" } : MethodName)) ∈ TB := List.mem_filter.mpr ⟨tm_5 _ (List.mem_of_getElem? (i := 74) rfl), rfl⟩
theorem tw_1088 : (Cond.instanceMethod ({ cls := "ToolHouseModel", name := "isLawful", desc := "(II)Z" } : MethodName)) ∈ TB := List.mem_filter.mpr ⟨tm_5 _ (List.mem_of_getElem? (i := 76) rfl), rfl⟩
theorem tw_1089 : (Cond.code ({ cls := "ToolHouseModel", name := "isLawful", desc := "(II)Z" } : MethodName) prog_11_method_20_code (4 : Nat) (some .boolean)) ∈ TB := List.mem_filter.mpr ⟨tm_5 _ (List.mem_of_getElem? (i := 77) rfl), rfl⟩
theorem tw_1090 : (Cond.methodLink "ToolHouseModel" (155 : Nat) ({ cls := "ToolHouseModel", name := "wanted", desc := "(I)I" } : MethodName)) ∈ TB := List.mem_filter.mpr ⟨tm_5 _ (List.mem_of_getElem? (i := 78) rfl), rfl⟩
theorem tw_1092 : (Cond.instanceMethod ({ cls := "ToolHouseModel", name := "wanted", desc := "(I)I" } : MethodName)) ∈ TB := List.mem_filter.mpr ⟨tm_5 _ (List.mem_of_getElem? (i := 80) rfl), rfl⟩
theorem tw_1093 : (Cond.code ({ cls := "ToolHouseModel", name := "wanted", desc := "(I)I" } : MethodName) prog_11_method_19_code (2 : Nat) (some .int)) ∈ TB := List.mem_filter.mpr ⟨tm_5 _ (List.mem_of_getElem? (i := 81) rfl), rfl⟩
theorem tw_1094 : (Cond.methodLink "ToolHouseLaw" (64 : Nat) ({ cls := "ToolHouseModel", name := "ask", desc := "(IIIIII)I" } : MethodName)) ∈ TB := List.mem_filter.mpr ⟨tm_5 _ (List.mem_of_getElem? (i := 82) rfl), rfl⟩
theorem tw_1095 : (Cond.instanceMethod ({ cls := "ToolHouseModel", name := "ask", desc := "(IIIIII)I" } : MethodName)) ∈ TB := List.mem_filter.mpr ⟨tm_5 _ (List.mem_of_getElem? (i := 83) rfl), rfl⟩
theorem tw_1096 : (Cond.selects "ToolHouseModel" ({ cls := "ToolHouseModel", name := "ask", desc := "(IIIIII)I" } : MethodName) ({ cls := "ToolHouseModel", name := "ask", desc := "(IIIIII)I" } : MethodName)) ∈ TB := List.mem_filter.mpr ⟨tm_5 _ (List.mem_of_getElem? (i := 84) rfl), rfl⟩
theorem tw_1097 : (Cond.code ({ cls := "ToolHouseModel", name := "ask", desc := "(IIIIII)I" } : MethodName) prog_11_method_24_code (7 : Nat) (some .int)) ∈ TB := List.mem_filter.mpr ⟨tm_5 _ (List.mem_of_getElem? (i := 85) rfl), rfl⟩
theorem tw_1098 : (Cond.methodLink "ToolHouseModel" (174 : Nat) ({ cls := "ToolHouseModel", name := "isMember", desc := "(I)Z" } : MethodName)) ∈ TB := List.mem_filter.mpr ⟨tm_5 _ (List.mem_of_getElem? (i := 86) rfl), rfl⟩
theorem tw_1100 : (Cond.instanceMethod ({ cls := "ToolHouseModel", name := "isMember", desc := "(I)Z" } : MethodName)) ∈ TB := List.mem_filter.mpr ⟨tm_5 _ (List.mem_of_getElem? (i := 88) rfl), rfl⟩
theorem tw_1101 : (Cond.code ({ cls := "ToolHouseModel", name := "isMember", desc := "(I)Z" } : MethodName) prog_11_method_7_code (2 : Nat) (some .boolean)) ∈ TB := List.mem_filter.mpr ⟨tm_5 _ (List.mem_of_getElem? (i := 89) rfl), rfl⟩
theorem tw_1102 : (Cond.methodLink "ToolHouseModel" (177 : Nat) ({ cls := "ToolHouseModel", name := "counted", desc := "(I)I" } : MethodName)) ∈ TB := List.mem_filter.mpr ⟨tm_5 _ (List.mem_of_getElem? (i := 90) rfl), rfl⟩
theorem tw_1104 : (Cond.instanceMethod ({ cls := "ToolHouseModel", name := "counted", desc := "(I)I" } : MethodName)) ∈ TB := List.mem_filter.mpr ⟨tm_5 _ (List.mem_of_getElem? (i := 92) rfl), rfl⟩
theorem tw_1105 : (Cond.code ({ cls := "ToolHouseModel", name := "counted", desc := "(I)I" } : MethodName) prog_11_method_23_code (4 : Nat) (some .int)) ∈ TB := List.mem_filter.mpr ⟨tm_5 _ (List.mem_of_getElem? (i := 93) rfl), rfl⟩
theorem tw_1106 : (Cond.methodLink "ToolHouseLaw" (68 : Nat) ({ cls := "ToolHouseModel", name := "plan", desc := "()I" } : MethodName)) ∈ TB := List.mem_filter.mpr ⟨tm_5 _ (List.mem_of_getElem? (i := 94) rfl), rfl⟩
theorem tw_1107 : (Cond.instanceMethod ({ cls := "ToolHouseModel", name := "plan", desc := "()I" } : MethodName)) ∈ TB := List.mem_filter.mpr ⟨tm_5 _ (List.mem_of_getElem? (i := 95) rfl), rfl⟩
theorem tw_1108 : (Cond.selects "ToolHouseModel" ({ cls := "ToolHouseModel", name := "plan", desc := "()I" } : MethodName) ({ cls := "ToolHouseModel", name := "plan", desc := "()I" } : MethodName)) ∈ TB := List.mem_filter.mpr ⟨tm_5 _ (List.mem_of_getElem? (i := 96) rfl), rfl⟩
theorem tw_1109 : (Cond.code ({ cls := "ToolHouseModel", name := "plan", desc := "()I" } : MethodName) prog_11_method_33_code (4 : Nat) (some .int)) ∈ TB := List.mem_filter.mpr ⟨tm_5 _ (List.mem_of_getElem? (i := 97) rfl), rfl⟩
theorem tw_1110 : (Cond.methodLink "ToolHouseModel" (204 : Nat) ({ cls := "ToolHouseModel", name := "fits", desc := "(II)Z" } : MethodName)) ∈ TB := List.mem_filter.mpr ⟨tm_5 _ (List.mem_of_getElem? (i := 98) rfl), rfl⟩
theorem tw_1112 : (Cond.instanceMethod ({ cls := "ToolHouseModel", name := "fits", desc := "(II)Z" } : MethodName)) ∈ TB := List.mem_filter.mpr ⟨tm_5 _ (List.mem_of_getElem? (i := 100) rfl), rfl⟩
theorem tw_1113 : (Cond.code ({ cls := "ToolHouseModel", name := "fits", desc := "(II)Z" } : MethodName) prog_11_method_25_code (3 : Nat) (some .boolean)) ∈ TB := List.mem_filter.mpr ⟨tm_5 _ (List.mem_of_getElem? (i := 101) rfl), rfl⟩
theorem tw_1114 : (Cond.methodLink "ToolHouseModel" (207 : Nat) ({ cls := "ToolHouseModel", name := "isFreeFor", desc := "(IIII)Z" } : MethodName)) ∈ TB := List.mem_filter.mpr ⟨tm_5 _ (List.mem_of_getElem? (i := 102) rfl), rfl⟩
theorem tw_1116 : (Cond.instanceMethod ({ cls := "ToolHouseModel", name := "isFreeFor", desc := "(IIII)Z" } : MethodName)) ∈ TB := List.mem_filter.mpr ⟨tm_5 _ (List.mem_of_getElem? (i := 104) rfl), rfl⟩
theorem tw_1117 : (Cond.code ({ cls := "ToolHouseModel", name := "isFreeFor", desc := "(IIII)Z" } : MethodName) prog_11_method_29_code (6 : Nat) (some .boolean)) ∈ TB := List.mem_filter.mpr ⟨tm_5 _ (List.mem_of_getElem? (i := 105) rfl), rfl⟩
theorem tw_1118 : (Cond.methodLink "ToolHouseModel" (180 : Nat) ({ cls := "ToolHouseModel", name := "endOf", desc := "(I)I" } : MethodName)) ∈ TB := List.mem_filter.mpr ⟨tm_5 _ (List.mem_of_getElem? (i := 106) rfl), rfl⟩
theorem tw_1120 : (Cond.instanceMethod ({ cls := "ToolHouseModel", name := "endOf", desc := "(I)I" } : MethodName)) ∈ TB := List.mem_filter.mpr ⟨tm_5 _ (List.mem_of_getElem? (i := 108) rfl), rfl⟩
theorem tw_1121 : (Cond.code ({ cls := "ToolHouseModel", name := "endOf", desc := "(I)I" } : MethodName) prog_11_method_27_code (2 : Nat) (some .int)) ∈ TB := List.mem_filter.mpr ⟨tm_5 _ (List.mem_of_getElem? (i := 109) rfl), rfl⟩
theorem tw_1122 : (Cond.methodLink "ToolHouseModel" (183 : Nat) ({ cls := "ToolHouseModel", name := "areNear", desc := "(JJJJI)Z" } : MethodName)) ∈ TB := List.mem_filter.mpr ⟨tm_5 _ (List.mem_of_getElem? (i := 110) rfl), rfl⟩
theorem tw_1123 : (Cond.static ({ cls := "ToolHouseModel", name := "areNear", desc := "(JJJJI)Z" } : MethodName)) ∈ TB := List.mem_filter.mpr ⟨tm_5 _ (List.mem_of_getElem? (i := 111) rfl), rfl⟩
theorem tw_1124 : (Cond.code ({ cls := "ToolHouseModel", name := "areNear", desc := "(JJJJI)Z" } : MethodName) prog_11_method_28_code (9 : Nat) (some .boolean)) ∈ TB := List.mem_filter.mpr ⟨tm_5 _ (List.mem_of_getElem? (i := 112) rfl), rfl⟩
theorem tw_1125 : (Cond.methodLink "ToolHouseModel" (200 : Nat) ({ cls := "ToolHouseModel", name := "tries", desc := "(I)V" } : MethodName)) ∈ TB := List.mem_filter.mpr ⟨tm_5 _ (List.mem_of_getElem? (i := 113) rfl), rfl⟩
theorem tw_1127 : (Cond.instanceMethod ({ cls := "ToolHouseModel", name := "tries", desc := "(I)V" } : MethodName)) ∈ TB := List.mem_filter.mpr ⟨tm_5 _ (List.mem_of_getElem? (i := 115) rfl), rfl⟩
theorem tw_1128 : (Cond.code ({ cls := "ToolHouseModel", name := "tries", desc := "(I)V" } : MethodName) prog_11_method_32_code (4 : Nat) (none : Option Jvm.ClassFile.FieldType)) ∈ TB := List.mem_filter.mpr ⟨tm_5 _ (List.mem_of_getElem? (i := 116) rfl), rfl⟩
theorem tw_1129 : (Cond.methodLink "ToolHouseModel" (190 : Nat) ({ cls := "ToolHouseModel", name := "worth", desc := "()I" } : MethodName)) ∈ TB := List.mem_filter.mpr ⟨tm_5 _ (List.mem_of_getElem? (i := 117) rfl), rfl⟩
theorem tw_1131 : (Cond.instanceMethod ({ cls := "ToolHouseModel", name := "worth", desc := "()I" } : MethodName)) ∈ TB := List.mem_filter.mpr ⟨tm_5 _ (List.mem_of_getElem? (i := 119) rfl), rfl⟩
theorem tw_1132 : (Cond.code ({ cls := "ToolHouseModel", name := "worth", desc := "()I" } : MethodName) prog_11_method_30_code (3 : Nat) (some .int)) ∈ TB := List.mem_filter.mpr ⟨tm_5 _ (List.mem_of_getElem? (i := 120) rfl), rfl⟩
theorem tw_1133 : (Cond.methodLink "ToolHouseModel" (197 : Nat) ({ cls := "ToolHouseModel", name := "stands", desc := "(II)Z" } : MethodName)) ∈ TB := List.mem_filter.mpr ⟨tm_5 _ (List.mem_of_getElem? (i := 121) rfl), rfl⟩
theorem tw_1135 : (Cond.instanceMethod ({ cls := "ToolHouseModel", name := "stands", desc := "(II)Z" } : MethodName)) ∈ TB := List.mem_filter.mpr ⟨tm_5 _ (List.mem_of_getElem? (i := 123) rfl), rfl⟩
theorem tw_1136 : (Cond.code ({ cls := "ToolHouseModel", name := "stands", desc := "(II)Z" } : MethodName) prog_11_method_31_code (4 : Nat) (some .boolean)) ∈ TB := List.mem_filter.mpr ⟨tm_5 _ (List.mem_of_getElem? (i := 124) rfl), rfl⟩
theorem tw_1137 : (Cond.methodLink "ToolHouseLaw" (72 : Nat) ({ cls := "ToolHouseModel", name := "off", desc := "(I)Z" } : MethodName)) ∈ TB := List.mem_filter.mpr ⟨tm_5 _ (List.mem_of_getElem? (i := 125) rfl), rfl⟩
theorem tw_1138 : (Cond.instanceMethod ({ cls := "ToolHouseModel", name := "off", desc := "(I)Z" } : MethodName)) ∈ TB := List.mem_filter.mpr ⟨tm_5 _ (List.mem_of_getElem? (i := 126) rfl), rfl⟩
theorem tw_1139 : (Cond.selects "ToolHouseModel" ({ cls := "ToolHouseModel", name := "off", desc := "(I)Z" } : MethodName) ({ cls := "ToolHouseModel", name := "off", desc := "(I)Z" } : MethodName)) ∈ TB := List.mem_filter.mpr ⟨tm_5 _ (List.mem_of_getElem? (i := 127) rfl), rfl⟩
theorem tw_1140 : (Cond.code ({ cls := "ToolHouseModel", name := "off", desc := "(I)Z" } : MethodName) prog_11_method_34_code (2 : Nat) (some .boolean)) ∈ TB := List.mem_filter.mpr ⟨tm_5 _ (List.mem_of_getElem? (i := 128) rfl), rfl⟩
theorem tw_1141 : (Cond.methodLink "ToolHouseLaw" (76 : Nat) ({ cls := "ToolHouseModel", name := "out", desc := "(I)I" } : MethodName)) ∈ TB := List.mem_filter.mpr ⟨tm_5 _ (List.mem_of_getElem? (i := 129) rfl), rfl⟩
theorem tw_1142 : (Cond.instanceMethod ({ cls := "ToolHouseModel", name := "out", desc := "(I)I" } : MethodName)) ∈ TB := List.mem_filter.mpr ⟨tm_5 _ (List.mem_of_getElem? (i := 130) rfl), rfl⟩
theorem tw_1143 : (Cond.selects "ToolHouseModel" ({ cls := "ToolHouseModel", name := "out", desc := "(I)I" } : MethodName) ({ cls := "ToolHouseModel", name := "out", desc := "(I)I" } : MethodName)) ∈ TB := List.mem_filter.mpr ⟨tm_5 _ (List.mem_of_getElem? (i := 131) rfl), rfl⟩
theorem tw_1144 : (Cond.code ({ cls := "ToolHouseModel", name := "out", desc := "(I)I" } : MethodName) prog_11_method_35_code (4 : Nat) (some .int)) ∈ TB := List.mem_filter.mpr ⟨tm_5 _ (List.mem_of_getElem? (i := 132) rfl), rfl⟩
theorem tw_1145 : (Cond.methodLink "ToolHouseLaw" (80 : Nat) ({ cls := "ToolHouseModel", name := "back", desc := "(I)I" } : MethodName)) ∈ TB := List.mem_filter.mpr ⟨tm_5 _ (List.mem_of_getElem? (i := 133) rfl), rfl⟩
theorem tw_1146 : (Cond.instanceMethod ({ cls := "ToolHouseModel", name := "back", desc := "(I)I" } : MethodName)) ∈ TB := List.mem_filter.mpr ⟨tm_5 _ (List.mem_of_getElem? (i := 134) rfl), rfl⟩
theorem tw_1147 : (Cond.selects "ToolHouseModel" ({ cls := "ToolHouseModel", name := "back", desc := "(I)I" } : MethodName) ({ cls := "ToolHouseModel", name := "back", desc := "(I)I" } : MethodName)) ∈ TB := List.mem_filter.mpr ⟨tm_5 _ (List.mem_of_getElem? (i := 135) rfl), rfl⟩
theorem tw_1148 : (Cond.code ({ cls := "ToolHouseModel", name := "back", desc := "(I)I" } : MethodName) prog_11_method_36_code (4 : Nat) (some .int)) ∈ TB := List.mem_filter.mpr ⟨tm_5 _ (List.mem_of_getElem? (i := 136) rfl), rfl⟩
theorem tw_1149 : (Cond.methodLink "ToolHouseLaw" (84 : Nat) ({ cls := "ToolHouseModel", name := "work", desc := "(II)I" } : MethodName)) ∈ TB := List.mem_filter.mpr ⟨tm_5 _ (List.mem_of_getElem? (i := 137) rfl), rfl⟩
theorem tw_1150 : (Cond.instanceMethod ({ cls := "ToolHouseModel", name := "work", desc := "(II)I" } : MethodName)) ∈ TB := List.mem_filter.mpr ⟨tm_5 _ (List.mem_of_getElem? (i := 138) rfl), rfl⟩
theorem tw_1151 : (Cond.selects "ToolHouseModel" ({ cls := "ToolHouseModel", name := "work", desc := "(II)I" } : MethodName) ({ cls := "ToolHouseModel", name := "work", desc := "(II)I" } : MethodName)) ∈ TB := List.mem_filter.mpr ⟨tm_5 _ (List.mem_of_getElem? (i := 139) rfl), rfl⟩
theorem tw_1152 : (Cond.code ({ cls := "ToolHouseModel", name := "work", desc := "(II)I" } : MethodName) prog_11_method_37_code (3 : Nat) (some .int)) ∈ TB := List.mem_filter.mpr ⟨tm_5 _ (List.mem_of_getElem? (i := 140) rfl), rfl⟩
theorem tw_1153 : (Cond.methodLink "ToolHouseLaw" (88 : Nat) ({ cls := "ToolHouseModel", name := "days", desc := "(I)I" } : MethodName)) ∈ TB := List.mem_filter.mpr ⟨tm_5 _ (List.mem_of_getElem? (i := 141) rfl), rfl⟩
theorem tw_1154 : (Cond.instanceMethod ({ cls := "ToolHouseModel", name := "days", desc := "(I)I" } : MethodName)) ∈ TB := List.mem_filter.mpr ⟨tm_5 _ (List.mem_of_getElem? (i := 142) rfl), rfl⟩
theorem tw_1155 : (Cond.selects "ToolHouseModel" ({ cls := "ToolHouseModel", name := "days", desc := "(I)I" } : MethodName) ({ cls := "ToolHouseModel", name := "days", desc := "(I)I" } : MethodName)) ∈ TB := List.mem_filter.mpr ⟨tm_5 _ (List.mem_of_getElem? (i := 143) rfl), rfl⟩
theorem tw_1156 : (Cond.code ({ cls := "ToolHouseModel", name := "days", desc := "(I)I" } : MethodName) prog_11_method_39_code (4 : Nat) (some .int)) ∈ TB := List.mem_filter.mpr ⟨tm_5 _ (List.mem_of_getElem? (i := 144) rfl), rfl⟩
theorem tw_1157 : (Cond.methodLink "ToolHouseModel" (211 : Nat) ({ cls := "ToolHouseModel", name := "moves", desc := "()V" } : MethodName)) ∈ TB := List.mem_filter.mpr ⟨tm_5 _ (List.mem_of_getElem? (i := 145) rfl), rfl⟩
theorem tw_1159 : (Cond.instanceMethod ({ cls := "ToolHouseModel", name := "moves", desc := "()V" } : MethodName)) ∈ TB := List.mem_filter.mpr ⟨tm_5 _ (List.mem_of_getElem? (i := 147) rfl), rfl⟩
theorem tw_1160 : (Cond.code ({ cls := "ToolHouseModel", name := "moves", desc := "()V" } : MethodName) prog_11_method_40_code (3 : Nat) (none : Option Jvm.ClassFile.FieldType)) ∈ TB := List.mem_filter.mpr ⟨tm_5 _ (List.mem_of_getElem? (i := 148) rfl), rfl⟩
theorem tw_1161 : (Cond.methodLink "ToolHouseModel" (214 : Nat) ({ cls := "ToolHouseModel", name := "isLate", desc := "(I)Z" } : MethodName)) ∈ TB := List.mem_filter.mpr ⟨tm_5 _ (List.mem_of_getElem? (i := 149) rfl), rfl⟩
theorem tw_1163 : (Cond.instanceMethod ({ cls := "ToolHouseModel", name := "isLate", desc := "(I)Z" } : MethodName)) ∈ TB := List.mem_filter.mpr ⟨tm_5 _ (List.mem_of_getElem? (i := 151) rfl), rfl⟩
theorem tw_1164 : (Cond.code ({ cls := "ToolHouseModel", name := "isLate", desc := "(I)Z" } : MethodName) prog_11_method_38_code (3 : Nat) (some .boolean)) ∈ TB := List.mem_filter.mpr ⟨tm_5 _ (List.mem_of_getElem? (i := 152) rfl), rfl⟩
theorem tw_1165 : (Cond.methodLink "ToolHouseModel" (217 : Nat) ({ cls := "ToolHouseModel", name := "isAhead", desc := "(II)Z" } : MethodName)) ∈ TB := List.mem_filter.mpr ⟨tm_5 _ (List.mem_of_getElem? (i := 153) rfl), rfl⟩
theorem tw_1167 : (Cond.instanceMethod ({ cls := "ToolHouseModel", name := "isAhead", desc := "(II)Z" } : MethodName)) ∈ TB := List.mem_filter.mpr ⟨tm_5 _ (List.mem_of_getElem? (i := 155) rfl), rfl⟩
theorem tw_1168 : (Cond.code ({ cls := "ToolHouseModel", name := "isAhead", desc := "(II)Z" } : MethodName) prog_11_method_41_code (3 : Nat) (some .boolean)) ∈ TB := List.mem_filter.mpr ⟨tm_5 _ (List.mem_of_getElem? (i := 156) rfl), rfl⟩
theorem tw_1169 : (Cond.methodLink "ToolHouseModel" (220 : Nat) ({ cls := "ToolHouseModel", name := "moves", desc := "(I)V" } : MethodName)) ∈ TB := List.mem_filter.mpr ⟨tm_5 _ (List.mem_of_getElem? (i := 157) rfl), rfl⟩
theorem tw_1171 : (Cond.instanceMethod ({ cls := "ToolHouseModel", name := "moves", desc := "(I)V" } : MethodName)) ∈ TB := List.mem_filter.mpr ⟨tm_5 _ (List.mem_of_getElem? (i := 159) rfl), rfl⟩
theorem tw_1172 : (Cond.code ({ cls := "ToolHouseModel", name := "moves", desc := "(I)V" } : MethodName) prog_11_method_42_code (3 : Nat) (none : Option Jvm.ClassFile.FieldType)) ∈ TB := List.mem_filter.mpr ⟨tm_5 _ (List.mem_of_getElem? (i := 160) rfl), rfl⟩
theorem tw_1173 : (Cond.methodLink "ToolHouseLaw" (92 : Nat) ({ cls := "ToolHouseModel", name := "buy", desc := "(I)I" } : MethodName)) ∈ TB := List.mem_filter.mpr ⟨tm_5 _ (List.mem_of_getElem? (i := 161) rfl), rfl⟩
theorem tw_1174 : (Cond.instanceMethod ({ cls := "ToolHouseModel", name := "buy", desc := "(I)I" } : MethodName)) ∈ TB := List.mem_filter.mpr ⟨tm_5 _ (List.mem_of_getElem? (i := 162) rfl), rfl⟩
theorem tw_1175 : (Cond.selects "ToolHouseModel" ({ cls := "ToolHouseModel", name := "buy", desc := "(I)I" } : MethodName) ({ cls := "ToolHouseModel", name := "buy", desc := "(I)I" } : MethodName)) ∈ TB := List.mem_filter.mpr ⟨tm_5 _ (List.mem_of_getElem? (i := 163) rfl), rfl⟩
theorem tw_1176 : (Cond.code ({ cls := "ToolHouseModel", name := "buy", desc := "(I)I" } : MethodName) prog_11_method_43_code (6 : Nat) (some .int)) ∈ TB := List.mem_filter.mpr ⟨tm_5 _ (List.mem_of_getElem? (i := 164) rfl), rfl⟩
theorem tw_1177 : (Cond.methodLink "ToolHouseLaw" (98 : Nat) ({ cls := "ToolHouseModel", name := "of", desc := "(II)I" } : MethodName)) ∈ TB := List.mem_filter.mpr ⟨tm_5 _ (List.mem_of_getElem? (i := 165) rfl), rfl⟩
theorem tw_1178 : (Cond.instanceMethod ({ cls := "ToolHouseModel", name := "of", desc := "(II)I" } : MethodName)) ∈ TB := List.mem_filter.mpr ⟨tm_5 _ (List.mem_of_getElem? (i := 166) rfl), rfl⟩
theorem tw_1179 : (Cond.selects "ToolHouseModel" ({ cls := "ToolHouseModel", name := "of", desc := "(II)I" } : MethodName) ({ cls := "ToolHouseModel", name := "of", desc := "(II)I" } : MethodName)) ∈ TB := List.mem_filter.mpr ⟨tm_5 _ (List.mem_of_getElem? (i := 167) rfl), rfl⟩
theorem tw_1180 : (Cond.code ({ cls := "ToolHouseModel", name := "of", desc := "(II)I" } : MethodName) prog_11_method_44_code (4 : Nat) (some .int)) ∈ TB := List.mem_filter.mpr ⟨tm_5 _ (List.mem_of_getElem? (i := 168) rfl), rfl⟩
theorem tw_1181 : (Cond.methodLink "ToolHouseLaw" (105 : Nat) ({ cls := "ToolHouseModel", name := "thingOf", desc := "(II)I" } : MethodName)) ∈ TB := List.mem_filter.mpr ⟨tm_5 _ (List.mem_of_getElem? (i := 169) rfl), rfl⟩
theorem tw_1182 : (Cond.instanceMethod ({ cls := "ToolHouseModel", name := "thingOf", desc := "(II)I" } : MethodName)) ∈ TB := List.mem_filter.mpr ⟨tm_5 _ (List.mem_of_getElem? (i := 170) rfl), rfl⟩
theorem tw_1183 : (Cond.selects "ToolHouseModel" ({ cls := "ToolHouseModel", name := "thingOf", desc := "(II)I" } : MethodName) ({ cls := "ToolHouseModel", name := "thingOf", desc := "(II)I" } : MethodName)) ∈ TB := List.mem_filter.mpr ⟨tm_5 _ (List.mem_of_getElem? (i := 171) rfl), rfl⟩
theorem tw_1184 : (Cond.code ({ cls := "ToolHouseModel", name := "thingOf", desc := "(II)I" } : MethodName) prog_11_method_45_code (5 : Nat) (some .int)) ∈ TB := List.mem_filter.mpr ⟨tm_5 _ (List.mem_of_getElem? (i := 172) rfl), rfl⟩
theorem tw_1185 : (Cond.methodLink "ToolHouseLaw" (109 : Nat) ({ cls := "ToolHouseModel", name := "isFree", desc := "(III)I" } : MethodName)) ∈ TB := List.mem_filter.mpr ⟨tm_5 _ (List.mem_of_getElem? (i := 173) rfl), rfl⟩
theorem tw_1186 : (Cond.instanceMethod ({ cls := "ToolHouseModel", name := "isFree", desc := "(III)I" } : MethodName)) ∈ TB := List.mem_filter.mpr ⟨tm_5 _ (List.mem_of_getElem? (i := 174) rfl), rfl⟩
theorem tw_1187 : (Cond.selects "ToolHouseModel" ({ cls := "ToolHouseModel", name := "isFree", desc := "(III)I" } : MethodName) ({ cls := "ToolHouseModel", name := "isFree", desc := "(III)I" } : MethodName)) ∈ TB := List.mem_filter.mpr ⟨tm_5 _ (List.mem_of_getElem? (i := 175) rfl), rfl⟩
theorem tw_1188 : (Cond.code ({ cls := "ToolHouseModel", name := "isFree", desc := "(III)I" } : MethodName) prog_11_method_46_code (4 : Nat) (some .int)) ∈ TB := List.mem_filter.mpr ⟨tm_5 _ (List.mem_of_getElem? (i := 176) rfl), rfl⟩
theorem tw_1189 : (Cond.methodLink "ToolHouseLaw" (113 : Nat) ({ cls := "ToolHouseModel", name := "memberOf", desc := "(II)I" } : MethodName)) ∈ TB := List.mem_filter.mpr ⟨tm_5 _ (List.mem_of_getElem? (i := 177) rfl), rfl⟩
theorem tw_1190 : (Cond.instanceMethod ({ cls := "ToolHouseModel", name := "memberOf", desc := "(II)I" } : MethodName)) ∈ TB := List.mem_filter.mpr ⟨tm_5 _ (List.mem_of_getElem? (i := 178) rfl), rfl⟩
theorem tw_1191 : (Cond.selects "ToolHouseModel" ({ cls := "ToolHouseModel", name := "memberOf", desc := "(II)I" } : MethodName) ({ cls := "ToolHouseModel", name := "memberOf", desc := "(II)I" } : MethodName)) ∈ TB := List.mem_filter.mpr ⟨tm_5 _ (List.mem_of_getElem? (i := 179) rfl), rfl⟩
theorem tw_1192 : (Cond.code ({ cls := "ToolHouseModel", name := "memberOf", desc := "(II)I" } : MethodName) prog_11_method_47_code (5 : Nat) (some .int)) ∈ TB := List.mem_filter.mpr ⟨tm_5 _ (List.mem_of_getElem? (i := 180) rfl), rfl⟩
theorem tw_1193 : (Cond.methodLink "ToolHouseLaw" (117 : Nat) ({ cls := "ToolHouseModel", name := "count", desc := "(I)I" } : MethodName)) ∈ TB := List.mem_filter.mpr ⟨tm_5 _ (List.mem_of_getElem? (i := 181) rfl), rfl⟩
theorem tw_1194 : (Cond.instanceMethod ({ cls := "ToolHouseModel", name := "count", desc := "(I)I" } : MethodName)) ∈ TB := List.mem_filter.mpr ⟨tm_5 _ (List.mem_of_getElem? (i := 182) rfl), rfl⟩
theorem tw_1195 : (Cond.selects "ToolHouseModel" ({ cls := "ToolHouseModel", name := "count", desc := "(I)I" } : MethodName) ({ cls := "ToolHouseModel", name := "count", desc := "(I)I" } : MethodName)) ∈ TB := List.mem_filter.mpr ⟨tm_5 _ (List.mem_of_getElem? (i := 183) rfl), rfl⟩
theorem tw_1196 : (Cond.code ({ cls := "ToolHouseModel", name := "count", desc := "(I)I" } : MethodName) prog_11_method_48_code (2 : Nat) (some .int)) ∈ TB := List.mem_filter.mpr ⟨tm_5 _ (List.mem_of_getElem? (i := 184) rfl), rfl⟩
theorem tw_1197 : (Cond.arrayClass .long) ∈ TB := List.mem_filter.mpr ⟨tm_5 _ (List.mem_of_getElem? (i := 185) rfl), rfl⟩
theorem tw_1199 : (Cond.castable "ToolHouse$Ask" "java/lang/Object") ∈ NW := List.mem_filter.mpr ⟨tm_5 _ (List.mem_of_getElem? (i := 187) rfl), rfl⟩
theorem tw_1200 : (Cond.castable "ToolHouse" "java/lang/Object") ∈ NW := List.mem_filter.mpr ⟨tm_5 _ (List.mem_of_getElem? (i := 188) rfl), rfl⟩
theorem tw_1201 : (Cond.castable "java/util/ArrayList" "java/lang/Object") ∈ NW := List.mem_filter.mpr ⟨tm_5 _ (List.mem_of_getElem? (i := 189) rfl), rfl⟩
theorem tw_1202 : (Cond.castable "ToolHouse$Tape" "java/lang/Object") ∈ NW := List.mem_filter.mpr ⟨tm_5 _ (List.mem_of_getElem? (i := 190) rfl), rfl⟩
theorem tw_1203 : (Cond.castable "ToolHouse$LawReader" "java/lang/Object") ∈ NW := List.mem_filter.mpr ⟨tm_5 _ (List.mem_of_getElem? (i := 191) rfl), rfl⟩
theorem tw_1204 : (Cond.castable "ToolHouse$LawBook" "java/lang/Object") ∈ NW := List.mem_filter.mpr ⟨tm_5 _ (List.mem_of_getElem? (i := 192) rfl), rfl⟩
theorem tw_1205 : (Cond.castable "ToolHouse$Planner" "java/lang/Object") ∈ NW := List.mem_filter.mpr ⟨tm_5 _ (List.mem_of_getElem? (i := 193) rfl), rfl⟩
theorem tw_1206 : (Cond.castable "ToolHouseModel" "java/lang/Object") ∈ NW := List.mem_filter.mpr ⟨tm_5 _ (List.mem_of_getElem? (i := 194) rfl), rfl⟩
theorem tw_1207 : (Cond.castable "ToolHouse$Kind" "java/lang/Object") ∈ NW := List.mem_filter.mpr ⟨tm_5 _ (List.mem_of_getElem? (i := 195) rfl), rfl⟩
theorem tw_1208 : (Cond.castable "ToolHouse$Thing" "java/lang/Object") ∈ NW := List.mem_filter.mpr ⟨tm_5 _ (List.mem_of_getElem? (i := 196) rfl), rfl⟩
theorem tw_1209 : (Cond.castable "ToolHouse$Member" "java/lang/Object") ∈ NW := List.mem_filter.mpr ⟨tm_5 _ (List.mem_of_getElem? (i := 197) rfl), rfl⟩
theorem tw_1210 : (Cond.castable "java/util/NoSuchElementException" "java/lang/Object") ∈ NW := List.mem_filter.mpr ⟨tm_5 _ (List.mem_of_getElem? (i := 198) rfl), rfl⟩
theorem tw_1211 : (Cond.castable "java/lang/Throwable" "java/lang/Object") ∈ NW := List.mem_filter.mpr ⟨tm_5 _ (List.mem_of_getElem? (i := 199) rfl), rfl⟩
theorem tw_1212 : (Cond.castable "java/lang/String" "java/lang/Object") ∈ NW := List.mem_filter.mpr ⟨tm_5 _ (List.mem_of_getElem? (i := 200) rfl), rfl⟩
theorem tw_1214 : (Cond.selects "[Ljava/lang/Object;" ({ cls := "java/lang/Object", name := "getClass", desc := "()Ljava/lang/Class;" } : MethodName) ({ cls := "java/lang/Object", name := "getClass", desc := "()Ljava/lang/Class;" } : MethodName)) ∈ TB := List.mem_filter.mpr ⟨tm_5 _ (List.mem_of_getElem? (i := 202) rfl), rfl⟩
theorem tw_1215 : (Cond.declares ({ cls := "java/lang/Object", name := "getClass", desc := "()Ljava/lang/Class;" } : MethodName)) ∈ NW := List.mem_filter.mpr ⟨tm_5 _ (List.mem_of_getElem? (i := 203) rfl), rfl⟩
theorem tw_1216 : (Cond.castable "[I" "java/lang/Object") ∈ NW := List.mem_filter.mpr ⟨tm_5 _ (List.mem_of_getElem? (i := 204) rfl), rfl⟩
theorem tw_1217 : (Cond.castable "[LToolHouse$Ask;" "java/lang/Object") ∈ NW := List.mem_filter.mpr ⟨tm_5 _ (List.mem_of_getElem? (i := 205) rfl), rfl⟩
theorem tw_1218 : (Cond.castable "[Ljava/lang/Object;" "java/lang/Object") ∈ NW := List.mem_filter.mpr ⟨tm_5 _ (List.mem_of_getElem? (i := 206) rfl), rfl⟩
theorem tw_1219 : (Cond.castable "[B" "java/lang/Object") ∈ NW := List.mem_filter.mpr ⟨tm_5 _ (List.mem_of_getElem? (i := 207) rfl), rfl⟩
theorem tw_1220 : (Cond.castable "[Z" "java/lang/Object") ∈ NW := List.mem_filter.mpr ⟨tm_5 _ (List.mem_of_getElem? (i := 208) rfl), rfl⟩
theorem tw_1221 : (Cond.castable "[J" "java/lang/Object") ∈ NW := List.mem_filter.mpr ⟨tm_5 _ (List.mem_of_getElem? (i := 209) rfl), rfl⟩
theorem tw_1222 : (Cond.fieldLink "java/lang/String" (9 : Nat) "java/lang/String" "value" "[B") ∈ TB := List.mem_filter.mpr ⟨tm_5 _ (List.mem_of_getElem? (i := 210) rfl), rfl⟩
theorem tw_1223 : (Cond.fieldLink "java/lang/String" (15 : Nat) "java/lang/String" "coder" "B") ∈ TB := List.mem_filter.mpr ⟨tm_5 _ (List.mem_of_getElem? (i := 211) rfl), rfl⟩
end
section

/-! THE GAME: a lighter judgement over the machine, for all methods at once. g: what is fixed (launch, class numbers, array classes, the heap's size at the law's entry, old addresses, the script). -/
abbrev gT : Type := Launch × va_G × (Nat → ClassId) × Nat × (Nat → Nat) × Nat × (Nat → Int32)
abbrev g_D (g : gT) : va_G := g.2.1
abbrev g_c (g : gT) : Nat → ClassId := g.2.2.1
abbrev g_z (g : gT) : Nat := g.2.2.2.1
abbrev g_o (g : gT) : Nat → Nat := g.2.2.2.2.1
abbrev g_n (g : gT) : Nat := g.2.2.2.2.2.1
abbrev g_x (g : gT) : Nat → Int32 := g.2.2.2.2.2.2
def g_ad (g : gT) (i : Nat) : Nat := if i < 8 then g_o g i else g_z g + (i - 8)
def g_v (g : gT) (v : Value) : Value := match v with
  | .ref i => .ref (g_ad g i)
  | .int a => .int a
  | .long a => .long a
  | .float a => .float a
  | .double a => .double a
  | .null => .null
  | .retAddr a => .retAddr a
def g_a (g : gT) (a : vp_A) : vp_A := match a with
  | (n, .inr (.inr (.inr (.inr f)))) => (n, .inr (.inr (.inr (.inr (fun k => (f k).map (g_ad g))))))
  | (n, .inl f) => (n, .inl f)
  | (n, .inr (.inl f)) => (n, .inr (.inl f))
  | (n, .inr (.inr (.inl f))) => (n, .inr (.inr (.inl f)))
  | (n, .inr (.inr (.inr (.inl f)))) => (n, .inr (.inr (.inr (.inl f))))
abbrev mE : Type := (Nat × vp_A) ⊕ (Nat × List Value)
abbrev mH : Type := Nat → Option mE
abbrev mM : Type := MethodName × ByteArray × Nat × Option FieldType
def g_e (g : gT) (c : mE) : va_E := match c with
  | .inl (k, a) => .inl (g_c g k, g_a g a)
  | .inr (k, fs) => .inr (k, fs.map (g_v g))
def g_cl : List vw_C := [(RX0, TX0, 11), (RX1, TX1, 4), (RX2, TX2, 3), (RX3, TX3, 5), (RX4, TX4, 4), (RX5, TX5, 4), (RX6, TX6, 2), (RX7, TX7, 5), (RX8, TX8, 10), (RX9, TX9, 43), (RJx4a65c, TJx4a65c, 3)]
def g_tys (g : gT) : List (ClassId × FieldType) := [(g_c g 0, .int), (g_c g 1, .byte), (g_c g 2, .boolean), (g_c g 3, .long), (g_c g 4, .object "java/lang/Object"), (g_c g 5, .object "ToolHouse$Ask")]
abbrev g_A (g : gT) : Nat → Prop := fun q => g_z g ≤ q
/-- the heap holds the cells -/
def g_C (g : gT) (n : Nat) (h : mH) (H : Heap) : Prop := 8 ≤ n ∧ H.size = g_z g + (n - 8) ∧ ∀ (i : Nat) (c : mE), h i = some c → 8 ≤ i ∧ i < n ∧ va_at (g_D g) g_cl (g_ad g i, g_e g c) H
theorem g_ad_own (g : gT) {i : Nat} (h : 8 ≤ i) : g_ad g i = g_z g + (i - 8) := by simp [g_ad, Nat.not_lt.mpr h]
theorem g_ad_A (g : gT) {i : Nat} (h : 8 ≤ i) : g_A g (g_ad g i) := by show g_z g ≤ _; rw [g_ad_own g h]; omega
theorem g_ad_inj (g : gT) {i j : Nat} (h : 8 ≤ i) (h2 : 8 ≤ j) (e : g_ad g i = g_ad g j) : i = j := by rw [g_ad_own g h, g_ad_own g h2] at e; omega
theorem g_C.put {g : gT} {n i : Nat} {h : mH} {H H1 : Heap} {c0 c : mE} (hC : g_C g n h H) (hi : h i = some c0) (e : va_at (g_D g) g_cl (g_ad g i, g_e g c) H1) (z : H1.size = H.size) (oq : ∀ q : Nat, q ≠ g_ad g i → H1[q]? = H[q]?) : g_C g n (va_up h i (some c)) H1 := by
  obtain ⟨h1, h2, h3⟩ := hC
  refine ⟨h1, z.trans h2, fun j cj hj => ?_⟩
  by_cases hji : j = i
  · subst hji
    rw [va_up_self] at hj
    cases hj
    exact ⟨(h3 _ _ hi).1, (h3 _ _ hi).2.1, e⟩
  · rw [va_up_ne _ _ hji] at hj
    obtain ⟨a1, a2, a3⟩ := h3 j cj hj
    exact ⟨a1, a2, a3.kept (oq _ (fun q => hji (g_ad_inj g a1 (h3 _ _ hi).1 q)))⟩
theorem g_C.new {g : gT} {n : Nat} {h : mH} {H H1 : Heap} {c : mE} (hC : g_C g n h H) (e : va_at (g_D g) g_cl (H.size, g_e g c) H1) (z : H1.size = H.size + 1) (oq : ∀ q : Nat, q < H.size → H1[q]? = H[q]?) : g_C g (n + 1) (va_up h n (some c)) H1 ∧ g_ad g n = H.size := by
  obtain ⟨h1, h2, h3⟩ := hC
  have ea : g_ad g n = H.size := by rw [g_ad_own g h1, h2]
  refine ⟨⟨by omega, by rw [z, h2]; omega, fun j cj hj => ?_⟩, ea⟩
  by_cases hji : j = n
  · subst hji
    rw [va_up_self] at hj
    cases hj
    exact ⟨h1, by omega, by rw [ea]; exact e⟩
  · rw [va_up_ne _ _ hji] at hj
    obtain ⟨a1, a2, a3⟩ := h3 j cj hj
    exact ⟨a1, by omega, a3.kept (oq _ a3.lt)⟩
theorem g_S.put {g : gT} {H0 H H1 : Heap} {locs : List Loc} {i k : Nat} (h : va_S (g_A g) H0 H locs) (z : H1.size = H.size) (oq : ∀ q : Nat, q ≠ g_ad g i → H1[q]? = H[q]?) (h8 : 8 ≤ i) : va_S (g_A g) H0 H1 (locs ++ [⟨g_ad g i, k⟩]) := va_S.put h z oq (g_ad_A g h8)
theorem g_S.new {g : gT} {H0 H H1 : Heap} {locs : List Loc} (h : va_S (g_A g) H0 H locs) (z : H1.size = H.size + 1) (oq : ∀ q : Nat, q < H.size → H1[q]? = H[q]?) : va_S (g_A g) H0 H1 locs := ⟨Nat.le_trans h.1 (by omega), fun x h1 h2 => (oq x (Nat.lt_of_lt_of_le h1 h.1)).trans (h.2.1 x h1 h2), h.2.2⟩
/-- one cell as a world of its own, for the kit's reading rows -/
theorem g_P {g : gT} {n i : Nat} {h : mH} {H : Heap} {c : mE} (hC : g_C g n h H) (hi : h i = some c) : va_P (g_D g) g_cl [(g_ad g i, g_e g c)] H := by
  intro k q hq
  have hz : k < 1 := (List.getElem?_eq_some_iff.mp hq).1
  rw [show k = 0 by omega] at hq
  cases hq
  exact (hC.2.2 i c hi).2.2
/-! words that stay true but that the kit doesn't call good -/
theorem g_nw_go {w : Cond} (hw : g_nw w = true) {s U : State} (hW : s.WarmedH U.vm) (h : va_Nw w s) : va_Nw w U := by
  cases w with
  | castable a b => exact va_Nw.warmC hW h
  | methodLinkNest a b c d => exact va_Nw.warmM hW h
  | declares a => exact va_Nw.warmD hW h
  | _ => simp [g_nw] at hw
theorem g_nw_same {w : Cond} (hw : g_nw w = true) {s U : State} (e : s.vm = U.vm) (h : va_Nw w s) : va_Nw w U := by
  cases w with
  | castable a b => exact va_Nw.same rfl e h
  | methodLinkNest a b c d => exact va_Nw.same rfl e h
  | declares a => exact va_Nw.same rfl e h
  | _ => simp [g_nw] at hw
/-- what was there before the law began and stays: statics, the script, words -/
def g_O (g : gT) (s : State) (H : Heap) : Prop :=
  (∀ w ∈ NW, va_Nw w s) ∧ va_Z "java/util/ArrayList" "DEFAULTCAPACITY_EMPTY_ELEMENTDATA" "[Ljava/lang/Object;" (.ref (g_o g 1)) (g_A g) s H ∧ va_T (.object "java/lang/Object") (g_o g 1) 0 (fun _ => .null) (g_A g) s H ∧ va_Z "java/lang/String" "COMPACT_STRINGS" "Z" (.int 1) (g_A g) s H ∧ va_AO "java/lang/Object" s ∧ va_AO "ToolHouse$Ask" s ∧ va_Mi "[Ljava/lang/Object;" (g_o g 6) s ∧ va_Dc s ∧ va_X (g_o g 0) (g_n g) (g_x g) s H ∧ (∀ i, i < 8 → g_o g i < g_z g) ∧ (g_z g ≤ H.size)
theorem g_O.go {g : gT} {s U : State} {H : Heap} {locs : List Loc} (h : g_O g s s.heap) (hS : va_S (g_A g) s.heap H locs) (hU : U.heap = H) (hW : s.WarmedH U.vm) : g_O g U U.heap := by
  obtain ⟨a1, a2, a3, a4, a5, a6, a7, a8, a9, a10, a11⟩ := h
  subst hU
  have hk : ∀ a : Nat, a < s.heap.size → ¬ g_A g a → U.heap[a]? = s.heap[a]? := hS.2.1
  have hal := hW.alike
  refine ⟨fun w hw => g_nw_go (List.mem_filter.mp hw).2 hW (a1 w hw), (a2.kept hk).moved hal, (a3.kept hk).moved hal, (a4.kept hk).moved hal, a5.moved hal, a6.moved hal, a7.moved hal, a8.moved hal, (a9.kept (hk _ ?_ ?_)).moved hal, a10, Nat.le_trans a11 hS.1⟩
  · have := a10 0 (by omega); omega
  · have := a10 0 (by omega); show ¬ g_z g ≤ _; omega
theorem g_O.same {g : gT} {s U : State} (h : g_O g s s.heap) (hU : U.heap = s.heap) (hW : s.vm = U.vm) : g_O g U U.heap := by
  obtain ⟨a1, a2, a3, a4, a5, a6, a7, a8, a9, a10, a11⟩ := h
  rw [hU]
  have hal : s.vm.Alike U.vm := by rw [hW]; exact Vm.Alike.refl _
  exact ⟨fun w hw => g_nw_same (List.mem_filter.mp hw).2 hW (a1 w hw), a2.moved hal, a3.moved hal, a4.moved hal, a5.moved hal, a6.moved hal, a7.moved hal, a8.moved hal, a9.moved hal, a10, a11⟩
/-! locals: a dense list; .retAddr is a place that isn't set -/
def g_ok (v : Value) : Bool := match v with
  | .retAddr _ => false
  | _ => true
def g_Lv (g : gT) (L : List Value) : List (Nat × Value) := L.zipIdx.filterMap (fun q => if g_ok q.1 then some (q.2, g_v g q.1) else none)
theorem g_Lv_mem {g : gT} {L : List Value} {q : Nat × Value} : q ∈ g_Lv g L ↔ ∃ v, L[q.1]? = some v ∧ g_ok v = true ∧ q.2 = g_v g v := by
  unfold g_Lv
  rw [List.mem_filterMap]
  constructor
  · rintro ⟨⟨v, i⟩, h1, h2⟩
    dsimp only at h2
    split at h2
    · rename_i h3
      cases h2
      exact ⟨v, List.mem_zipIdx_iff_getElem?.mp h1, h3, rfl⟩
    · cases h2
  · rintro ⟨v, h1, h2, h3⟩
    refine ⟨(v, q.1), List.mem_zipIdx_iff_getElem?.mpr h1, ?_⟩
    dsimp only
    rw [if_pos h2, ← h3]
theorem g_at {g : gT} {ls : Array Slot} {nL : Nat} {L : List Value} (h : lv_has ls nL (g_Lv g L)) {i : Nat} {v : Value} (hi : L[i]? = some v) (hv : g_ok v = true) : ls[i]? = some (.val (g_v g v)) := h.2.2 (i, g_v g v) (g_Lv_mem.mpr ⟨v, hi, hv, rfl⟩)
theorem g_cat (g : gT) (v : Value) : (g_v g v).category = v.category := by cases v <;> rfl
theorem g_cats (g : gT) (st : List Value) : ((st.map (g_v g)).map fun v => v.category).sum = (st.map fun v => v.category).sum := by
  rw [List.map_map]
  congr 1
  exact List.map_congr_left (fun v _ => g_cat g v)
theorem g_store {g : gT} {ls : Array Slot} {nL i : Nat} {L : List Value} {v : Value} (hi : i < L.length) (hc : ((L[i - 1]?).all (fun w => w.category == 1)) = true) (h : lv_has ls nL ((i, g_v g v) :: (g_Lv g L).filter (fun q => !(q.1 == i) && !(q.1 + 1 == i && q.2.category == 2)))) : lv_has ls nL (g_Lv g (L.set i v)) := by
  refine ⟨h.1, h.2.1, fun q hq => h.2.2 q ?_⟩
  obtain ⟨w, h1, h2, h3⟩ := g_Lv_mem.mp hq
  obtain ⟨j, u⟩ := q
  dsimp only at h1 h3
  subst h3
  by_cases hj : j = i
  · subst hj
    rw [List.getElem?_set_self hi] at h1
    cases h1
    exact List.mem_cons_self
  · rw [List.getElem?_set_ne (Ne.symm hj)] at h1
    refine List.mem_cons_of_mem _ (List.mem_filter.mpr ⟨g_Lv_mem.mpr ⟨w, h1, h2, rfl⟩, ?_⟩)
    have e1 : (j == i) = false := by simpa using hj
    rw [e1]
    by_cases hj1 : j + 1 = i
    · have e2 : i - 1 = j := by omega
      rw [e2, h1] at hc
      have hc' : w.category = 1 := by simpa using hc
      simp [g_cat, hc']
    · simp [hj1]
/-- what stands fast while a method runs -/
def g_S (g : gT) (k : mM) (p : Program) (s : State) (m : MethodId) (args : Array Value) (meth : Method) (c : Code) : Prop :=
  p.tables.exec = Jvm.exec ∧ c.code = k.2.1 ∧ c.maxLocals = k.2.2.1 ∧ meth.sig.returnType = k.2.2.2 ∧ meth.locks = false ∧ meth.name = k.1.name ∧ s.vm.findClass k.1.cls = some m.cls ∧ (∀ w ∈ TB, w.before args s = true) ∧ va_K (g_D g) g_cl (g_tys g) s ∧ g_O g s s.heap
def g_B (R : Room) (d x y cells slots : Nat) : Prop := d ≤ R.frames ∧ 40 * d ≤ R.locals ∧ cells + x ≤ R.cells ∧ slots + y ≤ R.slots
def g_E (g : gT) (k : mM) (L : List Value) (ls : Array Slot) : Prop := L.length = k.2.2.1 ∧ lv_has ls k.2.2.1 (g_Lv g L)
def g_Q (g : gT) (P : Option Value → Nat → mH → Prop) : Array Value → State → Outcome → State → Prop := fun _ st o t => (∃ (v : Option Value) (n : Nat) (h : mH), o = .returned (v.map (g_v g)) ∧ P v n h ∧ g_C g n h t.heap) ∧ va_F (g_A g) st t
/-- THE JUDGEMENT -/
def G (g : gT) (d x y : Nat) (k : mM) (pc : Nat) (L st : List Value) (n : Nat) (h : mH) (P : Option Value → Nat → mH → Prop) : Prop :=
  ∀ (p : Program) (e : Env) (R : Room) (s : State) (m : MethodId) (args : Array Value) (below : List Frame) (meth : Method) (c : Code) (H : Heap) (locs : List Loc) (cells slots : Nat) (ls : Array Slot),
    g_S g k p s m args meth c → g_B R d x y cells slots → g_C g n h H → va_S (g_A g) s.heap H locs → g_E g k L ls →
    W p g.1 e R s m args below meth c H locs cells slots (MQ below (g_Q g P) args s R.cells R.slots (g_A g)) (F0 m pc ls (st.map (g_v g)))
/-- a method's contract -/
def g_R (d x y : Nat) : Room := { frames := d, cells := x, slots := y, locals := 40 * d }
def g_I (g : gT) (n : Nat) (h : mH) (U : State) : Prop := g_C g n h U.heap ∧ va_K (g_D g) g_cl (g_tys g) U ∧ g_O g U U.heap
def g_ws (k : mM) : List Cond := Cond.code k.1 k.2.1 k.2.2.1 k.2.2.2 :: TB
def M (g : gT) (d x y : Nat) (k : mM) (av : List Value) (n : Nat) (h : mH) (P : Option Value → Nat → mH → Prop) : Prop :=
  Met g.1 k.1 (g_ws k) (g_R d x y) (va_Pc (av.map (g_v g)) (g_I g n h)) (g_Q g P) x y (g_A g)
theorem G_iconst {g : gT} {d x y : Nat} {k : mM} {pc : Nat} {L st : List Value} {n : Nat} {h : mH} {P : Option Value → Nat → mH → Prop} {i : Int} {v : Int32} (hd : decode k.2.1 pc = .ok (.iconst i, 1)) (hv : Int32.ofInt i = v) (K : G g d x y k (pc + 1) L (.int v :: st) n h P) : G g d x y k pc L (st) n h P := by
  intro p e R s m args below meth c H locs cells slots ls S B C F E
  exact lv_iconst S.1 S.2.1 hd hv (K p e R s m args below meth c H locs cells slots ls S B C F E)
theorem G_bipush {g : gT} {d x y : Nat} {k : mM} {pc : Nat} {L st : List Value} {n : Nat} {h : mH} {P : Option Value → Nat → mH → Prop} {i : Int} {v : Int32} (hd : decode k.2.1 pc = .ok (.bipush i, 2)) (hv : (Int8.ofInt i).toInt32 = v) (K : G g d x y k (pc + 2) L (.int v :: st) n h P) : G g d x y k pc L (st) n h P := by
  intro p e R s m args below meth c H locs cells slots ls S B C F E
  exact lv_bipush S.1 S.2.1 hd hv (K p e R s m args below meth c H locs cells slots ls S B C F E)
theorem G_sipush {g : gT} {d x y : Nat} {k : mM} {pc : Nat} {L st : List Value} {n : Nat} {h : mH} {P : Option Value → Nat → mH → Prop} {i : Int} {v : Int32} (hd : decode k.2.1 pc = .ok (.sipush i, 3)) (hv : (Int16.ofInt i).toInt32 = v) (K : G g d x y k (pc + 3) L (.int v :: st) n h P) : G g d x y k pc L (st) n h P := by
  intro p e R s m args below meth c H locs cells slots ls S B C F E
  exact lv_sipush S.1 S.2.1 hd hv (K p e R s m args below meth c H locs cells slots ls S B C F E)
theorem G_null {g : gT} {d x y : Nat} {k : mM} {pc : Nat} {L st : List Value} {n : Nat} {h : mH} {P : Option Value → Nat → mH → Prop}  (hd : decode k.2.1 pc = .ok (.aconst_null, 1)) (K : G g d x y k (pc + 1) L (.null :: st) n h P) : G g d x y k pc L (st) n h P := by
  intro p e R s m args below meth c H locs cells slots ls S B C F E
  exact lv_null S.1 S.2.1 hd  (K p e R s m args below meth c H locs cells slots ls S B C F E)
theorem G_iadd {g : gT} {d x y : Nat} {k : mM} {pc : Nat} {L st : List Value} {n : Nat} {h : mH} {P : Option Value → Nat → mH → Prop} {a b : Int32} (hd : decode k.2.1 pc = .ok (.iadd, 1)) (K : G g d x y k (pc + 1) L (.int (a + b) :: st) n h P) : G g d x y k pc L (.int b :: .int a :: st) n h P := by
  intro p e R s m args below meth c H locs cells slots ls S B C F E
  exact lv_iadd S.1 S.2.1 hd  (K p e R s m args below meth c H locs cells slots ls S B C F E)
theorem G_isub {g : gT} {d x y : Nat} {k : mM} {pc : Nat} {L st : List Value} {n : Nat} {h : mH} {P : Option Value → Nat → mH → Prop} {a b : Int32} (hd : decode k.2.1 pc = .ok (.isub, 1)) (K : G g d x y k (pc + 1) L (.int (a - b) :: st) n h P) : G g d x y k pc L (.int b :: .int a :: st) n h P := by
  intro p e R s m args below meth c H locs cells slots ls S B C F E
  exact lv_isub S.1 S.2.1 hd  (K p e R s m args below meth c H locs cells slots ls S B C F E)
theorem G_imul {g : gT} {d x y : Nat} {k : mM} {pc : Nat} {L st : List Value} {n : Nat} {h : mH} {P : Option Value → Nat → mH → Prop} {a b : Int32} (hd : decode k.2.1 pc = .ok (.imul, 1)) (K : G g d x y k (pc + 1) L (.int (a * b) :: st) n h P) : G g d x y k pc L (.int b :: .int a :: st) n h P := by
  intro p e R s m args below meth c H locs cells slots ls S B C F E
  exact lv_imul S.1 S.2.1 hd  (K p e R s m args below meth c H locs cells slots ls S B C F E)
theorem G_iand {g : gT} {d x y : Nat} {k : mM} {pc : Nat} {L st : List Value} {n : Nat} {h : mH} {P : Option Value → Nat → mH → Prop} {a b : Int32} (hd : decode k.2.1 pc = .ok (.iand, 1)) (K : G g d x y k (pc + 1) L (.int (a &&& b) :: st) n h P) : G g d x y k pc L (.int b :: .int a :: st) n h P := by
  intro p e R s m args below meth c H locs cells slots ls S B C F E
  exact lv_iand S.1 S.2.1 hd  (K p e R s m args below meth c H locs cells slots ls S B C F E)
theorem G_ior {g : gT} {d x y : Nat} {k : mM} {pc : Nat} {L st : List Value} {n : Nat} {h : mH} {P : Option Value → Nat → mH → Prop} {a b : Int32} (hd : decode k.2.1 pc = .ok (.ior, 1)) (K : G g d x y k (pc + 1) L (.int (a ||| b) :: st) n h P) : G g d x y k pc L (.int b :: .int a :: st) n h P := by
  intro p e R s m args below meth c H locs cells slots ls S B C F E
  exact lv_ior S.1 S.2.1 hd  (K p e R s m args below meth c H locs cells slots ls S B C F E)
theorem G_ixor {g : gT} {d x y : Nat} {k : mM} {pc : Nat} {L st : List Value} {n : Nat} {h : mH} {P : Option Value → Nat → mH → Prop} {a b : Int32} (hd : decode k.2.1 pc = .ok (.ixor, 1)) (K : G g d x y k (pc + 1) L (.int (a ^^^ b) :: st) n h P) : G g d x y k pc L (.int b :: .int a :: st) n h P := by
  intro p e R s m args below meth c H locs cells slots ls S B C F E
  exact lv_ixor S.1 S.2.1 hd  (K p e R s m args below meth c H locs cells slots ls S B C F E)
theorem G_idiv {g : gT} {d x y : Nat} {k : mM} {pc : Nat} {L st : List Value} {n : Nat} {h : mH} {P : Option Value → Nat → mH → Prop} {a b : Int32} (hd : decode k.2.1 pc = .ok (.idiv, 1)) (hb : ¬ b = 0) (K : G g d x y k (pc + 1) L (.int (a / b) :: st) n h P) : G g d x y k pc L (.int b :: .int a :: st) n h P := by
  intro p e R s m args below meth c H locs cells slots ls S B C F E
  exact lv_idiv S.1 S.2.1 hd hb (K p e R s m args below meth c H locs cells slots ls S B C F E)
theorem G_irem {g : gT} {d x y : Nat} {k : mM} {pc : Nat} {L st : List Value} {n : Nat} {h : mH} {P : Option Value → Nat → mH → Prop} {a b : Int32} (hd : decode k.2.1 pc = .ok (.irem, 1)) (hb : ¬ b = 0) (K : G g d x y k (pc + 1) L (.int (a - a / b * b) :: st) n h P) : G g d x y k pc L (.int b :: .int a :: st) n h P := by
  intro p e R s m args below meth c H locs cells slots ls S B C F E
  exact lv_irem S.1 S.2.1 hd hb (K p e R s m args below meth c H locs cells slots ls S B C F E)
theorem G_ineg {g : gT} {d x y : Nat} {k : mM} {pc : Nat} {L st : List Value} {n : Nat} {h : mH} {P : Option Value → Nat → mH → Prop} {a : Int32} (hd : decode k.2.1 pc = .ok (.ineg, 1)) (K : G g d x y k (pc + 1) L (.int (-a) :: st) n h P) : G g d x y k pc L (.int a :: st) n h P := by
  intro p e R s m args below meth c H locs cells slots ls S B C F E
  exact lv_ineg S.1 S.2.1 hd  (K p e R s m args below meth c H locs cells slots ls S B C F E)
theorem G_ladd {g : gT} {d x y : Nat} {k : mM} {pc : Nat} {L st : List Value} {n : Nat} {h : mH} {P : Option Value → Nat → mH → Prop} {a b : Int64} (hd : decode k.2.1 pc = .ok (.ladd, 1)) (K : G g d x y k (pc + 1) L (.long (a + b) :: st) n h P) : G g d x y k pc L (.long b :: .long a :: st) n h P := by
  intro p e R s m args below meth c H locs cells slots ls S B C F E
  exact lv_ladd S.1 S.2.1 hd  (K p e R s m args below meth c H locs cells slots ls S B C F E)
theorem G_lsub {g : gT} {d x y : Nat} {k : mM} {pc : Nat} {L st : List Value} {n : Nat} {h : mH} {P : Option Value → Nat → mH → Prop} {a b : Int64} (hd : decode k.2.1 pc = .ok (.lsub, 1)) (K : G g d x y k (pc + 1) L (.long (a - b) :: st) n h P) : G g d x y k pc L (.long b :: .long a :: st) n h P := by
  intro p e R s m args below meth c H locs cells slots ls S B C F E
  exact lv_lsub S.1 S.2.1 hd  (K p e R s m args below meth c H locs cells slots ls S B C F E)
theorem G_ishl {g : gT} {d x y : Nat} {k : mM} {pc : Nat} {L st : List Value} {n : Nat} {h : mH} {P : Option Value → Nat → mH → Prop} {a b : Int32} (hd : decode k.2.1 pc = .ok (.ishl, 1)) (K : G g d x y k (pc + 1) L (.int (a <<< (b &&& 31)) :: st) n h P) : G g d x y k pc L (.int b :: .int a :: st) n h P := by
  intro p e R s m args below meth c H locs cells slots ls S B C F E
  exact lv_ishl S.1 S.2.1 hd  (K p e R s m args below meth c H locs cells slots ls S B C F E)
theorem G_ishr {g : gT} {d x y : Nat} {k : mM} {pc : Nat} {L st : List Value} {n : Nat} {h : mH} {P : Option Value → Nat → mH → Prop} {a b : Int32} (hd : decode k.2.1 pc = .ok (.ishr, 1)) (K : G g d x y k (pc + 1) L (.int (a >>> (b &&& 31)) :: st) n h P) : G g d x y k pc L (.int b :: .int a :: st) n h P := by
  intro p e R s m args below meth c H locs cells slots ls S B C F E
  exact lv_ishr S.1 S.2.1 hd  (K p e R s m args below meth c H locs cells slots ls S B C F E)
theorem G_iushr {g : gT} {d x y : Nat} {k : mM} {pc : Nat} {L st : List Value} {n : Nat} {h : mH} {P : Option Value → Nat → mH → Prop} {a b : Int32} (hd : decode k.2.1 pc = .ok (.iushr, 1)) (K : G g d x y k (pc + 1) L (.int (a.toUInt32 >>> (b.toUInt32 &&& Int32.toUInt32 31)).toInt32 :: st) n h P) : G g d x y k pc L (.int b :: .int a :: st) n h P := by
  intro p e R s m args below meth c H locs cells slots ls S B C F E
  exact lv_iushr S.1 S.2.1 hd rfl (K p e R s m args below meth c H locs cells slots ls S B C F E)
theorem G_i2l {g : gT} {d x y : Nat} {k : mM} {pc : Nat} {L st : List Value} {n : Nat} {h : mH} {P : Option Value → Nat → mH → Prop} {a : Int32} (hd : decode k.2.1 pc = .ok (.i2l, 1)) (K : G g d x y k (pc + 1) L (.long a.toInt64 :: st) n h P) : G g d x y k pc L (.int a :: st) n h P := by
  intro p e R s m args below meth c H locs cells slots ls S B C F E
  exact lv_i2l S.1 S.2.1 hd rfl (K p e R s m args below meth c H locs cells slots ls S B C F E)
theorem G_i2b {g : gT} {d x y : Nat} {k : mM} {pc : Nat} {L st : List Value} {n : Nat} {h : mH} {P : Option Value → Nat → mH → Prop} {a : Int32} (hd : decode k.2.1 pc = .ok (.i2b, 1)) (K : G g d x y k (pc + 1) L (.int a.toInt8.toInt32 :: st) n h P) : G g d x y k pc L (.int a :: st) n h P := by
  intro p e R s m args below meth c H locs cells slots ls S B C F E
  exact lv_i2b S.1 S.2.1 hd rfl (K p e R s m args below meth c H locs cells slots ls S B C F E)
theorem G_lcmp {g : gT} {d x y : Nat} {k : mM} {pc : Nat} {L st : List Value} {n : Nat} {h : mH} {P : Option Value → Nat → mH → Prop} {a b : Int64} (hd : decode k.2.1 pc = .ok (.lcmp, 1)) (K : G g d x y k (pc + 1) L (.int (lg_cmp a b) :: st) n h P) : G g d x y k pc L (.long b :: .long a :: st) n h P := by
  intro p e R s m args below meth c H locs cells slots ls S B C F E
  exact W.lcmp S.1 S.2.1 hd  (K p e R s m args below meth c H locs cells slots ls S B C F E)
theorem G_dup {g : gT} {d x y : Nat} {k : mM} {pc : Nat} {L st : List Value} {n : Nat} {h : mH} {P : Option Value → Nat → mH → Prop} {v : Value} (hd : decode k.2.1 pc = .ok (.dup, 1)) (hv : v.category = 1) (K : G g d x y k (pc + 1) L (v :: v :: st) n h P) : G g d x y k pc L (v :: st) n h P := by
  intro p e R s m args below meth c H locs cells slots ls S B C F E
  exact lv_dup S.1 S.2.1 hd ((g_cat g v).trans hv) (K p e R s m args below meth c H locs cells slots ls S B C F E)
theorem G_pop {g : gT} {d x y : Nat} {k : mM} {pc : Nat} {L st : List Value} {n : Nat} {h : mH} {P : Option Value → Nat → mH → Prop} {v : Value} (hd : decode k.2.1 pc = .ok (.pop, 1)) (hv : v.category = 1) (K : G g d x y k (pc + 1) L (st) n h P) : G g d x y k pc L (v :: st) n h P := by
  intro p e R s m args below meth c H locs cells slots ls S B C F E
  exact lv_pop S.1 S.2.1 hd ((g_cat g v).trans hv) (K p e R s m args below meth c H locs cells slots ls S B C F E)
theorem G_dup_x1 {g : gT} {d x y : Nat} {k : mM} {pc : Nat} {L st : List Value} {n : Nat} {h : mH} {P : Option Value → Nat → mH → Prop} {v w : Value} (hd : decode k.2.1 pc = .ok (.dup_x1, 1)) (hv : v.category = 1) (hw : w.category = 1) (K : G g d x y k (pc + 1) L (v :: w :: v :: st) n h P) : G g d x y k pc L (v :: w :: st) n h P := by
  intro p e R s m args below meth c H locs cells slots ls S B C F E
  exact lv_dup_x1 S.1 S.2.1 hd ((g_cat g v).trans hv) ((g_cat g w).trans hw) (K p e R s m args below meth c H locs cells slots ls S B C F E)
theorem G_dup2 {g : gT} {d x y : Nat} {k : mM} {pc : Nat} {L st : List Value} {n : Nat} {h : mH} {P : Option Value → Nat → mH → Prop} {v w : Value} (hd : decode k.2.1 pc = .ok (.dup2, 1)) (hv : v.category = 1) (hw : w.category = 1) (K : G g d x y k (pc + 1) L (v :: w :: v :: w :: st) n h P) : G g d x y k pc L (v :: w :: st) n h P := by
  intro p e R s m args below meth c H locs cells slots ls S B C F E
  exact lv_dup2_11 S.1 S.2.1 hd ((g_cat g v).trans hv) ((g_cat g w).trans hw) (K p e R s m args below meth c H locs cells slots ls S B C F E)
theorem G_goto {g : gT} {d x y : Nat} {k : mM} {pc : Nat} {L st : List Value} {n : Nat} {h : mH} {P : Option Value → Nat → mH → Prop} {off : Int} {tgt : Nat} (hd : decode k.2.1 pc = .ok (.goto off, 3)) (ht : (pc : Int) + off = (tgt : Int)) (K : G g d x y k tgt L (st) n h P) : G g d x y k pc L (st) n h P := by
  intro p e R s m args below meth c H locs cells slots ls S B C F E
  exact lv_goto S.1 S.2.1 hd ht (K p e R s m args below meth c H locs cells slots ls S B C F E)
theorem G_if_eq {g : gT} {d x y : Nat} {k : mM} {pc : Nat} {L st : List Value} {n : Nat} {h : mH} {P : Option Value → Nat → mH → Prop} {a : Int32} {off : Int} {tgt : Nat} (hd : decode k.2.1 pc = .ok (.ifCond .eq off, 3)) (ht : (pc : Int) + off = (tgt : Int)) (K : (a = 0) → G g d x y k tgt L (st) n h P) (K2 : ¬ (a = 0) → G g d x y k (pc + 3) L (st) n h P) : G g d x y k pc L (.int a :: st) n h P := by
  intro p e R s m args below meth c H locs cells slots ls S B C F E
  exact lv_if_eq S.1 S.2.1 hd ht (fun q => K q p e R s m args below meth c H locs cells slots ls S B C F E) (fun q => K2 q p e R s m args below meth c H locs cells slots ls S B C F E)
theorem G_icmp_eq {g : gT} {d x y : Nat} {k : mM} {pc : Nat} {L st : List Value} {n : Nat} {h : mH} {P : Option Value → Nat → mH → Prop} {a b : Int32} {off : Int} {tgt : Nat} (hd : decode k.2.1 pc = .ok (.if_icmp .eq off, 3)) (ht : (pc : Int) + off = (tgt : Int)) (K : (a = b) → G g d x y k tgt L (st) n h P) (K2 : ¬ (a = b) → G g d x y k (pc + 3) L (st) n h P) : G g d x y k pc L (.int b :: .int a :: st) n h P := by
  intro p e R s m args below meth c H locs cells slots ls S B C F E
  exact lv_icmp_eq S.1 S.2.1 hd ht (fun q => K q p e R s m args below meth c H locs cells slots ls S B C F E) (fun q => K2 q p e R s m args below meth c H locs cells slots ls S B C F E)
theorem G_if_ne {g : gT} {d x y : Nat} {k : mM} {pc : Nat} {L st : List Value} {n : Nat} {h : mH} {P : Option Value → Nat → mH → Prop} {a : Int32} {off : Int} {tgt : Nat} (hd : decode k.2.1 pc = .ok (.ifCond .ne off, 3)) (ht : (pc : Int) + off = (tgt : Int)) (K : (¬ a = 0) → G g d x y k tgt L (st) n h P) (K2 : a = 0 → G g d x y k (pc + 3) L (st) n h P) : G g d x y k pc L (.int a :: st) n h P := by
  intro p e R s m args below meth c H locs cells slots ls S B C F E
  exact lv_if_ne S.1 S.2.1 hd ht (fun q => K q p e R s m args below meth c H locs cells slots ls S B C F E) (fun q => K2 q p e R s m args below meth c H locs cells slots ls S B C F E)
theorem G_icmp_ne {g : gT} {d x y : Nat} {k : mM} {pc : Nat} {L st : List Value} {n : Nat} {h : mH} {P : Option Value → Nat → mH → Prop} {a b : Int32} {off : Int} {tgt : Nat} (hd : decode k.2.1 pc = .ok (.if_icmp .ne off, 3)) (ht : (pc : Int) + off = (tgt : Int)) (K : (¬ a = b) → G g d x y k tgt L (st) n h P) (K2 : a = b → G g d x y k (pc + 3) L (st) n h P) : G g d x y k pc L (.int b :: .int a :: st) n h P := by
  intro p e R s m args below meth c H locs cells slots ls S B C F E
  exact lv_icmp_ne S.1 S.2.1 hd ht (fun q => K q p e R s m args below meth c H locs cells slots ls S B C F E) (fun q => K2 q p e R s m args below meth c H locs cells slots ls S B C F E)
theorem G_if_lt {g : gT} {d x y : Nat} {k : mM} {pc : Nat} {L st : List Value} {n : Nat} {h : mH} {P : Option Value → Nat → mH → Prop} {a : Int32} {off : Int} {tgt : Nat} (hd : decode k.2.1 pc = .ok (.ifCond .lt off, 3)) (ht : (pc : Int) + off = (tgt : Int)) (K : (a < 0) → G g d x y k tgt L (st) n h P) (K2 : ¬ (a < 0) → G g d x y k (pc + 3) L (st) n h P) : G g d x y k pc L (.int a :: st) n h P := by
  intro p e R s m args below meth c H locs cells slots ls S B C F E
  exact lv_if_lt S.1 S.2.1 hd ht (fun q => K q p e R s m args below meth c H locs cells slots ls S B C F E) (fun q => K2 q p e R s m args below meth c H locs cells slots ls S B C F E)
theorem G_icmp_lt {g : gT} {d x y : Nat} {k : mM} {pc : Nat} {L st : List Value} {n : Nat} {h : mH} {P : Option Value → Nat → mH → Prop} {a b : Int32} {off : Int} {tgt : Nat} (hd : decode k.2.1 pc = .ok (.if_icmp .lt off, 3)) (ht : (pc : Int) + off = (tgt : Int)) (K : (a < b) → G g d x y k tgt L (st) n h P) (K2 : ¬ (a < b) → G g d x y k (pc + 3) L (st) n h P) : G g d x y k pc L (.int b :: .int a :: st) n h P := by
  intro p e R s m args below meth c H locs cells slots ls S B C F E
  exact lv_icmp_lt S.1 S.2.1 hd ht (fun q => K q p e R s m args below meth c H locs cells slots ls S B C F E) (fun q => K2 q p e R s m args below meth c H locs cells slots ls S B C F E)
theorem G_if_ge {g : gT} {d x y : Nat} {k : mM} {pc : Nat} {L st : List Value} {n : Nat} {h : mH} {P : Option Value → Nat → mH → Prop} {a : Int32} {off : Int} {tgt : Nat} (hd : decode k.2.1 pc = .ok (.ifCond .ge off, 3)) (ht : (pc : Int) + off = (tgt : Int)) (K : (0 ≤ a) → G g d x y k tgt L (st) n h P) (K2 : ¬ (0 ≤ a) → G g d x y k (pc + 3) L (st) n h P) : G g d x y k pc L (.int a :: st) n h P := by
  intro p e R s m args below meth c H locs cells slots ls S B C F E
  exact lv_if_ge S.1 S.2.1 hd ht (fun q => K q p e R s m args below meth c H locs cells slots ls S B C F E) (fun q => K2 q p e R s m args below meth c H locs cells slots ls S B C F E)
theorem G_icmp_ge {g : gT} {d x y : Nat} {k : mM} {pc : Nat} {L st : List Value} {n : Nat} {h : mH} {P : Option Value → Nat → mH → Prop} {a b : Int32} {off : Int} {tgt : Nat} (hd : decode k.2.1 pc = .ok (.if_icmp .ge off, 3)) (ht : (pc : Int) + off = (tgt : Int)) (K : (b ≤ a) → G g d x y k tgt L (st) n h P) (K2 : ¬ (b ≤ a) → G g d x y k (pc + 3) L (st) n h P) : G g d x y k pc L (.int b :: .int a :: st) n h P := by
  intro p e R s m args below meth c H locs cells slots ls S B C F E
  exact lv_icmp_ge S.1 S.2.1 hd ht (fun q => K q p e R s m args below meth c H locs cells slots ls S B C F E) (fun q => K2 q p e R s m args below meth c H locs cells slots ls S B C F E)
theorem G_if_gt {g : gT} {d x y : Nat} {k : mM} {pc : Nat} {L st : List Value} {n : Nat} {h : mH} {P : Option Value → Nat → mH → Prop} {a : Int32} {off : Int} {tgt : Nat} (hd : decode k.2.1 pc = .ok (.ifCond .gt off, 3)) (ht : (pc : Int) + off = (tgt : Int)) (K : (0 < a) → G g d x y k tgt L (st) n h P) (K2 : ¬ (0 < a) → G g d x y k (pc + 3) L (st) n h P) : G g d x y k pc L (.int a :: st) n h P := by
  intro p e R s m args below meth c H locs cells slots ls S B C F E
  exact lv_if_gt S.1 S.2.1 hd ht (fun q => K q p e R s m args below meth c H locs cells slots ls S B C F E) (fun q => K2 q p e R s m args below meth c H locs cells slots ls S B C F E)
theorem G_icmp_gt {g : gT} {d x y : Nat} {k : mM} {pc : Nat} {L st : List Value} {n : Nat} {h : mH} {P : Option Value → Nat → mH → Prop} {a b : Int32} {off : Int} {tgt : Nat} (hd : decode k.2.1 pc = .ok (.if_icmp .gt off, 3)) (ht : (pc : Int) + off = (tgt : Int)) (K : (b < a) → G g d x y k tgt L (st) n h P) (K2 : ¬ (b < a) → G g d x y k (pc + 3) L (st) n h P) : G g d x y k pc L (.int b :: .int a :: st) n h P := by
  intro p e R s m args below meth c H locs cells slots ls S B C F E
  exact lv_icmp_gt S.1 S.2.1 hd ht (fun q => K q p e R s m args below meth c H locs cells slots ls S B C F E) (fun q => K2 q p e R s m args below meth c H locs cells slots ls S B C F E)
theorem G_if_le {g : gT} {d x y : Nat} {k : mM} {pc : Nat} {L st : List Value} {n : Nat} {h : mH} {P : Option Value → Nat → mH → Prop} {a : Int32} {off : Int} {tgt : Nat} (hd : decode k.2.1 pc = .ok (.ifCond .le off, 3)) (ht : (pc : Int) + off = (tgt : Int)) (K : (a ≤ 0) → G g d x y k tgt L (st) n h P) (K2 : ¬ (a ≤ 0) → G g d x y k (pc + 3) L (st) n h P) : G g d x y k pc L (.int a :: st) n h P := by
  intro p e R s m args below meth c H locs cells slots ls S B C F E
  exact lv_if_le S.1 S.2.1 hd ht (fun q => K q p e R s m args below meth c H locs cells slots ls S B C F E) (fun q => K2 q p e R s m args below meth c H locs cells slots ls S B C F E)
theorem G_icmp_le {g : gT} {d x y : Nat} {k : mM} {pc : Nat} {L st : List Value} {n : Nat} {h : mH} {P : Option Value → Nat → mH → Prop} {a b : Int32} {off : Int} {tgt : Nat} (hd : decode k.2.1 pc = .ok (.if_icmp .le off, 3)) (ht : (pc : Int) + off = (tgt : Int)) (K : (a ≤ b) → G g d x y k tgt L (st) n h P) (K2 : ¬ (a ≤ b) → G g d x y k (pc + 3) L (st) n h P) : G g d x y k pc L (.int b :: .int a :: st) n h P := by
  intro p e R s m args below meth c H locs cells slots ls S B C F E
  exact lv_icmp_le S.1 S.2.1 hd ht (fun q => K q p e R s m args below meth c H locs cells slots ls S B C F E) (fun q => K2 q p e R s m args below meth c H locs cells slots ls S B C F E)
theorem G_iload_n {g : gT} {d x y : Nat} {k : mM} {pc : Nat} {L st : List Value} {n : Nat} {h : mH} {P : Option Value → Nat → mH → Prop} {f : Fin 4} {i : Nat} {a : Int32} (hd : decode k.2.1 pc = .ok (.iload_n f, 1)) (hi : (f : Nat) = i) (hl : L[i]? = some (.int a)) (K : G g d x y k (pc + 1) L (.int a :: st) n h P) : G g d x y k pc L st n h P := by
  intro p e R s m args below meth c H locs cells slots ls S B C F E
  exact lv_iload_n S.1 S.2.1 hd hi (g_at E.2 hl rfl) (K p e R s m args below meth c H locs cells slots ls S B C F E)
theorem G_iload {g : gT} {d x y : Nat} {k : mM} {pc : Nat} {L st : List Value} {n : Nat} {h : mH} {P : Option Value → Nat → mH → Prop} {i : Nat} {a : Int32} (hd : decode k.2.1 pc = .ok (.iload i, 2)) (hl : L[i]? = some (.int a)) (K : G g d x y k (pc + 2) L (.int a :: st) n h P) : G g d x y k pc L st n h P := by
  intro p e R s m args below meth c H locs cells slots ls S B C F E
  exact lv_iload S.1 S.2.1 hd (g_at E.2 hl rfl) (K p e R s m args below meth c H locs cells slots ls S B C F E)
theorem G_lload_n {g : gT} {d x y : Nat} {k : mM} {pc : Nat} {L st : List Value} {n : Nat} {h : mH} {P : Option Value → Nat → mH → Prop} {f : Fin 4} {i : Nat} {a : Int64} (hd : decode k.2.1 pc = .ok (.lload_n f, 1)) (hi : (f : Nat) = i) (hl : L[i]? = some (.long a)) (K : G g d x y k (pc + 1) L (.long a :: st) n h P) : G g d x y k pc L st n h P := by
  intro p e R s m args below meth c H locs cells slots ls S B C F E
  exact lv_lload_n S.1 S.2.1 hd hi (g_at E.2 hl rfl) (K p e R s m args below meth c H locs cells slots ls S B C F E)
theorem G_lload {g : gT} {d x y : Nat} {k : mM} {pc : Nat} {L st : List Value} {n : Nat} {h : mH} {P : Option Value → Nat → mH → Prop} {i : Nat} {a : Int64} (hd : decode k.2.1 pc = .ok (.lload i, 2)) (hl : L[i]? = some (.long a)) (K : G g d x y k (pc + 2) L (.long a :: st) n h P) : G g d x y k pc L st n h P := by
  intro p e R s m args below meth c H locs cells slots ls S B C F E
  exact lv_lload S.1 S.2.1 hd (g_at E.2 hl rfl) (K p e R s m args below meth c H locs cells slots ls S B C F E)
theorem G_aload_n {g : gT} {d x y : Nat} {k : mM} {pc : Nat} {L st : List Value} {n : Nat} {h : mH} {P : Option Value → Nat → mH → Prop} {f : Fin 4} {i : Nat} {a : Nat} (hd : decode k.2.1 pc = .ok (.aload_n f, 1)) (hi : (f : Nat) = i) (hl : L[i]? = some (.ref a)) (K : G g d x y k (pc + 1) L (.ref a :: st) n h P) : G g d x y k pc L st n h P := by
  intro p e R s m args below meth c H locs cells slots ls S B C F E
  exact lv_aload_n S.1 S.2.1 hd hi (g_at E.2 hl rfl) (K p e R s m args below meth c H locs cells slots ls S B C F E)
theorem G_aload {g : gT} {d x y : Nat} {k : mM} {pc : Nat} {L st : List Value} {n : Nat} {h : mH} {P : Option Value → Nat → mH → Prop} {i : Nat} {a : Nat} (hd : decode k.2.1 pc = .ok (.aload i, 2)) (hl : L[i]? = some (.ref a)) (K : G g d x y k (pc + 2) L (.ref a :: st) n h P) : G g d x y k pc L st n h P := by
  intro p e R s m args below meth c H locs cells slots ls S B C F E
  exact lv_aload S.1 S.2.1 hd (g_at E.2 hl rfl) (K p e R s m args below meth c H locs cells slots ls S B C F E)
theorem G_aload_nN {g : gT} {d x y : Nat} {k : mM} {pc : Nat} {L st : List Value} {n : Nat} {h : mH} {P : Option Value → Nat → mH → Prop} {f : Fin 4} {i : Nat} (hd : decode k.2.1 pc = .ok (.aload_n f, 1)) (hi : (f : Nat) = i) (hl : L[i]? = some .null) (K : G g d x y k (pc + 1) L (.null :: st) n h P) : G g d x y k pc L st n h P := by
  intro p e R s m args below meth c H locs cells slots ls S B C F E
  exact lv_aload_nN S.1 S.2.1 hd hi (g_at E.2 hl rfl) (K p e R s m args below meth c H locs cells slots ls S B C F E)
theorem G_aloadN {g : gT} {d x y : Nat} {k : mM} {pc : Nat} {L st : List Value} {n : Nat} {h : mH} {P : Option Value → Nat → mH → Prop} {i : Nat} (hd : decode k.2.1 pc = .ok (.aload i, 2)) (hl : L[i]? = some .null) (K : G g d x y k (pc + 2) L (.null :: st) n h P) : G g d x y k pc L st n h P := by
  intro p e R s m args below meth c H locs cells slots ls S B C F E
  exact lv_aloadN S.1 S.2.1 hd (g_at E.2 hl rfl) (K p e R s m args below meth c H locs cells slots ls S B C F E)
theorem G_istore_n {g : gT} {d x y : Nat} {k : mM} {pc : Nat} {L st : List Value} {n : Nat} {h : mH} {P : Option Value → Nat → mH → Prop} {f : Fin 4} {i : Nat} {a : Int32} (hd : decode k.2.1 pc = .ok (.istore_n f, 1)) (hi : (f : Nat) = i) (hi2 : i < L.length) (hc : ((L[i - 1]?).all (fun w => w.category == 1)) = true) (K : G g d x y k (pc + 1) (L.set i (.int a)) st n h P) : G g d x y k pc L (.int a :: st) n h P := by
  intro p e R s m args below meth c H locs cells slots ls S B C F E
  exact lv_istore_n S.1 S.2.1 hd hi E.2 (by rw [← E.1]; exact hi2) rfl (fun ls2 hl2 => K p e R s m args below meth c H locs cells slots ls2 S B C F ⟨by rw [List.length_set]; exact E.1, g_store hi2 hc hl2⟩)
theorem G_istore {g : gT} {d x y : Nat} {k : mM} {pc : Nat} {L st : List Value} {n : Nat} {h : mH} {P : Option Value → Nat → mH → Prop} {i : Nat} {a : Int32} (hd : decode k.2.1 pc = .ok (.istore i, 2)) (hi2 : i < L.length) (hc : ((L[i - 1]?).all (fun w => w.category == 1)) = true) (K : G g d x y k (pc + 2) (L.set i (.int a)) st n h P) : G g d x y k pc L (.int a :: st) n h P := by
  intro p e R s m args below meth c H locs cells slots ls S B C F E
  exact lv_istore S.1 S.2.1 hd E.2 (by rw [← E.1]; exact hi2) rfl (fun ls2 hl2 => K p e R s m args below meth c H locs cells slots ls2 S B C F ⟨by rw [List.length_set]; exact E.1, g_store hi2 hc hl2⟩)
theorem G_astore_n {g : gT} {d x y : Nat} {k : mM} {pc : Nat} {L st : List Value} {n : Nat} {h : mH} {P : Option Value → Nat → mH → Prop} {f : Fin 4} {i : Nat} {a : Nat} (hd : decode k.2.1 pc = .ok (.astore_n f, 1)) (hi : (f : Nat) = i) (hi2 : i < L.length) (hc : ((L[i - 1]?).all (fun w => w.category == 1)) = true) (K : G g d x y k (pc + 1) (L.set i (.ref a)) st n h P) : G g d x y k pc L (.ref a :: st) n h P := by
  intro p e R s m args below meth c H locs cells slots ls S B C F E
  exact lv_astore_n S.1 S.2.1 hd hi E.2 (by rw [← E.1]; exact hi2) rfl (fun ls2 hl2 => K p e R s m args below meth c H locs cells slots ls2 S B C F ⟨by rw [List.length_set]; exact E.1, g_store hi2 hc hl2⟩)
theorem G_astore {g : gT} {d x y : Nat} {k : mM} {pc : Nat} {L st : List Value} {n : Nat} {h : mH} {P : Option Value → Nat → mH → Prop} {i : Nat} {a : Nat} (hd : decode k.2.1 pc = .ok (.astore i, 2)) (hi2 : i < L.length) (hc : ((L[i - 1]?).all (fun w => w.category == 1)) = true) (K : G g d x y k (pc + 2) (L.set i (.ref a)) st n h P) : G g d x y k pc L (.ref a :: st) n h P := by
  intro p e R s m args below meth c H locs cells slots ls S B C F E
  exact lv_astore S.1 S.2.1 hd E.2 (by rw [← E.1]; exact hi2) rfl (fun ls2 hl2 => K p e R s m args below meth c H locs cells slots ls2 S B C F ⟨by rw [List.length_set]; exact E.1, g_store hi2 hc hl2⟩)
theorem G_astore_nN {g : gT} {d x y : Nat} {k : mM} {pc : Nat} {L st : List Value} {n : Nat} {h : mH} {P : Option Value → Nat → mH → Prop} {f : Fin 4} {i : Nat} (hd : decode k.2.1 pc = .ok (.astore_n f, 1)) (hi : (f : Nat) = i) (hi2 : i < L.length) (hc : ((L[i - 1]?).all (fun w => w.category == 1)) = true) (K : G g d x y k (pc + 1) (L.set i (.null)) st n h P) : G g d x y k pc L (.null :: st) n h P := by
  intro p e R s m args below meth c H locs cells slots ls S B C F E
  exact lv_astore_nN S.1 S.2.1 hd hi E.2 (by rw [← E.1]; exact hi2) rfl (fun ls2 hl2 => K p e R s m args below meth c H locs cells slots ls2 S B C F ⟨by rw [List.length_set]; exact E.1, g_store hi2 hc hl2⟩)
theorem G_astoreN {g : gT} {d x y : Nat} {k : mM} {pc : Nat} {L st : List Value} {n : Nat} {h : mH} {P : Option Value → Nat → mH → Prop} {i : Nat} (hd : decode k.2.1 pc = .ok (.astore i, 2)) (hi2 : i < L.length) (hc : ((L[i - 1]?).all (fun w => w.category == 1)) = true) (K : G g d x y k (pc + 2) (L.set i (.null)) st n h P) : G g d x y k pc L (.null :: st) n h P := by
  intro p e R s m args below meth c H locs cells slots ls S B C F E
  exact lv_astoreN S.1 S.2.1 hd E.2 (by rw [← E.1]; exact hi2) rfl (fun ls2 hl2 => K p e R s m args below meth c H locs cells slots ls2 S B C F ⟨by rw [List.length_set]; exact E.1, g_store hi2 hc hl2⟩)
theorem G_iinc {g : gT} {d x y : Nat} {k : mM} {pc : Nat} {L st : List Value} {n : Nat} {h : mH} {P : Option Value → Nat → mH → Prop} {i : Nat} {j : Int} {a b : Int32} (hd : decode k.2.1 pc = .ok (.iinc i j, 3)) (hl : L[i]? = some (.int a)) (hv : a + Int32.ofInt j = b) (hc : ((L[i - 1]?).all (fun w => w.category == 1)) = true) (K : G g d x y k (pc + 3) (L.set i (.int b)) st n h P) : G g d x y k pc L st n h P := by
  intro p e R s m args below meth c H locs cells slots ls S B C F E
  have hi2 : i < L.length := (List.getElem?_eq_some_iff.mp hl).1
  obtain ⟨q, hq⟩ := List.getElem?_of_mem (g_Lv_mem (g := g) (q := (i, g_v g (.int a)))|>.mpr ⟨_, hl, rfl, rfl⟩)
  exact lv_iinc S.1 S.2.1 hd E.2 (k := q) hq hv (by rw [← E.1]; exact hi2) rfl (fun ls2 hl2 => K p e R s m args below meth c H locs cells slots ls2 S B C F ⟨by rw [List.length_set]; exact E.1, g_store (v := .int b) hi2 hc hl2⟩)
/-- a class of the game, by its number -/
def g_k (ci : Nat) (C : String) (T : u_T) (N : Nat) (ty : Nat → FieldType) : Prop := g_cl[ci]? = some (C, T, N) ∧ (∀ w ∈ u_ws C T N, w ∈ TB) ∧ (∀ k, k < N → parseFieldDescriptor (T k).2.2.1 = some (ty k)) ∧ (∀ a, a < N → ∀ b, b < N → a ≠ b → (T a).2.1 ≠ (T b).2.1)
/-- field j of class ci by pool entry index of class own -/
def g_f (own : String) (index ci j : Nat) : Prop := ∃ (C : String) (T : u_T) (N : Nat) (ty : Nat → FieldType), g_k ci C T N ty ∧ j < N ∧ ∃ ref, Cond.fieldLink own index ref (T j).2.1 (T j).2.2.1 ∈ TB ∧ (ref = (T j).1 ∨ Cond.sameField ref (T j).1 (T j).2.1 (T j).2.2.1 ∈ TB)
theorem g_same {args : Array Value} {s : State} {ref o n1 d1 : String} (hts : ∀ w ∈ TB, w.before args s = true) (h : ref = o ∨ Cond.sameField ref o n1 d1 ∈ TB) : ∀ z, s.fieldFound? o n1 d1 = some z → s.fieldFound? ref n1 d1 = some z := by
  intro z hz
  rcases h with h | h
  · rw [h]; exact hz
  · exact u_same (hts _ h) z hz
theorem G_get {g : gT} {d x y : Nat} {k : mM} {pc : Nat} {L st : List Value} {n : Nat} {h : mH} {P : Option Value → Nat → mH → Prop} {index ci j i : Nat} {fs : List Value} {v : Value} (hd : decode k.2.1 pc = .ok (.getfield index, 3)) (hf : g_f k.1.cls index ci j) (hi : h i = some (.inr (ci, fs))) (hv : fs[j]? = some v) (K : G g d x y k (pc + 3) L (v :: st) n h P) : G g d x y k pc L (.ref i :: st) n h P := by
  intro p e R s m args below meth c H locs cells slots ls S B C F E
  obtain ⟨C0, T, N, ty, ⟨k1, k2, k3, k4⟩, hj, ref, f1, f2⟩ := hf
  obtain ⟨-, -, -, -, -, -, hown, hts, hK, -⟩ := id S
  exact va_get (D := g_D g) S.1 S.2.1 hts k2 hown hK (g_P C hi) 0 (fs := fs.map (g_v g)) rfl k1 j hj (hts _ f1) (g_same hts f2) (v := g_v g v) (by rw [List.getElem?_map, hv]; rfl) hd (K p e R s m args below meth c H locs cells slots ls S B C F E)
/-- field j of class ci by pool entry index of class own, to be written: its type t, final or not -/
def g_fp (own : String) (index ci j : Nat) (t : FieldType) (fin : Bool) : Prop := ∃ (C : String) (T : u_T) (N : Nat) (ty : Nat → FieldType), g_k ci C T N ty ∧ j < N ∧ (∃ ref, Cond.fieldLink own index ref (T j).2.1 (T j).2.2.1 ∈ TB ∧ (ref = (T j).1 ∨ Cond.sameField ref (T j).1 (T j).2.1 (T j).2.2.1 ∈ TB)) ∧ ty j = t ∧ (T j).2.2.2 = fin ∧ (fin = true → (T j).1 = own)
def g_fit (t : FieldType) (v : Value) : Prop := ∀ g : gT, narrow t (g_v g v) = g_v g v ∧ fits t (g_v g v) = true
theorem g_fit_i {a : Int32} : g_fit .int (.int a) := fun _ => ⟨rfl, rfl⟩
theorem g_fit_o {C : String} {i : Nat} : g_fit (.object C) (.ref i) := fun _ => ⟨rfl, rfl⟩
theorem g_fit_on {C : String} : g_fit (.object C) .null := fun _ => ⟨rfl, rfl⟩
theorem g_fit_a {t : FieldType} {i : Nat} : g_fit (.array t) (.ref i) := fun _ => ⟨rfl, rfl⟩
theorem G_put {g : gT} {d x y : Nat} {k : mM} {pc : Nat} {L st : List Value} {n : Nat} {h : mH} {P : Option Value → Nat → mH → Prop} {index ci j i : Nat} {t : FieldType} {fs : List Value} {v : Value} (hd : decode k.2.1 pc = .ok (.putfield index, 3)) (hf : g_fp k.1.cls index ci j t false) (hi : h i = some (.inr (ci, fs))) (hl : j < fs.length) (hv : g_fit t v) (K : G g d x y k (pc + 3) L st n (va_up h i (some (.inr (ci, fs.set j v)))) P) : G g d x y k pc L (v :: .ref i :: st) n h P := by
  intro p e R s m args below meth c H locs cells slots ls S B C F E
  obtain ⟨C0, T, N, ty, ⟨k1, k2, k3, k4⟩, hj, ⟨ref, f1, f2⟩, f3, f4, -⟩ := hf
  obtain ⟨hx, hb, -, -, -, -, hown, hts, hK, -⟩ := id S
  have hap := va_apart (own := k.1.cls) hts k2 ty k3 k4 hK k1
  obtain ⟨i1, i2, r, h1, cell, q1, q2, q3, q4⟩ := C.2.2 i _ hi
  have hr : r = (C0, T, N) := Option.some.inj (h1.symm.trans k1)
  subst hr
  obtain ⟨hS, hfc, kC, hkC, hkind⟩ := hK.1 ci _ k1
  obtain ⟨cf, kf, fi, f, hi9, hsl⟩ := hS j hj
  have hlay := hts _ (k2 _ (u_in_lay hj))
  unfold u_lay at hlay
  rw [if_neg (by rw [f4]; decide)] at hlay
  have hst := (u_facts hfc hkC (u_lays hts k2 hj) hi9).1
  have h6 := u_store hfc hkC hkind hlay hi9 ((k3 j hj).trans (by rw [f3])) (hv g).1 (hv g).2
  refine W.putK hx hb (f := f) ⟨hown, hts _ f1, ⟨_, _, _, g_same hts f2 _ hi9⟩, hst⟩ (by rw [q2]; exact h6) q1 q3 (by rw [hsl]; exact k2_hasslot (q4 j hj)) rfl rfl hd fun H1 e1 e2 e3 => ?_
  rw [hsl] at e1 ⊢
  refine K p e R s m args below meth c H1 _ cells slots ls S B (C.put hi ?_ e2 e3) (g_S.put F e2 e3 i1) E
  refine ⟨_, k1, ?_⟩
  show t_OB _ _ _ _ _ (vp_V ((fs.set j v).map (g_v g)))
  rw [List.map_set]
  exact t_OB.to (V := updV (vp_V (fs.map (g_v g))) j (g_v g v)) ⟨_, e1, q2, q3, t_set q4 hap hj _⟩ (fun a _ => vp_updV_set (by rw [List.length_map]; exact hl) _ a)
theorem G_putF {g : gT} {d x y : Nat} {k : mM} {pc : Nat} {L st : List Value} {n : Nat} {h : mH} {P : Option Value → Nat → mH → Prop} {index ci j i : Nat} {t : FieldType} {fs : List Value} {v : Value} (hd : decode k.2.1 pc = .ok (.putfield index, 3)) (hf : g_fp k.1.cls index ci j t true) (hin : k.1.name = "<init>") (hi : h i = some (.inr (ci, fs))) (hl : j < fs.length) (hv : g_fit t v) (K : G g d x y k (pc + 3) L st n (va_up h i (some (.inr (ci, fs.set j v)))) P) : G g d x y k pc L (v :: .ref i :: st) n h P := by
  intro p e R s m args below meth c H locs cells slots ls S B C F E
  obtain ⟨C0, T, N, ty, ⟨k1, k2, k3, k4⟩, hj, ⟨ref, f1, f2⟩, f3, f4, f5⟩ := hf
  have hdecl := f5 rfl
  obtain ⟨hx, hb, -, -, -, hnm, hown, hts, hK, -⟩ := id S
  have hap := va_apart (own := k.1.cls) hts k2 ty k3 k4 hK k1
  obtain ⟨i1, i2, r, h1, cell, q1, q2, q3, q4⟩ := C.2.2 i _ hi
  have hr : r = (C0, T, N) := Option.some.inj (h1.symm.trans k1)
  subst hr
  obtain ⟨hS, hfc, kC, hkC, hkind⟩ := hK.1 ci _ k1
  obtain ⟨cf, kf, fi, f, hi9, hsl⟩ := hS j hj
  have hlay := hts _ (k2 _ (u_in_lay hj))
  unfold u_lay at hlay
  rw [if_pos f4] at hlay
  have hst := (u_facts hfc hkC (u_lays hts k2 hj) hi9).1
  have hcf : m.cls = cf := by
    obtain ⟨_, _, c', _, _, _, -, -, hf', -, -, -, hown2, -⟩ := Cond.laysFinal_spec hlay
    have e1 : c' = cf := by have := hi9.symm.trans hf'; simp at this; exact this.1.symm
    rw [hdecl] at hown2
    rw [← e1]; exact Option.some.inj (hown.symm.trans hown2)
  have h6 := u_fits hfc hkC hkind (Or.inr hlay) hi9 ((k3 j hj).trans (by rw [f3])) (hv g).1 (hv g).2
  refine W.putFinK hx hb hown (hts _ f1) (g_same hts f2 _ hi9) hst hcf (hnm.trans hin) (by rw [q2]; exact h6) q1 q3 (by rw [hsl]; exact k2_hasslot (q4 j hj)) rfl rfl hd fun H1 e1 e2 e3 => ?_
  rw [hsl] at e1 ⊢
  refine K p e R s m args below meth c H1 _ cells slots ls S B (C.put hi ?_ e2 e3) (g_S.put F e2 e3 i1) E
  refine ⟨_, k1, ?_⟩
  show t_OB _ _ _ _ _ (vp_V ((fs.set j v).map (g_v g)))
  rw [List.map_set]
  exact t_OB.to (V := updV (vp_V (fs.map (g_v g))) j (g_v g v)) ⟨_, e1, q2, q3, t_set q4 hap hj _⟩ (fun a _ => vp_updV_set (by rw [List.length_map]; exact hl) _ a)
theorem g_B.use {R : Room} {d x y cells slots a b : Nat} (h : g_B R d x y cells slots) (ha : a ≤ x) (hb : b ≤ y) : g_B R d (x - a) (y - b) (cells + a) (slots + b) ∧ cells + a ≤ R.cells ∧ slots + b ≤ R.slots := by
  obtain ⟨h1, h2, h3, h4⟩ := h
  exact ⟨⟨h1, h2, by omega, by omega⟩, by omega, by omega⟩
/-- a class that a method makes, by pool entry index of class own -/
def g_nk (own : String) (index ci N : Nat) (fs : List Value) : Prop := ∃ (C : String) (T : u_T) (ty : Nat → FieldType), g_k ci C T N ty ∧ Cond.classLink own index C ∈ TB ∧ Cond.instantiable C N ∈ TB ∧ Cond.initialized C ∈ TB ∧ (∀ j, j < N → defaultValue (ty j) = vp_V fs j) ∧ ∀ g : gT, fs.map (g_v g) = fs
theorem G_new {g : gT} {d x y : Nat} {k : mM} {pc : Nat} {L st : List Value} {n : Nat} {h : mH} {P : Option Value → Nat → mH → Prop} {index ci N : Nat} {fs : List Value} (hd : decode k.2.1 pc = .ok (.new index, 3)) (hf : g_nk k.1.cls index ci N fs) (h1 : 1 ≤ x) (h2 : N ≤ y) (K : G g d (x - 1) (y - N) k (pc + 3) L (.ref n :: st) (n + 1) (va_up h n (some (.inr (ci, fs)))) P) : G g d x y k pc L st n h P := by
  intro p e R s m args below meth c H locs cells slots ls S B C F E
  obtain ⟨C0, T, ty, ⟨k1, k2, k3, k4⟩, c1, c2, c3, c4, c5⟩ := hf
  obtain ⟨hx, hb, -, -, -, hnm, hown, hts, hK, -⟩ := id S
  have hKn := hK.1 ci _ k1
  obtain ⟨B1, B2, B3⟩ := B.use h1 h2
  refine W.newcK hx hb hown (hts _ c1) (hts _ c2) (hts _ c3) rfl hd B2 B3 hKn.2.1 rfl fun H1 kC hkC e1 z1 o1 => ?_
  obtain ⟨C1, ea⟩ := C.new (c := .inr (ci, fs)) ⟨_, k1, by rw [c5 g]; exact (u_born ty hts k2 hKn hkC e1 k3).to c4⟩ z1 o1
  have := K p e R s m args below meth c H1 locs _ _ ls S B1 C1 (g_S.new F z1 o1) E
  rw [List.map_cons, show g_v g (.ref n) = .ref H.size from by rw [← ea]; rfl] at this
  exact this
theorem G_iald {g : gT} {d x y : Nat} {k : mM} {pc : Nat} {L st : List Value} {n : Nat} {h : mH} {P : Option Value → Nat → mH → Prop} {i N : Nat} {f : Nat → Int32} {a : Int32} (hd : decode k.2.1 pc = .ok (.iaload, 1)) (hi : h i = some (.inl (0, N, .inl f))) (ha : vp_in a N) (K : G g d x y k (pc + 1) L (.int (f a.toNatClampNeg) :: st) n h P) : G g d x y k pc L (.int a :: .ref i :: st) n h P := by
  intro p e R s m args below meth c H locs cells slots ls S B C F E
  exact va_iald (D := g_D g) (cl := g_cl) S.1 S.2.1 S.2.2.2.2.2.2.2.2.1 (g_P C hi) 0 0 (n := N) (f := f) rfl rfl ha hd (K p e R s m args below meth c H locs cells slots ls S B C F E)
theorem G_bald {g : gT} {d x y : Nat} {k : mM} {pc : Nat} {L st : List Value} {n : Nat} {h : mH} {P : Option Value → Nat → mH → Prop} {i N : Nat} {f : Nat → Int32} {a : Int32} (hd : decode k.2.1 pc = .ok (.baload, 1)) (hi : h i = some (.inl (1, N, .inl f))) (ha : vp_in a N) (K : G g d x y k (pc + 1) L (.int (f a.toNatClampNeg) :: st) n h P) : G g d x y k pc L (.int a :: .ref i :: st) n h P := by
  intro p e R s m args below meth c H locs cells slots ls S B C F E
  exact va_bald (D := g_D g) (cl := g_cl) S.1 S.2.1 S.2.2.2.2.2.2.2.2.1 (g_P C hi) 0 1 (n := N) (f := f) rfl rfl ha hd (K p e R s m args below meth c H locs cells slots ls S B C F E)
theorem G_zald {g : gT} {d x y : Nat} {k : mM} {pc : Nat} {L st : List Value} {n : Nat} {h : mH} {P : Option Value → Nat → mH → Prop} {i N : Nat} {f : Nat → Int32} {a : Int32} (hd : decode k.2.1 pc = .ok (.baload, 1)) (hi : h i = some (.inl (2, N, .inl f))) (ha : vp_in a N) (K : G g d x y k (pc + 1) L (.int (f a.toNatClampNeg) :: st) n h P) : G g d x y k pc L (.int a :: .ref i :: st) n h P := by
  intro p e R s m args below meth c H locs cells slots ls S B C F E
  exact va_zald (D := g_D g) (cl := g_cl) S.1 S.2.1 S.2.2.2.2.2.2.2.2.1 (g_P C hi) 0 2 (n := N) (f := f) rfl rfl ha hd (K p e R s m args below meth c H locs cells slots ls S B C F E)
theorem G_lald {g : gT} {d x y : Nat} {k : mM} {pc : Nat} {L st : List Value} {n : Nat} {h : mH} {P : Option Value → Nat → mH → Prop} {i N : Nat} {f : Nat → Int64} {a : Int32} (hd : decode k.2.1 pc = .ok (.laload, 1)) (hi : h i = some (.inl (3, N, .inr (.inl f)))) (ha : vp_in a N) (K : G g d x y k (pc + 1) L (.long (f a.toNatClampNeg) :: st) n h P) : G g d x y k pc L (.int a :: .ref i :: st) n h P := by
  intro p e R s m args below meth c H locs cells slots ls S B C F E
  exact va_lald (D := g_D g) (cl := g_cl) S.1 S.2.1 S.2.2.2.2.2.2.2.2.1 (g_P C hi) 0 3 (n := N) (f := f) rfl rfl ha hd (K p e R s m args below meth c H locs cells slots ls S B C F E)
theorem G_aald {g : gT} {d x y : Nat} {k : mM} {pc : Nat} {L st : List Value} {n : Nat} {h : mH} {P : Option Value → Nat → mH → Prop} {i N kd : Nat} {C0 : String} {f : Nat → Option Nat} {a : Int32} (hd : decode k.2.1 pc = .ok (.aaload, 1)) (hk : ∀ g : gT, (g_tys g)[kd]? = some (g_c g kd, .object C0)) (hi : h i = some (.inl (kd, N, .inr (.inr (.inr (.inr f)))))) (ha : vp_in a N) (K : G g d x y k (pc + 1) L (va_rf (f a.toNatClampNeg) :: st) n h P) : G g d x y k pc L (.int a :: .ref i :: st) n h P := by
  intro p e R s m args below meth c H locs cells slots ls S B C F E
  have K1 := K p e R s m args below meth c H locs cells slots ls S B C F E
  have e : g_v g (va_rf (f a.toNatClampNeg)) = va_rf ((f a.toNatClampNeg).map (g_ad g)) := by cases f a.toNatClampNeg <;> rfl
  rw [List.map_cons, e] at K1
  exact va_aldq (D := g_D g) (cl := g_cl) S.1 S.2.1 S.2.2.2.2.2.2.2.2.1 (g_P C hi) 0 kd (n := N) (f := fun j => (f j).map (g_ad g)) rfl (hk g) ha hd K1
theorem G_iast {g : gT} {d x y : Nat} {k : mM} {pc : Nat} {L st : List Value} {n : Nat} {h : mH} {P : Option Value → Nat → mH → Prop} {i N : Nat} {f : Nat → Int32} {a : Int32} {b : Int32} (hd : decode k.2.1 pc = .ok (.iastore, 1)) (hi : h i = some (.inl (0, N, .inl f))) (ha : vp_in a N) (K : G g d x y k (pc + 1) L st n (va_up h i (some (.inl (0, N, .inl (upd f a.toNatClampNeg b))))) P) : G g d x y k pc L (.int b :: .int a :: .ref i :: st) n h P := by
  intro p e R s m args below meth c H locs cells slots ls S B C F E
  have i1 := (C.2.2 i _ hi).1
  refine W.iast S.1 S.2.1 (C.2.2 i _ hi).2.2 ((S.2.2.2.2.2.2.2.2.1.2 0 _ rfl).1 N (fun j => .int (f j))) (fun q => by cases q) (by show ¬ (a < 0 ∨ (arrV _ _ _).slots.size ≤ _); rw [arrV_size]; exact ha) rfl rfl hd fun H1 e1 e2 e3 => ?_
  refine K p e R s m args below meth c H1 _ cells slots ls S B (C.put hi ?_ e2 e3) (g_S.put F e2 e3 i1) E
  show H1[_]? = some (arrV (g_c g 0) N (fun j => .int ((upd f a.toNatClampNeg b) j)))
  rw [e1]
  show some ((arrV (g_c g 0) N (fun j => .int (f j))).setSlot _ _) = _
  rw [arrV_store]
  congr 2
  funext q
  by_cases hq : q = a.toNatClampNeg
  · subst hq; simp [updV, upd, vp_updL]
  · simp [updV, upd, vp_updL, hq]
theorem G_bast {g : gT} {d x y : Nat} {k : mM} {pc : Nat} {L st : List Value} {n : Nat} {h : mH} {P : Option Value → Nat → mH → Prop} {i N : Nat} {f : Nat → Int32} {a : Int32} {b : Int32} (hd : decode k.2.1 pc = .ok (.bastore, 1)) (hi : h i = some (.inl (1, N, .inl f))) (ha : vp_in a N) (K : G g d x y k (pc + 1) L st n (va_up h i (some (.inl (1, N, .inl (upd f a.toNatClampNeg (vp_nar .byte b)))))) P) : G g d x y k pc L (.int b :: .int a :: .ref i :: st) n h P := by
  intro p e R s m args below meth c H locs cells slots ls S B C F E
  have i1 := (C.2.2 i _ hi).1
  refine W.bast S.1 S.2.1 (C.2.2 i _ hi).2.2 ((S.2.2.2.2.2.2.2.2.1.2 1 _ rfl).1 N (fun j => .int (f j))) (fun q => by cases q) (by show ¬ (a < 0 ∨ (arrV _ _ _).slots.size ≤ _); rw [arrV_size]; exact ha) rfl rfl hd fun H1 e1 e2 e3 => ?_
  refine K p e R s m args below meth c H1 _ cells slots ls S B (C.put hi ?_ e2 e3) (g_S.put F e2 e3 i1) E
  show H1[_]? = some (arrV (g_c g 1) N (fun j => .int ((upd f a.toNatClampNeg (vp_nar .byte b)) j)))
  rw [e1]
  rw [show narrow .byte (.int b) = .int (vp_nar .byte b) from rfl]
  show some ((arrV (g_c g 1) N (fun j => .int (f j))).setSlot _ _) = _
  rw [arrV_store]
  congr 2
  funext q
  by_cases hq : q = a.toNatClampNeg
  · subst hq; simp [updV, upd, vp_updL]
  · simp [updV, upd, vp_updL, hq]
theorem G_zast {g : gT} {d x y : Nat} {k : mM} {pc : Nat} {L st : List Value} {n : Nat} {h : mH} {P : Option Value → Nat → mH → Prop} {i N : Nat} {f : Nat → Int32} {a : Int32} {b : Int32} (hd : decode k.2.1 pc = .ok (.bastore, 1)) (hi : h i = some (.inl (2, N, .inl f))) (ha : vp_in a N) (K : G g d x y k (pc + 1) L st n (va_up h i (some (.inl (2, N, .inl (upd f a.toNatClampNeg (vp_nar .boolean b)))))) P) : G g d x y k pc L (.int b :: .int a :: .ref i :: st) n h P := by
  intro p e R s m args below meth c H locs cells slots ls S B C F E
  have i1 := (C.2.2 i _ hi).1
  refine W.zast S.1 S.2.1 (C.2.2 i _ hi).2.2 ((S.2.2.2.2.2.2.2.2.1.2 2 _ rfl).1 N (fun j => .int (f j))) (fun q => by cases q) (by show ¬ (a < 0 ∨ (arrV _ _ _).slots.size ≤ _); rw [arrV_size]; exact ha) rfl rfl hd fun H1 e1 e2 e3 => ?_
  refine K p e R s m args below meth c H1 _ cells slots ls S B (C.put hi ?_ e2 e3) (g_S.put F e2 e3 i1) E
  show H1[_]? = some (arrV (g_c g 2) N (fun j => .int ((upd f a.toNatClampNeg (vp_nar .boolean b)) j)))
  rw [e1]
  rw [show narrow .boolean (.int b) = .int (vp_nar .boolean b) from rfl]
  show some ((arrV (g_c g 2) N (fun j => .int (f j))).setSlot _ _) = _
  rw [arrV_store]
  congr 2
  funext q
  by_cases hq : q = a.toNatClampNeg
  · subst hq; simp [updV, upd, vp_updL]
  · simp [updV, upd, vp_updL, hq]
theorem G_last {g : gT} {d x y : Nat} {k : mM} {pc : Nat} {L st : List Value} {n : Nat} {h : mH} {P : Option Value → Nat → mH → Prop} {i N : Nat} {f : Nat → Int64} {a : Int32} {b : Int64} (hd : decode k.2.1 pc = .ok (.lastore, 1)) (hi : h i = some (.inl (3, N, .inr (.inl f)))) (ha : vp_in a N) (K : G g d x y k (pc + 1) L st n (va_up h i (some (.inl (3, N, .inr (.inl (vp_updL f a.toNatClampNeg b)))))) P) : G g d x y k pc L (.long b :: .int a :: .ref i :: st) n h P := by
  intro p e R s m args below meth c H locs cells slots ls S B C F E
  have i1 := (C.2.2 i _ hi).1
  refine W.last S.1 S.2.1 (C.2.2 i _ hi).2.2 ((S.2.2.2.2.2.2.2.2.1.2 3 _ rfl).1 N (fun j => .long (f j))) (fun q => by cases q) (by show ¬ (a < 0 ∨ (arrV _ _ _).slots.size ≤ _); rw [arrV_size]; exact ha) rfl rfl hd fun H1 e1 e2 e3 => ?_
  refine K p e R s m args below meth c H1 _ cells slots ls S B (C.put hi ?_ e2 e3) (g_S.put F e2 e3 i1) E
  show H1[_]? = some (arrV (g_c g 3) N (fun j => .long ((vp_updL f a.toNatClampNeg b) j)))
  rw [e1]
  show some ((arrV (g_c g 3) N (fun j => .long (f j))).setSlot _ _) = _
  rw [arrV_store]
  congr 2
  funext q
  by_cases hq : q = a.toNatClampNeg
  · subst hq; simp [updV, upd, vp_updL]
  · simp [updV, upd, vp_updL, hq]
theorem G_alen {g : gT} {d x y : Nat} {k : mM} {pc : Nat} {L st : List Value} {n : Nat} {h : mH} {P : Option Value → Nat → mH → Prop} {i N kd : Nat} {f} {t : FieldType} (hd : decode k.2.1 pc = .ok (.arraylength, 1)) (hk : ∀ g : gT, (g_tys g)[kd]? = some (g_c g kd, t)) (hi : h i = some (.inl (kd, N, f))) (K : G g d x y k (pc + 1) L (.int (nI N) :: st) n h P) : G g d x y k pc L (.ref i :: st) n h P := by
  intro p e R s m args below meth c H locs cells slots ls S B C F E
  refine va_alen (D := g_D g) (cl := g_cl) S.1 S.2.1 S.2.2.2.2.2.2.2.2.1 (g_P C hi) 0 kd (x := g_a g (N, f)) rfl (hk g) ?_ hd (K p e R s m args below meth c H locs cells slots ls S B C F E)
  show Int32.ofNat (g_a g (N, f)).1 = nI N
  rcases f with f | f | f | f | f <;> rfl
theorem G_alenS {g : gT} {d x y : Nat} {k : mM} {pc : Nat} {L st : List Value} {n : Nat} {h : mH} {P : Option Value → Nat → mH → Prop} (hd : decode k.2.1 pc = .ok (.arraylength, 1)) (K : G g d x y k (pc + 1) L (.int (nI (g_n g)) :: st) n h P) : G g d x y k pc L (.ref 0 :: st) n h P := by
  intro p e R s m args below meth c H locs cells slots ls S B C F E
  obtain ⟨a1, a2, a3, a4, a5, a6, a7, a8, a9, a10, a11⟩ := S.2.2.2.2.2.2.2.2.2
  have h0 := a10 0 (by omega)
  exact va_slen (b := g_o g 0) S.1 S.2.1 a9 (by omega) (by show ¬ g_z g ≤ _; omega) F hd (K p e R s m args below meth c H locs cells slots ls S B C F E)
theorem G_aldS {g : gT} {d x y : Nat} {k : mM} {pc : Nat} {L st : List Value} {n : Nat} {h : mH} {P : Option Value → Nat → mH → Prop} {a : Int32} (hd : decode k.2.1 pc = .ok (.iaload, 1)) (ha : vp_in a (g_n g)) (K : G g d x y k (pc + 1) L (.int (g_x g a.toNatClampNeg) :: st) n h P) : G g d x y k pc L (.int a :: .ref 0 :: st) n h P := by
  intro p e R s m args below meth c H locs cells slots ls S B C F E
  obtain ⟨a1, a2, a3, a4, a5, a6, a7, a8, a9, a10, a11⟩ := S.2.2.2.2.2.2.2.2.2
  have h0 := a10 0 (by omega)
  exact va_sld (b := g_o g 0) S.1 S.2.1 a9 (by omega) (by show ¬ g_z g ≤ _; omega) F ha hd (K p e R s m args below meth c H locs cells slots ls S B C F E)
theorem G_alenE {g : gT} {d x y : Nat} {k : mM} {pc : Nat} {L st : List Value} {n : Nat} {h : mH} {P : Option Value → Nat → mH → Prop} (hd : decode k.2.1 pc = .ok (.arraylength, 1)) (K : G g d x y k (pc + 1) L (.int 0 :: st) n h P) : G g d x y k pc L (.ref 1 :: st) n h P := by
  intro p e R s m args below meth c H locs cells slots ls S B C F E
  obtain ⟨a1, a2, a3, a4, a5, a6, a7, a8, a9, a10, a11⟩ := S.2.2.2.2.2.2.2.2.2
  exact va_tlen S.1 S.2.1 a3 F (v := 0) rfl hd (K p e R s m args below meth c H locs cells slots ls S B C F E)
theorem G_getsE {g : gT} {d x y : Nat} {k : mM} {pc : Nat} {L st : List Value} {n : Nat} {h : mH} {P : Option Value → Nat → mH → Prop} {index : Nat} (hd : decode k.2.1 pc = .ok (.getstatic index, 3)) (hl : Cond.fieldLink k.1.cls index "java/util/ArrayList" "DEFAULTCAPACITY_EMPTY_ELEMENTDATA" "[Ljava/lang/Object;" ∈ TB) (K : G g d x y k (pc + 3) L (.ref 1 :: st) n h P) : G g d x y k pc L st n h P := by
  intro p e R s m args below meth c H locs cells slots ls S B C F E
  obtain ⟨a1, a2, a3, a4, a5, a6, a7, a8, a9, a10, a11⟩ := S.2.2.2.2.2.2.2.2.2
  obtain ⟨hx, hb, -, -, -, hnm, hown, hts, hK, -⟩ := id S
  exact va_gets hx hb a2 F hown (hts _ hl) (fun _ h9 => h9) hd (K p e R s m args below meth c H locs cells slots ls S B C F E)
theorem G_newa {g : gT} {d x y : Nat} {k : mM} {pc : Nat} {L st : List Value} {n : Nat} {h : mH} {P : Option Value → Nat → mH → Prop} {at9 : ArrayType} {t : FieldType} {kd N : Nat} {f} {a : Int32} (hd : decode k.2.1 pc = .ok (.newarray at9, 2)) (ht : newarray.typeOf at9 = t) (hw : Cond.arrayClass t ∈ TB) (hk : ∀ g : gT, (g_tys g)[kd]? = some (g_c g kd, t)) (hr : ∀ U c, va_RA U c t → U.vm.findClass ("[" ++ t.toString) = some c) (hf : ∀ c, vp_cell c (N, f) = arrV c N (fun _ => defaultValue t)) (hg : ∀ g : gT, g_a g (N, f) = (N, f)) (h0 : ¬ a < 0) (hN : a.toNatClampNeg = N) (hb8 : N * 8 ≤ 536870912) (hcb : componentBytes t ≤ 8) (h1 : 1 ≤ x) (h2 : N ≤ y) (K : G g d (x - 1) (y - N) k (pc + 2) L (.ref n :: st) (n + 1) (va_up h n (some (.inl (kd, N, f)))) P) : G g d x y k pc L (.int a :: st) n h P := by
  intro p e R s m args below meth c H locs cells slots ls S B C F E
  subst ht
  obtain ⟨hx, hb, -, -, -, hnm, hown, hts, hK, -⟩ := id S
  obtain ⟨B1, B2, B3⟩ := B.use h1 h2
  refine va_newaK hx hb (hts _ hw) rfl hd rfl h0 hN (Nat.le_trans (Nat.mul_le_mul_left _ hcb) hb8) B2 B3 rfl fun H1 cA e1 z1 o1 hAr hNm => ?_
  have ec : cA = g_c g kd := Option.some.inj (hNm.symm.trans (hr _ _ (hK.2 kd _ (hk g)).2))
  subst ec
  obtain ⟨C1, ea⟩ := C.new (c := .inl (kd, N, f)) (by show H1[H.size]? = some (vp_cell _ (g_a g (N, f))); rw [hg, hf]; exact e1) z1 o1
  have := K p e R s m args below meth c H1 locs _ _ ls S B1 C1 (g_S.new F z1 o1) E
  rw [List.map_cons, show g_v g (.ref n) = .ref H.size from by rw [← ea]; rfl] at this
  exact this
theorem G_anew {g : gT} {d x y : Nat} {k : mM} {pc : Nat} {L st : List Value} {n : Nat} {h : mH} {P : Option Value → Nat → mH → Prop} {index kd N : Nat} {C0 : String} {a : Int32} (hd : decode k.2.1 pc = .ok (.anewarray index, 3)) (hl : Cond.classLink k.1.cls index C0 ∈ TB) (hk : ∀ g : gT, (g_tys g)[kd]? = some (g_c g kd, .object C0)) (hC0 : C0 = "java/lang/Object" ∨ C0 = "ToolHouse$Ask") (h0 : ¬ a < 0) (hN : a.toNatClampNeg = N) (hb4 : N * 4 ≤ 536870912) (h1 : 1 ≤ x) (h2 : N ≤ y) (K : G g d (x - 1) (y - N) k (pc + 3) L (.ref n :: st) (n + 1) (va_up h n (some (.inl (kd, N, .inr (.inr (.inr (.inr (fun _ => none)))))))) P) : G g d x y k pc L (.int a :: st) n h P := by
  intro p e R s m args below meth c H locs cells slots ls S B C F E
  subst hN
  obtain ⟨hx, hb, -, -, -, hnm, hown, hts, hK, hO⟩ := id S
  obtain ⟨a1, a2, a3, a4, a5, a6, a7, a8, a9, a10, a11⟩ := hO
  obtain ⟨B1, B2, B3⟩ := B.use h1 h2
  have hover : va_AO C0 s := by rcases hC0 with rfl | rfl; exact a5; exact a6
  refine W.anew hx hb hown (hts _ hl) (va_AO.use hover) rfl hd rfl h0 hb4 B2 B3 fun cA kA comp f1 f2 f3 f4 => ?_
  generalize hH1 : H.push ({ cls := cA, slots := Array.replicate a.toNatClampNeg .null, vm := .none } : Cell) = H1
  have z1 : H1.size = H.size + 1 := by rw [← hH1, Array.size_push]
  have e1 : H1[H.size]? = some (arrV cA a.toNatClampNeg (fun _ => .null)) := by rw [← hH1, Array.getElem?_push_size, ← arrV_new]
  have o1 : ∀ q : Nat, q < H.size → H1[q]? = H[q]? := fun q hq => by rw [← hH1, Array.getElem?_push, if_neg (Nat.ne_of_lt hq)]
  obtain ⟨kA2, comp2, r1, r2, r3, r4⟩ := (hK.2 kd _ (hk g)).2
  have ec : cA = g_c g kd := Option.some.inj (f1.symm.trans r4)
  subst ec
  obtain ⟨C1, ea⟩ := C.new (c := .inl (kd, a.toNatClampNeg, .inr (.inr (.inr (.inr (fun _ => none)))))) (by show H1[H.size]? = some (arrV _ _ (fun j => va_rf (Option.map (g_ad g) none))); exact e1) z1 o1
  have := K p e R s m args below meth c H1 locs _ _ ls S B1 C1 (g_S.new F z1 o1) E
  rw [List.map_cons, show g_v g (.ref n) = .ref H.size from by rw [← ea]; rfl] at this
  exact this
/-- an object of class ci stored into an array of references of kind kd -/
theorem G_aast {g : gT} {d x y : Nat} {k : mM} {pc : Nat} {L st : List Value} {n : Nat} {h : mH} {P : Option Value → Nat → mH → Prop} {i i2 N kd ci : Nat} {C0 C1 : String} {fs : List Value} {r : vw_C} {f : Nat → Option Nat} {a : Int32} (hd : decode k.2.1 pc = .ok (.aastore, 1)) (hk : ∀ g : gT, (g_tys g)[kd]? = some (g_c g kd, .object C0)) (hc : g_cl[ci]? = some r) (hC1 : r.1 = C1) (hcs : C1 = C0 ∨ Cond.castable C1 C0 ∈ NW) (hi : h i = some (.inl (kd, N, .inr (.inr (.inr (.inr f)))))) (h2 : h i2 = some (.inr (ci, fs))) (ha : vp_in a N) (K : G g d x y k (pc + 1) L st n (va_up h i (some (.inl (kd, N, .inr (.inr (.inr (.inr (va_up f a.toNatClampNeg (some i2))))))))) P) : G g d x y k pc L (.ref i2 :: .int a :: .ref i :: st) n h P := by
  intro p e R s m args below meth c H locs cells slots ls S B C F E
  subst hC1
  obtain ⟨hx, hb, -, -, -, hnm, hown, hts, hK, hO⟩ := id S
  have hlt : a.toNatClampNeg < N := Nat.not_le.mp fun q => ha (Or.inr q)
  have h0 : ¬ a < 0 := fun q => ha (Or.inl q)
  obtain ⟨i1, -, hci⟩ := C.2.2 i _ hi
  obtain ⟨-, -, r', hr', cellV, g1, g2, g3, -⟩ := C.2.2 i2 _ h2
  have hcls := (hK.1 ci r hc).2
  obtain ⟨kA, comp, k1, k2, k3, -⟩ := (hK.2 kd _ (hk g)).2
  obtain ⟨kE, hkE, -⟩ := Vm.findClass_spec k3
  obtain ⟨kC, hkC, -⟩ := hcls.2
  have hasg : s.vm.assignable ((g_D g).1 ci) comp = true := by
    rcases hcs with hcs | hcs
    · rw [hcs] at hcls
      exact vb_asgS comp _ k3 hcls.1
    · exact vb_asgC (hO.1 _ hcs) comp _ k3 hcls.1
  refine W.aast hx hb hci (fun q h => by cases h) (fun h => by cases h) k1 k2 rfl hkE ⟨h0, by show _ < (arrV _ _ _).slots.size; rw [arrV_size]; exact hlt⟩ g1 (fun q h => by rw [g3] at h; cases h) (by rw [g2]; exact hkC) (by rw [g2]; exact hasg) rfl rfl hd fun H1 e1 e2 e3 => ?_
  refine K p e R s m args below meth c H1 _ cells slots ls S B (C.put hi ?_ e2 e3) (g_S.put F e2 e3 i1) E
  show H1[_]? = some (arrV (g_c g kd) N (fun j => va_rf ((va_up f a.toNatClampNeg (some i2) j).map (g_ad g))))
  rw [e1]
  show some ((arrV (g_c g kd) N (fun j => va_rf ((f j).map (g_ad g)))).setSlot _ _) = _
  rw [arrV_store]
  congr 2
  funext q
  by_cases hq : q = a.toNatClampNeg
  · subst hq; simp [updV, va_up, va_rf]
  · simp [updV, va_up, hq]
theorem G_ifnull {g : gT} {d x y : Nat} {k : mM} {pc : Nat} {L st : List Value} {n : Nat} {h : mH} {P : Option Value → Nat → mH → Prop} {i : Nat} {off : Int} (hd : decode k.2.1 pc = .ok (.ifnull off, 3)) (K : G g d x y k (pc + 3) L (st) n h P) : G g d x y k pc L (.ref i :: st) n h P := by
  intro p e R s m args below meth c H locs cells slots ls S B C F E
  exact lv_ifnull S.1 S.2.1 hd  (K p e R s m args below meth c H locs cells slots ls S B C F E)
theorem G_ifnullN {g : gT} {d x y : Nat} {k : mM} {pc : Nat} {L st : List Value} {n : Nat} {h : mH} {P : Option Value → Nat → mH → Prop} {off : Int} {tgt : Nat} (hd : decode k.2.1 pc = .ok (.ifnull off, 3)) (ht : (pc : Int) + off = (tgt : Int)) (K : G g d x y k tgt L (st) n h P) : G g d x y k pc L (.null :: st) n h P := by
  intro p e R s m args below meth c H locs cells slots ls S B C F E
  exact lv_ifnullN S.1 S.2.1 hd ht (K p e R s m args below meth c H locs cells slots ls S B C F E)
theorem G_ifnonnull {g : gT} {d x y : Nat} {k : mM} {pc : Nat} {L st : List Value} {n : Nat} {h : mH} {P : Option Value → Nat → mH → Prop} {i : Nat} {off : Int} {tgt : Nat} (hd : decode k.2.1 pc = .ok (.ifnonnull off, 3)) (ht : (pc : Int) + off = (tgt : Int)) (K : G g d x y k tgt L (st) n h P) : G g d x y k pc L (.ref i :: st) n h P := by
  intro p e R s m args below meth c H locs cells slots ls S B C F E
  exact lv_ifnonnull S.1 S.2.1 hd ht (K p e R s m args below meth c H locs cells slots ls S B C F E)
theorem G_ifnonnullN {g : gT} {d x y : Nat} {k : mM} {pc : Nat} {L st : List Value} {n : Nat} {h : mH} {P : Option Value → Nat → mH → Prop} {off : Int} (hd : decode k.2.1 pc = .ok (.ifnonnull off, 3)) (K : G g d x y k (pc + 3) L (st) n h P) : G g d x y k pc L (.null :: st) n h P := by
  intro p e R s m args below meth c H locs cells slots ls S B C F E
  exact lv_ifnonnullN S.1 S.2.1 hd  (K p e R s m args below meth c H locs cells slots ls S B C F E)
theorem g_S.old {g : gT} {k : mM} {p : Program} {s : State} {m : MethodId} {args : Array Value} {meth : Method} {c : Code} (S : g_S g k p s m args meth c) : ∀ i, i < 8 → g_o g i < g_z g := by
  obtain ⟨-, -, -, -, -, -, -, -, -, -, -, -, -, -, -, -, -, -, a10, -⟩ := S
  exact a10
theorem g_rf (g : gT) (o : Option Nat) : g_v g (va_rf o) = va_rf (o.map (g_ad g)) := by cases o <;> rfl
theorem g_rf_cat (o : Option Nat) : (va_rf o).category = 1 := by cases o <;> rfl
/-- two references that can be told apart by their numbers -/
def g_ap (a b : Option Nat) : Prop := ∀ i j, a = some i → b = some j → i = j ∨ 8 ≤ i ∨ 8 ≤ j
theorem g_ap_iff {g : gT} (ho : ∀ i, i < 8 → g_o g i < g_z g) {a b : Option Nat} (h : g_ap a b) : a.map (g_ad g) = b.map (g_ad g) ↔ a = b := by
  cases a with
  | none => cases b <;> simp
  | some i => cases b with
    | none => simp
    | some j =>
      simp only [Option.map_some, Option.some.injEq]
      constructor
      · intro e
        rcases h i j rfl rfl with h1 | h1 | h1
        · exact h1
        · by_cases h2 : 8 ≤ j
          · exact g_ad_inj g h1 h2 e
          · have := ho j (by omega)
            rw [g_ad_own g h1, show g_ad g j = g_o g j by simp [g_ad, Nat.lt_of_not_le h2]] at e
            omega
        · by_cases h2 : 8 ≤ i
          · exact g_ad_inj g h2 h1 e
          · have := ho i (by omega)
            rw [g_ad_own g h1, show g_ad g i = g_o g i by simp [g_ad, Nat.lt_of_not_le h2]] at e
            omega
      · intro e; rw [e]
theorem G_acmp_eq {g : gT} {d x y : Nat} {k : mM} {pc : Nat} {L st : List Value} {n : Nat} {h : mH} {P : Option Value → Nat → mH → Prop} {a b : Option Nat} {off : Int} {tgt : Nat} (hd : decode k.2.1 pc = .ok (.if_acmp .eq off, 3)) (ht : (pc : Int) + off = (tgt : Int)) (hap : g_ap a b) (K : a = b → G g d x y k tgt L st n h P) (K2 : ¬ a = b → G g d x y k (pc + 3) L st n h P) : G g d x y k pc L (va_rf b :: va_rf a :: st) n h P := by
  intro p e R s m args below meth c H locs cells slots ls S B C F E
  have ha := g_ap_iff (g_S.old S) hap
  rw [List.map_cons, List.map_cons, g_rf, g_rf]
  exact lv_acmp_eq S.1 S.2.1 hd ht (fun q => K (ha.mp q) p e R s m args below meth c H locs cells slots ls S B C F E) (fun q => K2 (fun z => q (ha.mpr z)) p e R s m args below meth c H locs cells slots ls S B C F E)
theorem G_acmp_ne {g : gT} {d x y : Nat} {k : mM} {pc : Nat} {L st : List Value} {n : Nat} {h : mH} {P : Option Value → Nat → mH → Prop} {a b : Option Nat} {off : Int} {tgt : Nat} (hd : decode k.2.1 pc = .ok (.if_acmp .ne off, 3)) (ht : (pc : Int) + off = (tgt : Int)) (hap : g_ap a b) (K : ¬ a = b → G g d x y k tgt L st n h P) (K2 : a = b → G g d x y k (pc + 3) L st n h P) : G g d x y k pc L (va_rf b :: va_rf a :: st) n h P := by
  intro p e R s m args below meth c H locs cells slots ls S B C F E
  have ha := g_ap_iff (g_S.old S) hap
  rw [List.map_cons, List.map_cons, g_rf, g_rf]
  exact lv_acmp_ne S.1 S.2.1 hd ht (fun q => K (fun z => q (ha.mpr z)) p e R s m args below meth c H locs cells slots ls S B C F E) (fun q => K2 (ha.mp q) p e R s m args below meth c H locs cells slots ls S B C F E)
theorem G_cast {g : gT} {d x y : Nat} {k : mM} {pc : Nat} {L st : List Value} {n : Nat} {h : mH} {P : Option Value → Nat → mH → Prop} {index i ci : Nat} {fs : List Value} {r : vw_C} (hd : decode k.2.1 pc = .ok (.checkcast index, 3)) (hc : g_cl[ci]? = some r) (hl : Cond.classLink k.1.cls index r.1 ∈ TB) (hi : h i = some (.inr (ci, fs))) (K : G g d x y k (pc + 3) L (.ref i :: st) n h P) : G g d x y k pc L (.ref i :: st) n h P := by
  intro p e R s m args below meth c H locs cells slots ls S B C F E
  obtain ⟨hx, hb, -, -, -, hnm, hown, hts, hK, hO⟩ := id S
  exact va_castS hx hb hown (hts _ hl) (hK.1 ci r hc).2 (va_recv hK (g_P C hi) (q0 := 0) (ci := ci) hc rfl) hd (K p e R s m args below meth c H locs cells slots ls S B C F E)
theorem G_castN {g : gT} {d x y : Nat} {k : mM} {pc : Nat} {L st : List Value} {n : Nat} {h : mH} {P : Option Value → Nat → mH → Prop} {index : Nat} (hd : decode k.2.1 pc = .ok (.checkcast index, 3)) (K : G g d x y k (pc + 3) L (.null :: st) n h P) : G g d x y k pc L (.null :: st) n h P := by
  intro p e R s m args below meth c H locs cells slots ls S B C F E
  exact lv_castN S.1 S.2.1 hd (K p e R s m args below meth c H locs cells slots ls S B C F E)
/-! returns -/
theorem G_iret {g : gT} {d x y : Nat} {k : mM} {pc : Nat} {L : List Value} {n : Nat} {h : mH} {P : Option Value → Nat → mH → Prop} {a : Int32} (hd : decode k.2.1 pc = .ok (.ireturn, 1)) (hr : k.2.2.2 = some .int) (hP : P (some (.int a)) n h) : G g d x y k pc L [.int a] n h P := by
  intro p e R s m args below meth c H locs cells slots ls S B C F E
  refine W.widen (k := R.cells) (n := R.slots) (by have := B.2.2.1; omega) (by have := B.2.2.2; omega) ?_
  exact W.iret S.1 S.2.1 (S.2.2.2.1.trans hr) (fun t ht hW => ⟨⟨some (.int a), n, h, rfl, hP, by rw [ht]; exact C⟩, F.F ht⟩) F.2.2 hd (hlocks := S.2.2.2.2.1)
theorem G_zret {g : gT} {d x y : Nat} {k : mM} {pc : Nat} {L : List Value} {n : Nat} {h : mH} {P : Option Value → Nat → mH → Prop} {a : Int32} {t : FieldType} (hd : decode k.2.1 pc = .ok (.ireturn, 1)) (hr : k.2.2.2 = some t) (hn : narrow t (.int a) = .int a) (hP : P (some (.int a)) n h) : G g d x y k pc L [.int a] n h P := by
  intro p e R s m args below meth c H locs cells slots ls S B C F E
  refine W.widen (k := R.cells) (n := R.slots) (by have := B.2.2.1; omega) (by have := B.2.2.2; omega) ?_
  exact W.zret S.1 S.2.1 (S.2.2.2.1.trans hr) hn (fun t ht hW => ⟨⟨some (.int a), n, h, rfl, hP, by rw [ht]; exact C⟩, F.F ht⟩) F.2.2 hd (hlocks := S.2.2.2.2.1)
theorem G_vret {g : gT} {d x y : Nat} {k : mM} {pc : Nat} {L : List Value} {n : Nat} {h : mH} {P : Option Value → Nat → mH → Prop} (hd : decode k.2.1 pc = .ok (.return_, 1)) (hr : k.2.2.2 = none) (hP : P none n h) : G g d x y k pc L [] n h P := by
  intro p e R s m args below meth c H locs cells slots ls S B C F E
  refine W.widen (k := R.cells) (n := R.slots) (by have := B.2.2.1; omega) (by have := B.2.2.2; omega) ?_
  exact W.vret S.1 S.2.1 (S.2.2.2.1.trans hr) (fun t ht hW => ⟨⟨none, n, h, rfl, hP, by rw [ht]; exact C⟩, F.F ht⟩) F.2.2 hd (hlocks := S.2.2.2.2.1)
theorem G_aret {g : gT} {d x y : Nat} {k : mM} {pc : Nat} {L : List Value} {n : Nat} {h : mH} {P : Option Value → Nat → mH → Prop} {o : Option Nat} {t : FieldType} (hd : decode k.2.1 pc = .ok (.areturn, 1)) (hr : k.2.2.2 = some t) (ht9 : (∃ z, t = .object z) ∨ ∃ z, t = .array z) (hP : P (some (va_rf o)) n h) : G g d x y k pc L [va_rf o] n h P := by
  intro p e R s m args below meth c H locs cells slots ls S B C F E
  refine W.widen (k := R.cells) (n := R.slots) (by have := B.2.2.1; omega) (by have := B.2.2.2; omega) ?_
  rw [List.map_cons, g_rf]
  exact W.aret S.1 S.2.1 (S.2.2.2.1.trans hr) ht9 (by cases o; exact Or.inl rfl; exact Or.inr ⟨_, rfl⟩) (fun t ht hW => ⟨⟨some (va_rf o), n, h, by rw [Option.map_some, g_rf], hP, by rw [ht]; exact C⟩, F.F ht⟩) F.2.2 hd (hlocks := S.2.2.2.2.1)
/-! ldc of numbers, switches, Object's constructor -/
theorem G_ldc {g : gT} {d x y : Nat} {k : mM} {pc : Nat} {L st : List Value} {n : Nat} {h : mH} {P : Option Value → Nat → mH → Prop} {index : Nat} {v : Int32} (hd : decode k.2.1 pc = .ok (.ldc index, 2)) (hl : Cond.constant k.1.cls index v ∈ TB) (K : G g d x y k (pc + 2) L (.int v :: st) n h P) : G g d x y k pc L st n h P := by
  intro p e R s m args below meth c H locs cells slots ls S B C F E
  obtain ⟨hx, hb, -, -, -, hnm, hown, hts, hK, hO⟩ := id S
  exact lv_ldc hx hb hown (hts _ hl) hd (K p e R s m args below meth c H locs cells slots ls S B C F E)
theorem G_ldcw {g : gT} {d x y : Nat} {k : mM} {pc : Nat} {L st : List Value} {n : Nat} {h : mH} {P : Option Value → Nat → mH → Prop} {index : Nat} {v : Int32} (hd : decode k.2.1 pc = .ok (.ldc_w index, 3)) (hl : Cond.constant k.1.cls index v ∈ TB) (K : G g d x y k (pc + 3) L (.int v :: st) n h P) : G g d x y k pc L st n h P := by
  intro p e R s m args below meth c H locs cells slots ls S B C F E
  obtain ⟨hx, hb, -, -, -, hnm, hown, hts, hK, hO⟩ := id S
  exact lv_ldcw hx hb hown (hts _ hl) hd (K p e R s m args below meth c H locs cells slots ls S B C F E)
theorem G_tsw {g : gT} {d x y : Nat} {k : mM} {pc : Nat} {L st : List Value} {n : Nat} {h : mH} {P : Option Value → Nat → mH → Prop} {dflt lo hi : Int} {offs : Array Int} {len tgt : Nat} {a : Int32} (hd : decode k.2.1 pc = .ok (.tableswitch dflt lo hi offs, len)) (ht : (pc : Int) + dflt = (tgt : Int)) (K0 : (a.toInt < lo ∨ hi < a.toInt) → G g d x y k tgt L st n h P) (K : ∀ j : Nat, a.toInt = lo + j → lo + j ≤ hi → ∃ (off : Int) (t2 : Nat), offs[j]? = some off ∧ (pc : Int) + off = (t2 : Int) ∧ G g d x y k t2 L st n h P) : G g d x y k pc L (.int a :: st) n h P := by
  intro p e R s m args below meth c H locs cells slots ls S B C F E
  by_cases h9 : a.toInt < lo ∨ hi < a.toInt
  · exact lv_tableOut S.1 S.2.1 hd h9 ht (K0 h9 p e R s m args below meth c H locs cells slots ls S B C F E)
  · have h1 : ¬ a.toInt < lo := fun q => h9 (Or.inl q)
    have h2 : ¬ hi < a.toInt := fun q => h9 (Or.inr q)
    have e1 : a.toInt = lo + ((a.toInt - lo).toNat : Nat) := by omega
    obtain ⟨off, t2, b1, b2, b3⟩ := K (a.toInt - lo).toNat e1 (by omega)
    exact lv_tableIn S.1 S.2.1 hd h1 h2 b1 b2 (b3 p e R s m args below meth c H locs cells slots ls S B C F E)
theorem G_objInit {g : gT} {d x y : Nat} {k : mM} {pc : Nat} {L st : List Value} {n : Nat} {h : mH} {P : Option Value → Nat → mH → Prop} {index i : Nat} (hd : decode k.2.1 pc = .ok (.invokespecial index, 3)) (hl : Cond.methodLink k.1.cls index objectInit ∈ TB) (hl2 : Cond.instanceMethod objectInit ∈ TB) (hl3 : Cond.code objectInit ⟨#[0xb1]⟩ 1 none ∈ TB) (hd1 : 1 ≤ d) (hs : (st.map fun v => v.category).sum ≤ 20) (K : G g d x y k (pc + 3) L st n h P) : G g d x y k pc L (.ref i :: st) n h P := by
  intro p e R s m args below meth c H locs cells slots ls S B C F E
  obtain ⟨hx, hb, hml, -, -, hnm, hown, hts, hK, hO⟩ := id S
  refine W.objInit hx hb hown (hts _ hl) (hts _ hl2) (hts _ hl3) rfl (by rw [hml]; exact E.2.1) rfl hd (Nat.le_trans hd1 B.1) ?_ (K p e R s m args below meth c H locs cells slots ls S B C F E)
  show 2 * 0 + ((st.map (g_v g)).map fun v => v.category).sum + 12 ≤ R.locals
  rw [g_cats]
  have := B.2.1
  omega
/-! calls -/
theorem g_run {g : gT} {p : Program} {e : Env} {R : Room} {s : State} {m : MethodId} {args : Array Value} {below : List Frame} {meth : Method} {c : Code} {H : Heap} {locs : List Loc} {cells slots mc ms pc : Nat} {ls : Array Slot} {rest st0 : List Value} {a : Array Value} {Q : State → Prop} {P : Option Value → Nat → mH → Prop}
    (hr : va_Run p g.1 e R s m args below meth c H locs cells slots mc ms (F0 m pc ls st0) rest (g_Q g P a) (g_A g)) (hS : va_S (g_A g) s.heap H locs)
    (kk : ∀ (v : Option Value) (n : Nat) (h : mH) (H1 : Heap) (locs1 : List Loc), P v n h → g_C g n h H1 → va_S (g_A g) s.heap H1 locs1 → W p g.1 e R s m args below meth c H1 locs1 (cells + mc) (slots + ms) Q (F0 m (pc + 3) ls ((v.map (g_v g)).toList ++ rest))) : W p g.1 e R s m args below meth c H locs cells slots Q (F0 m pc ls st0) := by
  intro T hT X
  obtain ⟨v, st₀, t, T', L, h0, X', hL, e1, e2, ⟨⟨v9, n, h, hv, hP, hC⟩, hz, hk⟩, st⟩ := hr T hT X
  cases hv
  rw [h0] at hz hk
  obtain ⟨t2, a1, b1⟩ := kk v9 n h T'.heap (locs ++ L) hP (by rw [e1]; exact hC)
    ⟨Nat.le_trans hS.1 (by rw [e1]; exact hz), fun q h1 h2 => by rw [e1, hk q (Nat.lt_of_lt_of_le h1 hS.1) h2]; exact hS.2.1 q h1 h2, fun q hq => by
      rcases List.mem_append.mp hq with h | h
      · exact hS.2.2 q h
      · exact hL q h⟩ T' rfl X'
  exact ⟨t2, st t2 a1, b1⟩
theorem g_blind {g : gT} {n : Nat} {h : mH} {av : List Value} : FrameBlind (va_Pc av (g_I g n h)) := fun a U g9 mk q => by
  obtain ⟨q0, qC, qK, qO⟩ := q
  exact ⟨q0, qC, va_K.moved (u := U) (U := U.calling g9 mk a) (Vm.Alike.refl U.vm) qK, g_O.same qO rfl rfl⟩
theorem g_pre {g : gT} {k : mM} {p : Program} {s : State} {m : MethodId} {args : Array Value} {meth : Method} {c : Code} {n : Nat} {h : mH} {H : Heap} {locs : List Loc} {av : List Value} (S : g_S g k p s m args meth c) (C : g_C g n h H) (F : va_S (g_A g) s.heap H locs) : ∀ U : State, U.heap = H → s.WarmedH U.vm → va_Pc av (g_I g n h) av.toArray U := fun U hU hW => by
  obtain ⟨-, -, -, -, -, -, -, -, hK, hO⟩ := S
  exact ⟨rfl, by rw [hU]; exact C, va_K.moved hW.alike hK, hO.go F hU hW⟩
theorem g_TB : GoodIn TB TB := fun w hw => ⟨hw, good_of_word (List.mem_filter.mp hw).2⟩
theorem g_good {c : mM} (hc : Cond.code c.1 c.2.1 c.2.2.1 c.2.2.2 ∈ TB) : GoodIn TB (g_ws c) := fun w hw => by
  rcases List.mem_cons.mp hw with h | h
  · rw [h]; exact g_TB _ hc
  · exact g_TB _ h
/-- what a call's site and its callee say in the tables -/
def g_cm (k c : mM) (index na : Nat) : Prop := Cond.code c.1 c.2.1 c.2.2.1 c.2.2.2 ∈ TB ∧ Cond.initialized c.1.cls ∈ TB ∧ Cond.methodLink k.1.cls index c.1 ∈ TB ∧ (c.1.cls ≠ "java/lang/invoke/MethodHandle" ∧ c.1.cls ≠ "java/lang/invoke/VarHandle" ∧ (parseMethodDescriptor c.1.desc).map (fun d => d.parameters.length) = some na) ∧ c.2.2.1 ≤ 20
def g_cn (k c : mM) (index na : Nat) (host : String) : Prop := Cond.code c.1 c.2.1 c.2.2.1 c.2.2.2 ∈ TB ∧ Cond.initialized c.1.cls ∈ TB ∧ Cond.methodLinkNest k.1.cls index c.1 host ∈ NW ∧ (c.1.cls ≠ "java/lang/invoke/MethodHandle" ∧ c.1.cls ≠ "java/lang/invoke/VarHandle" ∧ (parseMethodDescriptor c.1.desc).map (fun d => d.parameters.length) = some na) ∧ c.2.2.1 ≤ 20
theorem g_rm {R : Room} {d d' x y x' y' cells slots N : Nat} (B : g_B R d x y cells slots) (hd : d' + 1 ≤ d) (hN : N ≤ 20) : (g_R d' x' y').frames + 1 ≤ R.frames ∧ 8 + (N + 11) + (g_R d' x' y').locals ≤ R.locals := by
  obtain ⟨h1, h2, -, -⟩ := B
  refine ⟨Nat.le_trans hd h1, ?_⟩
  show 8 + (N + 11) + 40 * d' ≤ R.locals
  omega
theorem g_top (g : gT) (v : Option Value) (st : List Value) : (v.map (g_v g)).toList ++ st.map (g_v g) = (v.toList ++ st).map (g_v g) := by cases v <;> rfl
theorem G_callV {g : gT} {d x y : Nat} {k : mM} {pc : Nat} {L st : List Value} {n : Nat} {h : mH} {P : Option Value → Nat → mH → Prop} {c9 : mM} {d' x' y' index na b ci : Nat} {fs As st0 : List Value} {P' : Option Value → Nat → mH → Prop} (hM : M g d' x' y' c9 (.ref b :: As) n h P') (hd : decode k.2.1 pc = .ok (.invokevirtual index, 3)) (hc : g_cm k c9 index na) (hi9 : Cond.instanceMethod c9.1 ∈ TB) (hs9 : Cond.selects c9.1.cls c9.1 c9.1 ∈ TB) (hb : h b = some (.inr (ci, fs))) (hb2 : (g_cl[ci]?).map (·.1) = some c9.1.cls) (hs : st0 = As.reverse ++ .ref b :: st) (hn : As.length = na) (hw : (st.map fun v => v.category).sum ≤ 8) (hd9 : d' + 1 ≤ d) (hx9 : x' ≤ x) (hy9 : y' ≤ y)
    (K : ∀ v n' h', P' v n' h' → G g d (x - x') (y - y') k (pc + 3) L (v.toList ++ st) n' h' P) : G g d x y k pc L st0 n h P := by
  intro p e R s m args below meth c H locs cells slots ls S B C F E
  obtain ⟨c1, c2, c3, c4, c5⟩ := hc
  obtain ⟨hx, hb9, hml, -, -, hnm, hown, hts, hK, hO⟩ := id S
  obtain ⟨B1, B2, B3⟩ := B.use hx9 hy9
  obtain ⟨r, hr1, hr2⟩ : ∃ r, g_cl[ci]? = some r ∧ r.1 = c9.1.cls := by
    cases hg : g_cl[ci]? with
    | none => rw [hg] at hb2; cases hb2
    | some r => rw [hg] at hb2; exact ⟨r, rfl, Option.some.inj hb2⟩
  have hcell := va_recv hK (g_P C hb) (q0 := 0) (ci := ci) hr1 rfl
  rw [hr2] at hcell
  have hrun := va_runV (C := c9.1.cls) (As := As.map (g_v g)) (rest := st.map (g_v g)) (b := g_ad g b) (p := p) (l := g.1) (e := e) (R := R) (s := s) (m := m) (args := args) (below := below) (meth := meth) (c := c) (H := H) (locs := locs) (cells := cells) (slots := slots) (g := F0 m pc ls (st0.map (g_v g))) (nL := k.2.2.1) ⟨hx, hb9, hml, hown, hts⟩ hM ⟨callB_of na hts (g_good c1) rfl rfl rfl (hts _ c2) (hts _ c3) c4 (g_rm B hd9 c5), hts _ hi9, hts _ hs9⟩ ⟨g_blind, hcell, g_pre S C F⟩ rfl (by rw [List.length_map]; exact hn) E.2.1 (by show st0.map (g_v g) = _; rw [hs, List.map_append, List.map_reverse]; rfl) (by show 2 * 0 + _ ≤ 8; rw [g_cats]; omega) hd ⟨B2, B3⟩
  exact g_run hrun F (fun v n1 h1 H1 locs1 q1 q2 q3 => by rw [g_top]; exact K v n1 h1 q1 p e R s m args below meth c H1 locs1 _ _ ls S B1 q2 q3 E)
theorem G_callS {g : gT} {d x y : Nat} {k : mM} {pc : Nat} {L st : List Value} {n : Nat} {h : mH} {P : Option Value → Nat → mH → Prop} {c9 : mM} {d' x' y' index na : Nat} {As st0 : List Value} {P' : Option Value → Nat → mH → Prop} (hM : M g d' x' y' c9 As n h P') (hd : decode k.2.1 pc = .ok (.invokestatic index, 3)) (hc : g_cm k c9 index na) (hi9 : Cond.static c9.1 ∈ TB) (hs : st0 = As.reverse ++ st) (hn : As.length = na) (hw : (st.map fun v => v.category).sum ≤ 8) (hd9 : d' + 1 ≤ d) (hx9 : x' ≤ x) (hy9 : y' ≤ y)
    (K : ∀ v n' h', P' v n' h' → G g d (x - x') (y - y') k (pc + 3) L (v.toList ++ st) n' h' P) : G g d x y k pc L st0 n h P := by
  intro p e R s m args below meth c H locs cells slots ls S B C F E
  obtain ⟨c1, c2, c3, c4, c5⟩ := hc
  obtain ⟨hx, hb9, hml, -, -, hnm, hown, hts, hK, hO⟩ := id S
  obtain ⟨B1, B2, B3⟩ := B.use hx9 hy9
  have hrun := va_runS (As := As.map (g_v g)) (rest := st.map (g_v g)) (p := p) (l := g.1) (e := e) (R := R) (s := s) (m := m) (args := args) (below := below) (meth := meth) (c := c) (H := H) (locs := locs) (cells := cells) (slots := slots) (g := F0 m pc ls (st0.map (g_v g))) (nL := k.2.2.1) ⟨hx, hb9, hml, hown, hts⟩ hM ⟨callB_of na hts (g_good c1) rfl rfl rfl (hts _ c2) (hts _ c3) c4 (g_rm B hd9 c5), hts _ hi9⟩ ⟨g_blind, g_pre S C F⟩ rfl (by rw [List.length_map]; exact hn) E.2.1 (by show st0.map (g_v g) = _; rw [hs, List.map_append, List.map_reverse]) (by show 2 * 0 + _ ≤ 8; rw [g_cats]; omega) hd ⟨B2, B3⟩
  exact g_run hrun F (fun v n1 h1 H1 locs1 q1 q2 q3 => by rw [g_top]; exact K v n1 h1 q1 p e R s m args below meth c H1 locs1 _ _ ls S B1 q2 q3 E)
theorem G_callI {g : gT} {d x y : Nat} {k : mM} {pc : Nat} {L st : List Value} {n : Nat} {h : mH} {P : Option Value → Nat → mH → Prop} {c9 : mM} {d' x' y' index na b : Nat} {As st0 : List Value} {P' : Option Value → Nat → mH → Prop} (hM : M g d' x' y' c9 (.ref b :: As) n h P') (hd : decode k.2.1 pc = .ok (.invokespecial index, 3)) (hc : g_cm k c9 index na) (hn9 : c9.1.name = "<init>") (hr9 : c9.2.2.2 = none) (hi9 : Cond.instanceMethod c9.1 ∈ TB) (hs : st0 = As.reverse ++ .ref b :: st) (hn : As.length = na) (hw : (st.map fun v => v.category).sum ≤ 8) (hd9 : d' + 1 ≤ d) (hx9 : x' ≤ x) (hy9 : y' ≤ y)
    (K : ∀ v n' h', P' v n' h' → G g d (x - x') (y - y') k (pc + 3) L (v.toList ++ st) n' h' P) : G g d x y k pc L st0 n h P := by
  intro p e R s m args below meth c H locs cells slots ls S B C F E
  obtain ⟨c1, c2, c3, c4, c5⟩ := hc
  obtain ⟨hx, hb9, hml, -, -, hnm, hown, hts, hK, hO⟩ := id S
  obtain ⟨B1, B2, B3⟩ := B.use hx9 hy9
  have hrun := va_runI (As := As.map (g_v g)) (rest := st.map (g_v g)) (b := g_ad g b) (p := p) (l := g.1) (e := e) (R := R) (s := s) (m := m) (args := args) (below := below) (meth := meth) (c := c) (H := H) (locs := locs) (cells := cells) (slots := slots) (g := F0 m pc ls (st0.map (g_v g))) (nL := k.2.2.1) (bytes := c9.2.1) (maxL := c9.2.2.1) ⟨hx, hb9, hml, hown, hts⟩ hM ⟨callB_of na hts (g_good c1) (by unfold g_ws; rw [hr9]) rfl rfl (hts _ c2) (hts _ c3) c4 (g_rm B hd9 c5), hn9, hts _ hi9⟩ ⟨g_blind, g_pre S C F⟩ rfl (by rw [List.length_map]; exact hn) E.2.1 (by show st0.map (g_v g) = _; rw [hs, List.map_append, List.map_reverse]; rfl) (by show 2 * 0 + _ ≤ 8; rw [g_cats]; omega) hd ⟨B2, B3⟩
  exact g_run hrun F (fun v n1 h1 H1 locs1 q1 q2 q3 => by rw [g_top]; exact K v n1 h1 q1 p e R s m args below meth c H1 locs1 _ _ ls S B1 q2 q3 E)
theorem G_callSN {g : gT} {d x y : Nat} {k : mM} {pc : Nat} {L st : List Value} {n : Nat} {h : mH} {P : Option Value → Nat → mH → Prop} {c9 : mM} {d' x' y' index na : Nat} {host : String} {As st0 : List Value} {P' : Option Value → Nat → mH → Prop} (hM : M g d' x' y' c9 As n h P') (hd : decode k.2.1 pc = .ok (.invokestatic index, 3)) (hc : g_cn k c9 index na host) (hi9 : Cond.static c9.1 ∈ TB) (hs : st0 = As.reverse ++ st) (hn : As.length = na) (hw : (st.map fun v => v.category).sum ≤ 8) (hd9 : d' + 1 ≤ d) (hx9 : x' ≤ x) (hy9 : y' ≤ y)
    (K : ∀ v n' h', P' v n' h' → G g d (x - x') (y - y') k (pc + 3) L (v.toList ++ st) n' h' P) : G g d x y k pc L st0 n h P := by
  intro p e R s m args below meth c H locs cells slots ls S B C F E
  obtain ⟨c1, c2, c3, c4, c5⟩ := hc
  obtain ⟨hx, hb9, hml, -, -, hnm, hown, hts, hK, hO⟩ := id S
  obtain ⟨B1, B2, B3⟩ := B.use hx9 hy9
  have hrun := va_runSN (As := As.map (g_v g)) (rest := st.map (g_v g)) (p := p) (l := g.1) (e := e) (R := R) (s := s) (m := m) (args := args) (below := below) (meth := meth) (c := c) (H := H) (locs := locs) (cells := cells) (slots := slots) (g := F0 m pc ls (st0.map (g_v g))) (nL := k.2.2.1) ⟨hx, hb9, hml, hown, hts⟩ hM ⟨va_cnB na hts (g_good c1) rfl rfl rfl (hO.1 _ c3) (hts _ c2) c4 (g_rm B hd9 c5), hts _ hi9, trivial⟩ ⟨g_blind, g_pre S C F⟩ rfl (by rw [List.length_map]; exact hn) E.2.1 (by show st0.map (g_v g) = _; rw [hs, List.map_append, List.map_reverse]) (by show 2 * 0 + _ ≤ 8; rw [g_cats]; omega) hd ⟨B2, B3⟩
  exact g_run hrun F (fun v n1 h1 H1 locs1 q1 q2 q3 => by rw [g_top]; exact K v n1 h1 q1 p e R s m args below meth c H1 locs1 _ _ ls S B1 q2 q3 E)
theorem G_callIN {g : gT} {d x y : Nat} {k : mM} {pc : Nat} {L st : List Value} {n : Nat} {h : mH} {P : Option Value → Nat → mH → Prop} {c9 : mM} {d' x' y' index na b : Nat} {host : String} {As st0 : List Value} {P' : Option Value → Nat → mH → Prop} (hM : M g d' x' y' c9 (.ref b :: As) n h P') (hd : decode k.2.1 pc = .ok (.invokespecial index, 3)) (hc : g_cn k c9 index na host) (hn9 : c9.1.name = "<init>") (hr9 : c9.2.2.2 = none) (hi9 : Cond.instanceMethod c9.1 ∈ TB) (hs : st0 = As.reverse ++ .ref b :: st) (hn : As.length = na) (hw : (st.map fun v => v.category).sum ≤ 8) (hd9 : d' + 1 ≤ d) (hx9 : x' ≤ x) (hy9 : y' ≤ y)
    (K : ∀ v n' h', P' v n' h' → G g d (x - x') (y - y') k (pc + 3) L (v.toList ++ st) n' h' P) : G g d x y k pc L st0 n h P := by
  intro p e R s m args below meth c H locs cells slots ls S B C F E
  obtain ⟨c1, c2, c3, c4, c5⟩ := hc
  obtain ⟨hx, hb9, hml, -, -, hnm, hown, hts, hK, hO⟩ := id S
  obtain ⟨B1, B2, B3⟩ := B.use hx9 hy9
  have hrun := va_runIN (As := As.map (g_v g)) (rest := st.map (g_v g)) (b := g_ad g b) (p := p) (l := g.1) (e := e) (R := R) (s := s) (m := m) (args := args) (below := below) (meth := meth) (c := c) (H := H) (locs := locs) (cells := cells) (slots := slots) (g := F0 m pc ls (st0.map (g_v g))) (nL := k.2.2.1) (bytes := c9.2.1) (maxL := c9.2.2.1) ⟨hx, hb9, hml, hown, hts⟩ hM ⟨va_cnB na hts (g_good c1) (by unfold g_ws; rw [hr9]) rfl rfl (hO.1 _ c3) (hts _ c2) c4 (g_rm B hd9 c5), hn9, hts _ hi9⟩ ⟨g_blind, g_pre S C F⟩ rfl (by rw [List.length_map]; exact hn) E.2.1 (by show st0.map (g_v g) = _; rw [hs, List.map_append, List.map_reverse]; rfl) (by show 2 * 0 + _ ≤ 8; rw [g_cats]; omega) hd ⟨B2, B3⟩
  exact g_run hrun F (fun v n1 h1 H1 locs1 q1 q2 q3 => by rw [g_top]; exact K v n1 h1 q1 p e R s m args below meth c H1 locs1 _ _ ls S B1 q2 q3 E)
/-! a contract out of a walk -/
def g_en (nL : Nat) (av : List Value) : List Value := (av.flatMap (fun v => if v.category = 2 then [v, .retAddr 0] else [v])) ++ List.replicate (nL - (av.flatMap (fun v => if v.category = 2 then [v, .retAddr 0] else [v])).length) (.retAddr 0)
theorem g_en_args (g : gT) : ∀ (av : List Value) (i j : Nat) (v : Value), (av.flatMap (fun v => if v.category = 2 then [v, .retAddr 0] else [v]))[j]? = some v → g_ok v = true → (i + j, g_v g v) ∈ lv_args i (av.map (g_v g))
  | [], i, j, v, h, _ => by simp at h
  | w :: av, i, j, v, h, hv => by
    rw [List.flatMap_cons] at h
    rw [List.map_cons]
    show _ ∈ (i, g_v g w) :: lv_args (if (g_v g w).category = 2 then i + 2 else i + 1) (av.map (g_v g))
    rw [g_cat]
    by_cases hc : w.category = 2
    · rw [if_pos hc] at h ⊢
      match j, h with
      | 0, h => simp at h; subst h; exact List.mem_cons_self
      | 1, h => simp at h; subst h; simp [g_ok] at hv
      | j + 2, h =>
        have h2 := g_en_args g av (i + 2) j v (by simpa using h) hv
        rw [show i + (j + 2) = i + 2 + j by omega]
        exact List.mem_cons_of_mem _ h2
    · rw [if_neg hc] at h ⊢
      match j, h with
      | 0, h => simp at h; subst h; exact List.mem_cons_self
      | j + 1, h =>
        have h2 := g_en_args g av (i + 1) j v (by simpa using h) hv
        rw [show i + (j + 1) = i + 1 + j by omega]
        exact List.mem_cons_of_mem _ h2
theorem g_en_sl (g : gT) : ∀ av : List Value, (lg_sl (av.map (g_v g))).length = (av.flatMap (fun v => if v.category = 2 then [v, Value.retAddr 0] else [v])).length
  | [] => rfl
  | w :: av => by
    have ih := g_en_sl g av
    unfold lg_sl at ih ⊢
    rw [List.map_cons, List.flatMap_cons, List.flatMap_cons, List.length_append, List.length_append, ih, g_cat]
    by_cases hc : w.category = 2 <;> simp [hc]
theorem M_of_G {g : gT} {d x y : Nat} {k : mM} {av : List Value} {n : Nat} {h : mH} {P : Option Value → Nat → mH → Prop} (hy : plainName k.1.cls = true) (hl : (av.flatMap (fun v => if v.category = 2 then [v, Value.retAddr 0] else [v])).length ≤ k.2.2.1) (K : G g d x y k 0 (g_en k.2.2.1 av) [] n h P) : M g d x y k av n h P := by
  refine Met.ofW (cc := k.2.1) (maxL := k.2.2.1) (ret := k.2.2.2) hy rfl ?_
  intro p e s m args below meth c s₁ B hml hv
  obtain ⟨rfl, hC, hK, hO⟩ := hv
  have hts0 := atoms_spec (ws := g_ws k) B.pre
  have hts : ∀ w ∈ TB, w.before _ s = true := fun w hw => hts0 w (List.mem_cons_of_mem _ hw)
  have hown : s.vm.findClass k.1.cls = some m.cls := findClass_of_methodNamed B.named
  have hnm : meth.name = k.1.name := (name_of_methodNamed B.named B.method).1
  have hle := g_en_sl g av
  have hle2 : (lg_sl (av.map (g_v g))).length ≤ k.2.2.1 := by rw [hle]; exact hl
  have hl9 := lv_entry (av.map (g_v g)) (n := k.2.2.1) hle2
  rw [lg_entry_eq]
  refine K p e _ s m _ below meth c s.heap [] 0 0 _ ⟨B.exec, B.bytes, hml, B.returns, B.notSynchronized, hnm, hown, hts, hK, hO⟩ ⟨Nat.le_refl _, Nat.le_refl _, by show 0 + x ≤ x; omega, by show 0 + y ≤ y; omega⟩ hC va_S.rf ⟨?_, hl9.1, hl9.2.1, fun q hq => hl9.2.2 q ?_⟩
  · simp only [g_en, List.length_append, List.length_replicate]; omega
  · obtain ⟨v, h1, h2, h3⟩ := g_Lv_mem.mp hq
    obtain ⟨j, u⟩ := q
    dsimp only at h1 h3
    subst h3
    unfold g_en at h1
    by_cases hj : j < (av.flatMap (fun v => if v.category = 2 then [v, Value.retAddr 0] else [v])).length
    · rw [List.getElem?_append_left hj] at h1
      have := g_en_args g av 0 j v h1 h2
      rwa [Nat.zero_add] at this
    · rw [List.getElem?_append_right (by omega)] at h1
      have h9 := (List.mem_replicate.mp (List.mem_of_getElem? h1)).2
      subst h9
      simp [g_ok] at h2
end
section
theorem kc_0 : g_k 0 RX0 TX0 11 tyX0 := ⟨rfl, by decide +kernel, tyX0_ok, nmX0⟩
theorem kc_1 : g_k 1 RX1 TX1 4 tyX1 := ⟨rfl, by decide +kernel, tyX1_ok, nmX1⟩
theorem kc_2 : g_k 2 RX2 TX2 3 tyX2 := ⟨rfl, by decide +kernel, tyX2_ok, nmX2⟩
theorem kc_3 : g_k 3 RX3 TX3 5 tyX3 := ⟨rfl, by decide +kernel, tyX3_ok, nmX3⟩
theorem kc_4 : g_k 4 RX4 TX4 4 tyX4 := ⟨rfl, by decide +kernel, tyX4_ok, nmX4⟩
theorem kc_5 : g_k 5 RX5 TX5 4 tyX5 := ⟨rfl, by decide +kernel, tyX5_ok, nmX5⟩
theorem kc_6 : g_k 6 RX6 TX6 2 tyX6 := ⟨rfl, by decide +kernel, tyX6_ok, nmX6⟩
theorem kc_7 : g_k 7 RX7 TX7 5 tyX7 := ⟨rfl, by decide +kernel, tyX7_ok, nmX7⟩
theorem kc_8 : g_k 8 RX8 TX8 10 tyX8 := ⟨rfl, by decide +kernel, tyX8_ok, nmX8⟩
theorem kc_9 : g_k 9 RX9 TX9 43 tyX9 := ⟨rfl, by decide +kernel, tyX9_ok, nmX9⟩
theorem kc_10 : g_k 10 RJx4a65c TJx4a65c 3 tyJx4a65c := ⟨rfl, by decide +kernel, tyJx4a65c_ok, nmJx4a65c⟩
abbrev kX8_init : mM := (yX8_init, cX8_init, 1, (none : Option Jvm.ClassFile.FieldType))
abbrev kJx4a65c_init_da8c8 : mM := (yJx4a65c_init_da8c8, cJx4a65c_init_da8c8, 1, (none : Option Jvm.ClassFile.FieldType))
abbrev kJxc12de_init_da8c8 : mM := (yJxc12de_init_da8c8, cJxc12de_init_da8c8, 1, (none : Option Jvm.ClassFile.FieldType))
abbrev kJxa1e45_init_da8c8 : mM := (yJxa1e45_init_da8c8, cJxa1e45_init_da8c8, 1, (none : Option Jvm.ClassFile.FieldType))
abbrev kX6_init : mM := (yX6_init, cX6_init, 1, (none : Option Jvm.ClassFile.FieldType))
abbrev kX3_init : mM := (yX3_init, cX3_init, 1, (none : Option Jvm.ClassFile.FieldType))
abbrev kX2_init : mM := (yX2_init, cX2_init, 1, (none : Option Jvm.ClassFile.FieldType))
abbrev kJ7_fill_53178 : mM := (yJ7_fill_53178, cJ7_fill_53178, 4, (none : Option Jvm.ClassFile.FieldType))
abbrev kX5_init : mM := (yX5_init, cX5_init, 1, (none : Option Jvm.ClassFile.FieldType))
abbrev kX8_kind : mM := (yX8_kind, cX8_kind, 4, (some .int))
abbrev kJx4a65c_size_8abf5 : mM := (yJx4a65c_size_8abf5, cJx4a65c_size_8abf5, 1, (some .int))
abbrev kX8_isWithin : mM := (yX8_isWithin, cX8_isWithin, 3, (some .boolean))
abbrev kX1_init : mM := (yX1_init, cX1_init, 5, (none : Option Jvm.ClassFile.FieldType))
abbrev kJx4a65c_add_9ea2d : mM := (yJx4a65c_add_9ea2d, cJx4a65c_add_9ea2d, 2, (some .boolean))
abbrev kJx4a65c_add_72be8 : mM := (yJx4a65c_add_72be8, cJx4a65c_add_72be8, 4, (none : Option Jvm.ClassFile.FieldType))
abbrev kJx4a65c_grow_d5877 : mM := (yJx4a65c_grow_d5877, cJx4a65c_grow_d5877, 1, (some (.array (.object "java/lang/Object"))))
abbrev kJx4a65c_grow_92f84 : mM := (yJx4a65c_grow_92f84, cJx4a65c_grow_92f84, 4, (some (.array (.object "java/lang/Object"))))
abbrev kJ8_newLength_cabcc : mM := (yJ8_newLength_cabcc, cJ8_newLength_cabcc, 4, (some .int))
abbrev kJ9_max_7cf53 : mM := (yJ9_max_7cf53, cJ9_max_7cf53, 2, (some .int))
abbrev kJ8_hugeLength_7cf53 : mM := (yJ8_hugeLength_7cf53, cJ8_hugeLength_7cf53, 3, (some .int))
abbrev kJ7_copyOf_1904c : mM := (yJ7_copyOf_1904c, cJ7_copyOf_1904c, 2, (some (.array (.object "java/lang/Object"))))
abbrev kJ7_copyOf_6403c : mM := (yJ7_copyOf_6403c, cJ7_copyOf_6403c, 4, (some (.array (.object "java/lang/Object"))))
abbrev kJ9_min_7cf53 : mM := (yJ9_min_7cf53, cJ9_min_7cf53, 2, (some .int))
abbrev kX8_thing : mM := (yX8_thing, cX8_thing, 3, (some .int))
abbrev kX8_kindAt : mM := (yX8_kindAt, cX8_kindAt, 2, (some (.object "ToolHouse$Kind")))
abbrev kJx4a65c_get_915e3 : mM := (yJx4a65c_get_915e3, cJx4a65c_get_915e3, 2, (some (.object "java/lang/Object")))
abbrev kJ15_checkIndex_7cf53 : mM := (yJ15_checkIndex_7cf53, cJ15_checkIndex_7cf53, 2, (some .int))
abbrev kJ3_checkIndex_8e157 : mM := (yJ3_checkIndex_8e157, cJ3_checkIndex_8e157, 3, (some .int))
abbrev kJx4a65c_elementData_915e3 : mM := (yJx4a65c_elementData_915e3, cJx4a65c_elementData_915e3, 2, (some (.object "java/lang/Object")))
abbrev kX7_init : mM := (yX7_init, cX7_init, 3, (none : Option Jvm.ClassFile.FieldType))
abbrev kX8_member : mM := (yX8_member, cX8_member, 1, (some .int))
abbrev kX4_init : mM := (yX4_init, cX4_init, 2, (none : Option Jvm.ClassFile.FieldType))
abbrev kX8_feed : mM := (yX8_feed, cX8_feed, 6, (some .int))
abbrev kX6_hasRoom : mM := (yX6_hasRoom, cX6_hasRoom, 1, (some .boolean))
abbrev kX6_put : mM := (yX6_put, cX6_put, 3, (none : Option Jvm.ClassFile.FieldType))
abbrev kX8_end : mM := (yX8_end, cX8_end, 2, (some .int))
abbrev kX8_law : mM := (yX8_law, cX8_law, 1, (some .int))
abbrev kX3_read : mM := (yX3_read, cX3_read, 5, (none : Option Jvm.ClassFile.FieldType))
abbrev kX6_byteAt : mM := (yX6_byteAt, cX6_byteAt, 2, (some .int))
abbrev kX3_isBlank : mM := (yX3_isBlank, cX3_isBlank, 1, (some .boolean))
abbrev kX3_endOfToken : mM := (yX3_endOfToken, cX3_endOfToken, 5, (some .int))
abbrev kX3_isLetter : mM := (yX3_isLetter, cX3_isLetter, 1, (some .boolean))
abbrev kX3_isDigit : mM := (yX3_isDigit, cX3_isDigit, 1, (some .boolean))
abbrev kX3_take : mM := (yX3_take, cX3_take, 6, (none : Option Jvm.ClassFile.FieldType))
abbrev kX3_numberOf : mM := (yX3_numberOf, cX3_numberOf, 5, (some .int))
abbrev kX3_isEvery : mM := (yX3_isEvery, cX3_isEvery, 4, (some .boolean))
abbrev kJ0_length_8abf5 : mM := (yJ0_length_8abf5, cJ0_length_8abf5, 1, (some .int))
abbrev kJ0_coder_7d493 : mM := (yJ0_coder_7d493, cJ0_coder_7d493, 1, (some .byte))
abbrev kJ0_charAt_5068e : mM := (yJ0_charAt_5068e, cJ0_charAt_5068e, 2, (some .char))
abbrev kJ0_isLatin1_aae02 : mM := (yJ0_isLatin1_aae02, cJ0_isLatin1_aae02, 1, (some .boolean))
abbrev kJ1_charAt_3b067 : mM := (yJ1_charAt_3b067, cJ1_charAt_3b067, 2, (some .char))
abbrev kJ0_checkIndex_df160 : mM := (yJ0_checkIndex_df160, cJ0_checkIndex_df160, 2, (none : Option Jvm.ClassFile.FieldType))
abbrev kJ2_charAt_3b067 : mM := (yJ2_charAt_3b067, cJ2_charAt_3b067, 2, (some .char))
abbrev kJ2_checkIndex_2214a : mM := (yJ2_checkIndex_2214a, cJ2_checkIndex_2214a, 2, (none : Option Jvm.ClassFile.FieldType))
abbrev kJ2_length_9d52b : mM := (yJ2_length_9d52b, cJ2_length_9d52b, 1, (some .int))
abbrev kJ2_getChar_3b067 : mM := (yJ2_getChar_3b067, cJ2_getChar_3b067, 2, (some .char))
abbrev kX3_takeKind : mM := (yX3_takeKind, cX3_takeKind, 4, (none : Option Jvm.ClassFile.FieldType))
abbrev kX3_blame : mM := (yX3_blame, cX3_blame, 3, (none : Option Jvm.ClassFile.FieldType))
abbrev kX3_takeDays : mM := (yX3_takeDays, cX3_takeDays, 2, (none : Option Jvm.ClassFile.FieldType))
abbrev kX2_tell : mM := (yX2_tell, cX2_tell, 3, (none : Option Jvm.ClassFile.FieldType))
abbrev kX8_place : mM := (yX8_place, cX8_place, 1, (some .int))
abbrev kX8_look : mM := (yX8_look, cX8_look, 3, (some .boolean))
abbrev kX8_thingAt : mM := (yX8_thingAt, cX8_thingAt, 2, (some (.object "ToolHouse$Thing")))
abbrev kX8_lawful : mM := (yX8_lawful, cX8_lawful, 4, (some .int))
abbrev kX2_lets : mM := (yX2_lets, cX2_lets, 4, (some .boolean))
abbrev kX2_daysWanted : mM := (yX2_daysWanted, cX2_daysWanted, 2, (some .int))
abbrev kX8_ask : mM := (yX8_ask, cX8_ask, 9, (some .int))
abbrev kX8_memberAt : mM := (yX8_memberAt, cX8_memberAt, 2, (some (.object "ToolHouse$Member")))
abbrev kX8_canBeAsked : mM := (yX8_canBeAsked, cX8_canBeAsked, 3, (some .boolean))
abbrev kX8_howManyAre : mM := (yX8_howManyAre, cX8_howManyAre, 4, (some .int))
abbrev kX0_init : mM := (yX0_init, cX0_init, 8, (none : Option Jvm.ClassFile.FieldType))
abbrev kX8_plan : mM := (yX8_plan, cX8_plan, 3, (some .int))
abbrev kX5_begin : mM := (yX5_begin, cX5_begin, 1, (none : Option Jvm.ClassFile.FieldType))
abbrev kX5_add : mM := (yX5_add, cX5_add, 2, (none : Option Jvm.ClassFile.FieldType))
abbrev kX8_rowThatMayHave : mM := (yX8_rowThatMayHave, cX8_rowThatMayHave, 5, (some .int))
abbrev kX5_askAtRow : mM := (yX5_askAtRow, cX5_askAtRow, 2, (some (.object "ToolHouse$Ask")))
abbrev kX1_fits : mM := (yX1_fits, cX1_fits, 2, (some .boolean))
abbrev kX8_isFreeFor : mM := (yX8_isFreeFor, cX8_isFreeFor, 3, (some .boolean))
abbrev kX8_isFreeBut : mM := (yX8_isFreeBut, cX8_isFreeBut, 8, (some .boolean))
abbrev kX0_holds : mM := (yX0_holds, cX0_holds, 2, (some .boolean))
abbrev kX0_lastDay : mM := (yX0_lastDay, cX0_lastDay, 2, (some .int))
abbrev kX8_areNear : mM := (yX8_areNear, cX8_areNear, 5, (some .boolean))
abbrev kX5_offer : mM := (yX5_offer, cX5_offer, 6, (none : Option Jvm.ClassFile.FieldType))
abbrev kX5_weigh : mM := (yX5_weigh, cX5_weigh, 10, (none : Option Jvm.ClassFile.FieldType))
abbrev kX5_worthOf : mM := (yX5_worthOf, cX5_worthOf, 5, (some .int))
abbrev kX5_nearTo : mM := (yX5_nearTo, cX5_nearTo, 7, (some .int))
abbrev kX5_wholeRow : mM := (yX5_wholeRow, cX5_wholeRow, 1, (some .int))
abbrev kX8_carryOutPlan : mM := (yX8_carryOutPlan, cX8_carryOutPlan, 4, (some .int))
abbrev kX5_thingAtRow : mM := (yX5_thingAtRow, cX5_thingAtRow, 4, (some .int))
abbrev kX8_refuse : mM := (yX8_refuse, cX8_refuse, 3, (none : Option Jvm.ClassFile.FieldType))
abbrev kJx4a65c_add_7a177 : mM := (yJx4a65c_add_7a177, cJx4a65c_add_7a177, 5, (none : Option Jvm.ClassFile.FieldType))
abbrev kJx4a65c_rangeCheckForAdd_d00df : mM := (yJx4a65c_rangeCheckForAdd_d00df, cJx4a65c_rangeCheckForAdd_d00df, 2, (none : Option Jvm.ClassFile.FieldType))
abbrev kX8_off : mM := (yX8_off, cX8_off, 3, (some .boolean))
abbrev kX8_askAt : mM := (yX8_askAt, cX8_askAt, 2, (some (.object "ToolHouse$Ask")))
abbrev kX8_out : mM := (yX8_out, cX8_out, 4, (some .int))
abbrev kX8_hindranceOf : mM := (yX8_hindranceOf, cX8_hindranceOf, 3, (some .int))
abbrev kX7_isCaredFor : mM := (yX7_isCaredFor, cX7_isCaredFor, 2, (some .boolean))
abbrev kX8_back : mM := (yX8_back, cX8_back, 4, (some .int))
abbrev kX4_owe : mM := (yX4_owe, cX4_owe, 3, (none : Option Jvm.ClassFile.FieldType))
abbrev kX8_work : mM := (yX8_work, cX8_work, 4, (some .int))
abbrev kX8_days : mM := (yX8_days, cX8_days, 3, (some .int))
abbrev kX8_loseWhatIsOver : mM := (yX8_loseWhatIsOver, cX8_loseWhatIsOver, 3, (none : Option Jvm.ClassFile.FieldType))
abbrev kX8_moveFromLateThings : mM := (yX8_moveFromLateThings, cX8_moveFromLateThings, 4, (none : Option Jvm.ClassFile.FieldType))
abbrev kX8_nextToMove : mM := (yX8_nextToMove, cX8_nextToMove, 4, (some (.object "ToolHouse$Ask")))
abbrev kX8_mustMove : mM := (yX8_mustMove, cX8_mustMove, 2, (some .boolean))
abbrev kX7_isLate : mM := (yX7_isLate, cX7_isLate, 2, (some .boolean))
abbrev kX0_movesAheadOf : mM := (yX0_movesAheadOf, cX0_movesAheadOf, 2, (some .boolean))
abbrev kX8_firstOtherThingFor : mM := (yX8_firstOtherThingFor, cX8_firstOtherThingFor, 4, (some (.object "ToolHouse$Thing")))
abbrev kX8_buy : mM := (yX8_buy, cX8_buy, 7, (some .int))
abbrev kX8_thingOf : mM := (yX8_thingOf, cX8_thingOf, 4, (some .int))
abbrev kX8_howManyAreBookedOn : mM := (yX8_howManyAreBookedOn, cX8_howManyAreBookedOn, 4, (some .int))
abbrev kX0_isBookedOn : mM := (yX0_isBookedOn, cX0_isBookedOn, 2, (some .boolean))
abbrev kX8_isFree : mM := (yX8_isFree, cX8_isFree, 5, (some .int))
abbrev kX8_memberOf : mM := (yX8_memberOf, cX8_memberOf, 4, (some .int))
abbrev kX8_count : mM := (yX8_count, cX8_count, 2, (some .int))
abbrev kX8_of : mM := (yX8_of, cX8_of, 4, (some .int))
abbrev kX9_init : mM := (yX9_init, cX9_init, 1, (none : Option Jvm.ClassFile.FieldType))
abbrev kX9_thrown : mM := (yX9_thrown, cX9_thrown, 1, (some .int))
abbrev kX9_kind : mM := (yX9_kind, cX9_kind, 4, (some .int))
abbrev kX9_within : mM := (yX9_within, cX9_within, 3, (some .boolean))
abbrev kX9_thing : mM := (yX9_thing, cX9_thing, 2, (some .int))
abbrev kX9_isKind : mM := (yX9_isKind, cX9_isKind, 2, (some .boolean))
abbrev kX9_member : mM := (yX9_member, cX9_member, 1, (some .int))
abbrev kX9_feed : mM := (yX9_feed, cX9_feed, 8, (some .int))
abbrev kX9_end : mM := (yX9_end, cX9_end, 2, (some .int))
abbrev kX9_law : mM := (yX9_law, cX9_law, 3, (some .int))
abbrev kX9_token : mM := (yX9_token, cX9_token, 2, (none : Option Jvm.ClassFile.FieldType))
abbrev kX9_byteAt : mM := (yX9_byteAt, cX9_byteAt, 2, (some .int))
abbrev kX9_statement : mM := (yX9_statement, cX9_statement, 3, (some .boolean))
abbrev kX9_isEvery : mM := (yX9_isEvery, cX9_isEvery, 1, (some .boolean))
abbrev kX9_wrong : mM := (yX9_wrong, cX9_wrong, 2, (some .boolean))
abbrev kX9_place : mM := (yX9_place, cX9_place, 1, (some .int))
abbrev kX9_look : mM := (yX9_look, cX9_look, 2, (some .boolean))
abbrev kX9_isThing : mM := (yX9_isThing, cX9_isThing, 2, (some .boolean))
abbrev kX9_outWith : mM := (yX9_outWith, cX9_outWith, 3, (some .int))
abbrev kX9_lawful : mM := (yX9_lawful, cX9_lawful, 3, (some .int))
abbrev kX9_isLawful : mM := (yX9_isLawful, cX9_isLawful, 4, (some .boolean))
abbrev kX9_wanted : mM := (yX9_wanted, cX9_wanted, 2, (some .int))
abbrev kX9_ask : mM := (yX9_ask, cX9_ask, 7, (some .int))
abbrev kX9_isMember : mM := (yX9_isMember, cX9_isMember, 2, (some .boolean))
abbrev kX9_counted : mM := (yX9_counted, cX9_counted, 4, (some .int))
abbrev kX9_plan : mM := (yX9_plan, cX9_plan, 4, (some .int))
abbrev kX9_fits : mM := (yX9_fits, cX9_fits, 3, (some .boolean))
abbrev kX9_isFreeFor : mM := (yX9_isFreeFor, cX9_isFreeFor, 6, (some .boolean))
abbrev kX9_endOf : mM := (yX9_endOf, cX9_endOf, 2, (some .int))
abbrev kX9_areNear : mM := (yX9_areNear, cX9_areNear, 9, (some .boolean))
abbrev kX9_tries : mM := (yX9_tries, cX9_tries, 4, (none : Option Jvm.ClassFile.FieldType))
abbrev kX9_worth : mM := (yX9_worth, cX9_worth, 3, (some .int))
abbrev kX9_stands : mM := (yX9_stands, cX9_stands, 4, (some .boolean))
abbrev kX9_off : mM := (yX9_off, cX9_off, 2, (some .boolean))
abbrev kX9_out : mM := (yX9_out, cX9_out, 4, (some .int))
abbrev kX9_back : mM := (yX9_back, cX9_back, 4, (some .int))
abbrev kX9_work : mM := (yX9_work, cX9_work, 3, (some .int))
abbrev kX9_days : mM := (yX9_days, cX9_days, 4, (some .int))
abbrev kX9_moves : mM := (yX9_moves, cX9_moves, 3, (none : Option Jvm.ClassFile.FieldType))
abbrev kX9_isLate : mM := (yX9_isLate, cX9_isLate, 3, (some .boolean))
abbrev kX9_isAhead : mM := (yX9_isAhead, cX9_isAhead, 3, (some .boolean))
abbrev kX9_moves_ : mM := (yX9_moves_, cX9_moves_, 3, (none : Option Jvm.ClassFile.FieldType))
abbrev kX9_buy : mM := (yX9_buy, cX9_buy, 6, (some .int))
abbrev kX9_of : mM := (yX9_of, cX9_of, 4, (some .int))
abbrev kX9_thingOf : mM := (yX9_thingOf, cX9_thingOf, 5, (some .int))
abbrev kX9_isFree : mM := (yX9_isFree, cX9_isFree, 4, (some .int))
abbrev kX9_memberOf : mM := (yX9_memberOf, cX9_memberOf, 5, (some .int))
abbrev kX9_count : mM := (yX9_count, cX9_count, 2, (some .int))
theorem mc_L_15 {k : mM} (hk : k.1.cls = "ToolHouseLaw") : g_cm k kX8_init 15 0 := ⟨tw_83, tw_53, by rw [hk]; exact tw_81, by decide +kernel, by decide⟩
theorem mc_X8_9 {k : mM} (hk : k.1.cls = "ToolHouse") : g_cm k kJx4a65c_init_da8c8 9 0 := ⟨tw_91, tw_56, by rw [hk]; exact tw_89, by decide +kernel, by decide⟩
theorem mc_Jx4a65c_1 {k : mM} (hk : k.1.cls = "java/util/ArrayList") : g_cm k kJxc12de_init_da8c8 1 0 := ⟨tw_94, tw_55, by rw [hk]; exact tw_92, by decide +kernel, by decide⟩
theorem mc_Jxc12de_1 {k : mM} (hk : k.1.cls = "java/util/AbstractList") : g_cm k kJxa1e45_init_da8c8 1 0 := ⟨tw_97, tw_54, by rw [hk]; exact tw_95, by decide +kernel, by decide⟩
theorem fg_Jx4a65c_9 : g_f "java/util/ArrayList" 9 10 1 := ⟨_, _, _, _, kc_10, by decide, _, tw_101, Or.inl rfl⟩
theorem fp_Jx4a65c_9 : g_fp "java/util/ArrayList" 9 10 1 (.array (.object "java/lang/Object")) false := ⟨_, _, _, _, kc_10, by decide, ⟨_, tw_101, Or.inl rfl⟩, rfl, rfl, fun h => by first | rfl | cases h⟩
theorem fg_Jx4a65c_48 : g_f "java/util/ArrayList" 48 10 2 := ⟨_, _, _, _, kc_10, by decide, _, tw_102, Or.inl rfl⟩
theorem fp_Jx4a65c_48 : g_fp "java/util/ArrayList" 48 10 2 (.int) false := ⟨_, _, _, _, kc_10, by decide, ⟨_, tw_102, Or.inl rfl⟩, rfl, rfl, fun h => by first | rfl | cases h⟩
theorem fg_Jx4a65c_63 : g_f "java/util/ArrayList" 63 10 0 := ⟨_, _, _, _, kc_10, by decide, _, tw_104, Or.inr tw_105⟩
theorem fp_Jx4a65c_63 : g_fp "java/util/ArrayList" 63 10 0 (.int) false := ⟨_, _, _, _, kc_10, by decide, ⟨_, tw_104, Or.inr tw_105⟩, rfl, rfl, fun h => by first | rfl | cases h⟩
theorem mc_X8_30 {k : mM} (hk : k.1.cls = "ToolHouse") : g_cn k kX6_init 30 0 "ToolHouse" := ⟨tw_117, tw_57, by rw [hk]; exact tw_115, by decide +kernel, by decide⟩
theorem fg_X6_9 : g_f "ToolHouse$Tape" 9 6 0 := ⟨_, _, _, _, kc_6, by decide, _, tw_119, Or.inl rfl⟩
theorem fp_X6_9 : g_fp "ToolHouse$Tape" 9 6 0 (.array .int) true := ⟨_, _, _, _, kc_6, by decide, ⟨_, tw_119, Or.inl rfl⟩, rfl, rfl, fun h => by first | rfl | cases h⟩
theorem fg_X6_15 : g_f "ToolHouse$Tape" 15 6 1 := ⟨_, _, _, _, kc_6, by decide, _, tw_120, Or.inl rfl⟩
theorem fp_X6_15 : g_fp "ToolHouse$Tape" 15 6 1 (.int) false := ⟨_, _, _, _, kc_6, by decide, ⟨_, tw_120, Or.inl rfl⟩, rfl, rfl, fun h => by first | rfl | cases h⟩
theorem fg_X3_34 : g_f "ToolHouse$LawReader" 34 6 1 := ⟨_, _, _, _, kc_6, by decide, _, tw_121, Or.inl rfl⟩
theorem fp_X3_34 : g_fp "ToolHouse$LawReader" 34 6 1 (.int) false := ⟨_, _, _, _, kc_6, by decide, ⟨_, tw_121, Or.inl rfl⟩, rfl, rfl, fun h => by first | rfl | cases h⟩
theorem fg_X8_98 : g_f "ToolHouse" 98 6 1 := ⟨_, _, _, _, kc_6, by decide, _, tw_122, Or.inl rfl⟩
theorem fp_X8_98 : g_fp "ToolHouse" 98 6 1 (.int) false := ⟨_, _, _, _, kc_6, by decide, ⟨_, tw_122, Or.inl rfl⟩, rfl, rfl, fun h => by first | rfl | cases h⟩
theorem mc_X8_37 {k : mM} (hk : k.1.cls = "ToolHouse") : g_cn k kX3_init 37 0 "ToolHouse" := ⟨tw_133, tw_58, by rw [hk]; exact tw_131, by decide +kernel, by decide⟩
theorem fg_X3_9 : g_f "ToolHouse$LawReader" 9 3 0 := ⟨_, _, _, _, kc_3, by decide, _, tw_135, Or.inl rfl⟩
theorem fp_X3_9 : g_fp "ToolHouse$LawReader" 9 3 0 (.array .int) true := ⟨_, _, _, _, kc_3, by decide, ⟨_, tw_135, Or.inl rfl⟩, rfl, rfl, fun h => by first | rfl | cases h⟩
theorem fg_X8_115 : g_f "ToolHouse" 115 3 0 := ⟨_, _, _, _, kc_3, by decide, _, tw_136, Or.inl rfl⟩
theorem fg_X3_15 : g_f "ToolHouse$LawReader" 15 3 1 := ⟨_, _, _, _, kc_3, by decide, _, tw_137, Or.inl rfl⟩
theorem fp_X3_15 : g_fp "ToolHouse$LawReader" 15 3 1 (.int) false := ⟨_, _, _, _, kc_3, by decide, ⟨_, tw_137, Or.inl rfl⟩, rfl, rfl, fun h => by first | rfl | cases h⟩
theorem fg_X8_112 : g_f "ToolHouse" 112 3 1 := ⟨_, _, _, _, kc_3, by decide, _, tw_138, Or.inl rfl⟩
theorem fp_X8_112 : g_fp "ToolHouse" 112 3 1 (.int) false := ⟨_, _, _, _, kc_3, by decide, ⟨_, tw_138, Or.inl rfl⟩, rfl, rfl, fun h => by first | rfl | cases h⟩
theorem fg_X3_19 : g_f "ToolHouse$LawReader" 19 3 2 := ⟨_, _, _, _, kc_3, by decide, _, tw_139, Or.inl rfl⟩
theorem fp_X3_19 : g_fp "ToolHouse$LawReader" 19 3 2 (.int) false := ⟨_, _, _, _, kc_3, by decide, ⟨_, tw_139, Or.inl rfl⟩, rfl, rfl, fun h => by first | rfl | cases h⟩
theorem fg_X8_108 : g_f "ToolHouse" 108 3 2 := ⟨_, _, _, _, kc_3, by decide, _, tw_140, Or.inl rfl⟩
theorem fp_X8_108 : g_fp "ToolHouse" 108 3 2 (.int) false := ⟨_, _, _, _, kc_3, by decide, ⟨_, tw_140, Or.inl rfl⟩, rfl, rfl, fun h => by first | rfl | cases h⟩
theorem fg_X3_22 : g_f "ToolHouse$LawReader" 22 3 3 := ⟨_, _, _, _, kc_3, by decide, _, tw_141, Or.inl rfl⟩
theorem fp_X3_22 : g_fp "ToolHouse$LawReader" 22 3 3 (.int) false := ⟨_, _, _, _, kc_3, by decide, ⟨_, tw_141, Or.inl rfl⟩, rfl, rfl, fun h => by first | rfl | cases h⟩
theorem fg_X3_25 : g_f "ToolHouse$LawReader" 25 3 4 := ⟨_, _, _, _, kc_3, by decide, _, tw_142, Or.inl rfl⟩
theorem fp_X3_25 : g_fp "ToolHouse$LawReader" 25 3 4 (.int) false := ⟨_, _, _, _, kc_3, by decide, ⟨_, tw_142, Or.inl rfl⟩, rfl, rfl, fun h => by first | rfl | cases h⟩
theorem mc_X8_44 {k : mM} (hk : k.1.cls = "ToolHouse") : g_cm k kX2_init 44 0 := ⟨tw_158, tw_59, by rw [hk]; exact tw_156, by decide +kernel, by decide⟩
theorem mc_X2_22 {k : mM} (hk : k.1.cls = "ToolHouse$LawBook") : g_cm k kJ7_fill_53178 22 2 := ⟨tw_162, tw_60, by rw [hk]; exact tw_160, by decide +kernel, by decide⟩
theorem fg_X2_9 : g_f "ToolHouse$LawBook" 9 2 0 := ⟨_, _, _, _, kc_2, by decide, _, tw_163, Or.inl rfl⟩
theorem fp_X2_9 : g_fp "ToolHouse$LawBook" 9 2 0 (.int) false := ⟨_, _, _, _, kc_2, by decide, ⟨_, tw_163, Or.inl rfl⟩, rfl, rfl, fun h => by first | rfl | cases h⟩
theorem fg_X8_101 : g_f "ToolHouse" 101 2 0 := ⟨_, _, _, _, kc_2, by decide, _, tw_164, Or.inl rfl⟩
theorem fp_X8_101 : g_fp "ToolHouse" 101 2 0 (.int) false := ⟨_, _, _, _, kc_2, by decide, ⟨_, tw_164, Or.inl rfl⟩, rfl, rfl, fun h => by first | rfl | cases h⟩
theorem fg_X2_15 : g_f "ToolHouse$LawBook" 15 2 1 := ⟨_, _, _, _, kc_2, by decide, _, tw_165, Or.inl rfl⟩
theorem fp_X2_15 : g_fp "ToolHouse$LawBook" 15 2 1 (.int) false := ⟨_, _, _, _, kc_2, by decide, ⟨_, tw_165, Or.inl rfl⟩, rfl, rfl, fun h => by first | rfl | cases h⟩
theorem fg_X8_111 : g_f "ToolHouse" 111 2 1 := ⟨_, _, _, _, kc_2, by decide, _, tw_166, Or.inl rfl⟩
theorem fp_X8_111 : g_fp "ToolHouse" 111 2 1 (.int) false := ⟨_, _, _, _, kc_2, by decide, ⟨_, tw_166, Or.inl rfl⟩, rfl, rfl, fun h => by first | rfl | cases h⟩
theorem fg_X2_18 : g_f "ToolHouse$LawBook" 18 2 2 := ⟨_, _, _, _, kc_2, by decide, _, tw_167, Or.inl rfl⟩
theorem fp_X2_18 : g_fp "ToolHouse$LawBook" 18 2 2 (.array .int) true := ⟨_, _, _, _, kc_2, by decide, ⟨_, tw_167, Or.inl rfl⟩, rfl, rfl, fun h => by first | rfl | cases h⟩
theorem mc_X8_51 {k : mM} (hk : k.1.cls = "ToolHouse") : g_cn k kX5_init 51 0 "ToolHouse" := ⟨tw_179, tw_61, by rw [hk]; exact tw_177, by decide +kernel, by decide⟩
theorem fg_X5_13 : g_f "ToolHouse$Planner" 13 5 0 := ⟨_, _, _, _, kc_5, by decide, _, tw_183, Or.inl rfl⟩
theorem fp_X5_13 : g_fp "ToolHouse$Planner" 13 5 0 (.array (.object "ToolHouse$Ask")) true := ⟨_, _, _, _, kc_5, by decide, ⟨_, tw_183, Or.inl rfl⟩, rfl, rfl, fun h => by first | rfl | cases h⟩
theorem fg_X5_17 : g_f "ToolHouse$Planner" 17 5 1 := ⟨_, _, _, _, kc_5, by decide, _, tw_184, Or.inl rfl⟩
theorem fp_X5_17 : g_fp "ToolHouse$Planner" 17 5 1 (.int) false := ⟨_, _, _, _, kc_5, by decide, ⟨_, tw_184, Or.inl rfl⟩, rfl, rfl, fun h => by first | rfl | cases h⟩
theorem fg_X5_21 : g_f "ToolHouse$Planner" 21 5 2 := ⟨_, _, _, _, kc_5, by decide, _, tw_185, Or.inl rfl⟩
theorem fp_X5_21 : g_fp "ToolHouse$Planner" 21 5 2 (.array .int) true := ⟨_, _, _, _, kc_5, by decide, ⟨_, tw_185, Or.inl rfl⟩, rfl, rfl, fun h => by first | rfl | cases h⟩
theorem fg_X5_25 : g_f "ToolHouse$Planner" 25 5 3 := ⟨_, _, _, _, kc_5, by decide, _, tw_186, Or.inl rfl⟩
theorem fp_X5_25 : g_fp "ToolHouse$Planner" 25 5 3 (.array .int) true := ⟨_, _, _, _, kc_5, by decide, ⟨_, tw_186, Or.inl rfl⟩, rfl, rfl, fun h => by first | rfl | cases h⟩
theorem fg_X8_10 : g_f "ToolHouse" 10 8 0 := ⟨_, _, _, _, kc_8, by decide, _, tw_196, Or.inl rfl⟩
theorem fp_X8_10 : g_fp "ToolHouse" 10 8 0 (.object "java/util/ArrayList") true := ⟨_, _, _, _, kc_8, by decide, ⟨_, tw_196, Or.inl rfl⟩, rfl, rfl, fun h => by first | rfl | cases h⟩
theorem fg_X8_16 : g_f "ToolHouse" 16 8 1 := ⟨_, _, _, _, kc_8, by decide, _, tw_197, Or.inl rfl⟩
theorem fp_X8_16 : g_fp "ToolHouse" 16 8 1 (.object "java/util/ArrayList") true := ⟨_, _, _, _, kc_8, by decide, ⟨_, tw_197, Or.inl rfl⟩, rfl, rfl, fun h => by first | rfl | cases h⟩
theorem fg_X8_19 : g_f "ToolHouse" 19 8 2 := ⟨_, _, _, _, kc_8, by decide, _, tw_198, Or.inl rfl⟩
theorem fp_X8_19 : g_fp "ToolHouse" 19 8 2 (.object "java/util/ArrayList") true := ⟨_, _, _, _, kc_8, by decide, ⟨_, tw_198, Or.inl rfl⟩, rfl, rfl, fun h => by first | rfl | cases h⟩
theorem fg_X8_22 : g_f "ToolHouse" 22 8 3 := ⟨_, _, _, _, kc_8, by decide, _, tw_199, Or.inl rfl⟩
theorem fp_X8_22 : g_fp "ToolHouse" 22 8 3 (.object "java/util/ArrayList") true := ⟨_, _, _, _, kc_8, by decide, ⟨_, tw_199, Or.inl rfl⟩, rfl, rfl, fun h => by first | rfl | cases h⟩
theorem fg_X8_25 : g_f "ToolHouse" 25 8 4 := ⟨_, _, _, _, kc_8, by decide, _, tw_200, Or.inl rfl⟩
theorem fp_X8_25 : g_fp "ToolHouse" 25 8 4 (.object "java/util/ArrayList") true := ⟨_, _, _, _, kc_8, by decide, ⟨_, tw_200, Or.inl rfl⟩, rfl, rfl, fun h => by first | rfl | cases h⟩
theorem fg_X8_31 : g_f "ToolHouse" 31 8 5 := ⟨_, _, _, _, kc_8, by decide, _, tw_201, Or.inl rfl⟩
theorem fp_X8_31 : g_fp "ToolHouse" 31 8 5 (.object "ToolHouse$Tape") true := ⟨_, _, _, _, kc_8, by decide, ⟨_, tw_201, Or.inl rfl⟩, rfl, rfl, fun h => by first | rfl | cases h⟩
theorem fg_X8_38 : g_f "ToolHouse" 38 8 6 := ⟨_, _, _, _, kc_8, by decide, _, tw_202, Or.inl rfl⟩
theorem fp_X8_38 : g_fp "ToolHouse" 38 8 6 (.object "ToolHouse$LawReader") true := ⟨_, _, _, _, kc_8, by decide, ⟨_, tw_202, Or.inl rfl⟩, rfl, rfl, fun h => by first | rfl | cases h⟩
theorem fg_X8_45 : g_f "ToolHouse" 45 8 7 := ⟨_, _, _, _, kc_8, by decide, _, tw_203, Or.inl rfl⟩
theorem fp_X8_45 : g_fp "ToolHouse" 45 8 7 (.object "ToolHouse$LawBook") true := ⟨_, _, _, _, kc_8, by decide, ⟨_, tw_203, Or.inl rfl⟩, rfl, rfl, fun h => by first | rfl | cases h⟩
theorem fg_X8_52 : g_f "ToolHouse" 52 8 8 := ⟨_, _, _, _, kc_8, by decide, _, tw_204, Or.inl rfl⟩
theorem fp_X8_52 : g_fp "ToolHouse" 52 8 8 (.object "ToolHouse$Planner") true := ⟨_, _, _, _, kc_8, by decide, ⟨_, tw_204, Or.inl rfl⟩, rfl, rfl, fun h => by first | rfl | cases h⟩
theorem fg_X8_56 : g_f "ToolHouse" 56 8 9 := ⟨_, _, _, _, kc_8, by decide, _, tw_205, Or.inl rfl⟩
theorem fp_X8_56 : g_fp "ToolHouse" 56 8 9 (.int) false := ⟨_, _, _, _, kc_8, by decide, ⟨_, tw_205, Or.inl rfl⟩, rfl, rfl, fun h => by first | rfl | cases h⟩
theorem mc_L_19 {k : mM} (hk : k.1.cls = "ToolHouseLaw") : g_cm k kX8_kind 19 3 := ⟨tw_230, tw_53, by rw [hk]; exact tw_227, by decide +kernel, by decide⟩
theorem mc_X8_60 {k : mM} (hk : k.1.cls = "ToolHouse") : g_cm k kJx4a65c_size_8abf5 60 0 := ⟨tw_234, tw_56, by rw [hk]; exact tw_231, by decide +kernel, by decide⟩
theorem mc_X8_64 {k : mM} (hk : k.1.cls = "ToolHouse") : g_cm k kX8_isWithin 64 3 := ⟨tw_237, tw_53, by rw [hk]; exact tw_235, by decide +kernel, by decide⟩
theorem mc_X8_70 {k : mM} (hk : k.1.cls = "ToolHouse") : g_cm k kX1_init 70 4 := ⟨tw_242, tw_63, by rw [hk]; exact tw_240, by decide +kernel, by decide⟩
theorem fg_X1_7 : g_f "ToolHouse$Kind" 7 1 0 := ⟨_, _, _, _, kc_1, by decide, _, tw_244, Or.inl rfl⟩
theorem fp_X1_7 : g_fp "ToolHouse$Kind" 7 1 0 (.int) true := ⟨_, _, _, _, kc_1, by decide, ⟨_, tw_244, Or.inl rfl⟩, rfl, rfl, fun h => by first | rfl | cases h⟩
theorem fg_X2_34 : g_f "ToolHouse$LawBook" 34 1 0 := ⟨_, _, _, _, kc_1, by decide, _, tw_245, Or.inl rfl⟩
theorem fg_X8_258 : g_f "ToolHouse" 258 1 0 := ⟨_, _, _, _, kc_1, by decide, _, tw_246, Or.inl rfl⟩
theorem fg_X1_13 : g_f "ToolHouse$Kind" 13 1 1 := ⟨_, _, _, _, kc_1, by decide, _, tw_247, Or.inl rfl⟩
theorem fp_X1_13 : g_fp "ToolHouse$Kind" 13 1 1 (.int) true := ⟨_, _, _, _, kc_1, by decide, ⟨_, tw_247, Or.inl rfl⟩, rfl, rfl, fun h => by first | rfl | cases h⟩
theorem fg_X7_34 : g_f "ToolHouse$Thing" 34 1 1 := ⟨_, _, _, _, kc_1, by decide, _, tw_248, Or.inl rfl⟩
theorem fg_X5_62 : g_f "ToolHouse$Planner" 62 1 1 := ⟨_, _, _, _, kc_1, by decide, _, tw_249, Or.inl rfl⟩
theorem fg_X8_240 : g_f "ToolHouse" 240 1 1 := ⟨_, _, _, _, kc_1, by decide, _, tw_250, Or.inl rfl⟩
theorem fg_X1_16 : g_f "ToolHouse$Kind" 16 1 2 := ⟨_, _, _, _, kc_1, by decide, _, tw_251, Or.inl rfl⟩
theorem fp_X1_16 : g_fp "ToolHouse$Kind" 16 1 2 (.int) true := ⟨_, _, _, _, kc_1, by decide, ⟨_, tw_251, Or.inl rfl⟩, rfl, rfl, fun h => by first | rfl | cases h⟩
theorem fg_X1_19 : g_f "ToolHouse$Kind" 19 1 3 := ⟨_, _, _, _, kc_1, by decide, _, tw_252, Or.inl rfl⟩
theorem fp_X1_19 : g_fp "ToolHouse$Kind" 19 1 3 (.int) true := ⟨_, _, _, _, kc_1, by decide, ⟨_, tw_252, Or.inl rfl⟩, rfl, rfl, fun h => by first | rfl | cases h⟩
theorem fg_X8_214 : g_f "ToolHouse" 214 1 3 := ⟨_, _, _, _, kc_1, by decide, _, tw_253, Or.inl rfl⟩
theorem mc_X8_73 {k : mM} (hk : k.1.cls = "ToolHouse") : g_cm k kJx4a65c_add_9ea2d 73 1 := ⟨tw_266, tw_56, by rw [hk]; exact tw_263, by decide +kernel, by decide⟩
theorem mc_Jx4a65c_131 {k : mM} (hk : k.1.cls = "java/util/ArrayList") : g_cm k kJx4a65c_add_72be8 131 3 := ⟨tw_270, tw_56, by rw [hk]; exact tw_267, by decide +kernel, by decide⟩
theorem mc_Jx4a65c_129 {k : mM} (hk : k.1.cls = "java/util/ArrayList") : g_cm k kJx4a65c_grow_d5877 129 0 := ⟨tw_274, tw_56, by rw [hk]; exact tw_271, by decide +kernel, by decide⟩
theorem mc_Jx4a65c_69 {k : mM} (hk : k.1.cls = "java/util/ArrayList") : g_cm k kJx4a65c_grow_92f84 69 1 := ⟨tw_278, tw_56, by rw [hk]; exact tw_275, by decide +kernel, by decide⟩
theorem mc_Jx4a65c_73 {k : mM} (hk : k.1.cls = "java/util/ArrayList") : g_cm k kJ8_newLength_cabcc 73 3 := ⟨tw_281, tw_64, by rw [hk]; exact tw_279, by decide +kernel, by decide⟩
theorem mc_J8_194 {k : mM} (hk : k.1.cls = "jdk/internal/util/ArraysSupport") : g_cm k kJ9_max_7cf53 194 2 := ⟨tw_284, tw_65, by rw [hk]; exact tw_282, by decide +kernel, by decide⟩
theorem mc_J8_201 {k : mM} (hk : k.1.cls = "jdk/internal/util/ArraysSupport") : g_cm k kJ8_hugeLength_7cf53 201 2 := ⟨tw_288, tw_64, by rw [hk]; exact tw_286, by decide +kernel, by decide⟩
theorem mc_Jx4a65c_66 {k : mM} (hk : k.1.cls = "java/util/ArrayList") : g_cm k kJ7_copyOf_1904c 66 2 := ⟨tw_291, tw_60, by rw [hk]; exact tw_289, by decide +kernel, by decide⟩
theorem mc_J7_300 {k : mM} (hk : k.1.cls = "java/util/Arrays") : g_cm k kJ7_copyOf_6403c 300 3 := ⟨tw_310, tw_60, by rw [hk]; exact tw_308, by decide +kernel, by decide⟩
theorem mc_J7_304 {k : mM} (hk : k.1.cls = "java/util/Arrays") : g_cm k kJ9_min_7cf53 304 2 := ⟨tw_316, tw_65, by rw [hk]; exact tw_314, by decide +kernel, by decide⟩
theorem mc_Jx4a65c_79 {k : mM} (hk : k.1.cls = "java/util/ArrayList") : g_cm k kJ9_max_7cf53 79 2 := ⟨tw_284, tw_65, by rw [hk]; exact tw_320, by decide +kernel, by decide⟩
theorem mc_L_24 {k : mM} (hk : k.1.cls = "ToolHouseLaw") : g_cm k kX8_thing 24 1 := ⟨tw_325, tw_53, by rw [hk]; exact tw_322, by decide +kernel, by decide⟩
theorem mc_X8_77 {k : mM} (hk : k.1.cls = "ToolHouse") : g_cm k kX8_kindAt 77 1 := ⟨tw_329, tw_53, by rw [hk]; exact tw_326, by decide +kernel, by decide⟩
theorem mc_X8_158 {k : mM} (hk : k.1.cls = "ToolHouse") : g_cm k kJx4a65c_get_915e3 158 1 := ⟨tw_333, tw_56, by rw [hk]; exact tw_330, by decide +kernel, by decide⟩
theorem mc_Jx4a65c_118 {k : mM} (hk : k.1.cls = "java/util/ArrayList") : g_cm k kJ15_checkIndex_7cf53 118 2 := ⟨tw_336, tw_67, by rw [hk]; exact tw_334, by decide +kernel, by decide⟩
theorem mc_J15_105 {k : mM} (hk : k.1.cls = "java/util/Objects") : g_cm k kJ3_checkIndex_8e157 105 3 := ⟨tw_339, tw_68, by rw [hk]; exact tw_337, by decide +kernel, by decide⟩
theorem mc_Jx4a65c_123 {k : mM} (hk : k.1.cls = "java/util/ArrayList") : g_cm k kJx4a65c_elementData_915e3 123 1 := ⟨tw_343, tw_56, by rw [hk]; exact tw_340, by decide +kernel, by decide⟩
theorem mc_X8_83 {k : mM} (hk : k.1.cls = "ToolHouse") : g_cm k kX7_init 83 2 := ⟨tw_348, tw_69, by rw [hk]; exact tw_346, by decide +kernel, by decide⟩
theorem fg_X7_22 : g_f "ToolHouse$Thing" 22 7 0 := ⟨_, _, _, _, kc_7, by decide, _, tw_350, Or.inl rfl⟩
theorem fp_X7_22 : g_fp "ToolHouse$Thing" 22 7 0 (.int) true := ⟨_, _, _, _, kc_7, by decide, ⟨_, tw_350, Or.inl rfl⟩, rfl, rfl, fun h => by first | rfl | cases h⟩
theorem fg_X5_71 : g_f "ToolHouse$Planner" 71 7 0 := ⟨_, _, _, _, kc_7, by decide, _, tw_351, Or.inl rfl⟩
theorem fg_X8_250 : g_f "ToolHouse" 250 7 0 := ⟨_, _, _, _, kc_7, by decide, _, tw_352, Or.inl rfl⟩
theorem fg_X7_25 : g_f "ToolHouse$Thing" 25 7 1 := ⟨_, _, _, _, kc_7, by decide, _, tw_353, Or.inl rfl⟩
theorem fp_X7_25 : g_fp "ToolHouse$Thing" 25 7 1 (.object "ToolHouse$Kind") true := ⟨_, _, _, _, kc_7, by decide, ⟨_, tw_353, Or.inl rfl⟩, rfl, rfl, fun h => by first | rfl | cases h⟩
theorem fg_X2_28 : g_f "ToolHouse$LawBook" 28 7 1 := ⟨_, _, _, _, kc_7, by decide, _, tw_354, Or.inl rfl⟩
theorem fg_X5_56 : g_f "ToolHouse$Planner" 56 7 1 := ⟨_, _, _, _, kc_7, by decide, _, tw_355, Or.inl rfl⟩
theorem fg_X8_210 : g_f "ToolHouse" 210 7 1 := ⟨_, _, _, _, kc_7, by decide, _, tw_356, Or.inl rfl⟩
theorem fg_X7_9 : g_f "ToolHouse$Thing" 9 7 2 := ⟨_, _, _, _, kc_7, by decide, _, tw_357, Or.inl rfl⟩
theorem fp_X7_9 : g_fp "ToolHouse$Thing" 9 7 2 (.int) false := ⟨_, _, _, _, kc_7, by decide, ⟨_, tw_357, Or.inl rfl⟩, rfl, rfl, fun h => by first | rfl | cases h⟩
theorem fg_X2_43 : g_f "ToolHouse$LawBook" 43 7 2 := ⟨_, _, _, _, kc_7, by decide, _, tw_358, Or.inl rfl⟩
theorem fp_X2_43 : g_fp "ToolHouse$LawBook" 43 7 2 (.int) false := ⟨_, _, _, _, kc_7, by decide, ⟨_, tw_358, Or.inl rfl⟩, rfl, rfl, fun h => by first | rfl | cases h⟩
theorem fg_X8_131 : g_f "ToolHouse" 131 7 2 := ⟨_, _, _, _, kc_7, by decide, _, tw_359, Or.inl rfl⟩
theorem fp_X8_131 : g_fp "ToolHouse" 131 7 2 (.int) false := ⟨_, _, _, _, kc_7, by decide, ⟨_, tw_359, Or.inl rfl⟩, rfl, rfl, fun h => by first | rfl | cases h⟩
theorem fg_X7_15 : g_f "ToolHouse$Thing" 15 7 3 := ⟨_, _, _, _, kc_7, by decide, _, tw_360, Or.inl rfl⟩
theorem fp_X7_15 : g_fp "ToolHouse$Thing" 15 7 3 (.int) false := ⟨_, _, _, _, kc_7, by decide, ⟨_, tw_360, Or.inl rfl⟩, rfl, rfl, fun h => by first | rfl | cases h⟩
theorem fg_X8_221 : g_f "ToolHouse" 221 7 3 := ⟨_, _, _, _, kc_7, by decide, _, tw_361, Or.inl rfl⟩
theorem fp_X8_221 : g_fp "ToolHouse" 221 7 3 (.int) false := ⟨_, _, _, _, kc_7, by decide, ⟨_, tw_361, Or.inl rfl⟩, rfl, rfl, fun h => by first | rfl | cases h⟩
theorem fg_X7_18 : g_f "ToolHouse$Thing" 18 7 4 := ⟨_, _, _, _, kc_7, by decide, _, tw_362, Or.inl rfl⟩
theorem fp_X7_18 : g_fp "ToolHouse$Thing" 18 7 4 (.object "ToolHouse$Ask") false := ⟨_, _, _, _, kc_7, by decide, ⟨_, tw_362, Or.inl rfl⟩, rfl, rfl, fun h => by first | rfl | cases h⟩
theorem fg_X8_127 : g_f "ToolHouse" 127 7 4 := ⟨_, _, _, _, kc_7, by decide, _, tw_363, Or.inl rfl⟩
theorem fp_X8_127 : g_fp "ToolHouse" 127 7 4 (.object "ToolHouse$Ask") false := ⟨_, _, _, _, kc_7, by decide, ⟨_, tw_363, Or.inl rfl⟩, rfl, rfl, fun h => by first | rfl | cases h⟩
theorem mc_L_29 {k : mM} (hk : k.1.cls = "ToolHouseLaw") : g_cm k kX8_member 29 0 := ⟨tw_378, tw_53, by rw [hk]; exact tw_375, by decide +kernel, by decide⟩
theorem mc_X8_88 {k : mM} (hk : k.1.cls = "ToolHouse") : g_cm k kX4_init 88 1 := ⟨tw_383, tw_70, by rw [hk]; exact tw_381, by decide +kernel, by decide⟩
theorem fg_X4_19 : g_f "ToolHouse$Member" 19 4 0 := ⟨_, _, _, _, kc_4, by decide, _, tw_385, Or.inl rfl⟩
theorem fp_X4_19 : g_fp "ToolHouse$Member" 19 4 0 (.int) true := ⟨_, _, _, _, kc_4, by decide, ⟨_, tw_385, Or.inl rfl⟩, rfl, rfl, fun h => by first | rfl | cases h⟩
theorem fg_X8_256 : g_f "ToolHouse" 256 4 0 := ⟨_, _, _, _, kc_4, by decide, _, tw_386, Or.inl rfl⟩
theorem fg_X4_7 : g_f "ToolHouse$Member" 7 4 1 := ⟨_, _, _, _, kc_4, by decide, _, tw_387, Or.inl rfl⟩
theorem fp_X4_7 : g_fp "ToolHouse$Member" 7 4 1 (.int) false := ⟨_, _, _, _, kc_4, by decide, ⟨_, tw_387, Or.inl rfl⟩, rfl, rfl, fun h => by first | rfl | cases h⟩
theorem fg_X8_227 : g_f "ToolHouse" 227 4 1 := ⟨_, _, _, _, kc_4, by decide, _, tw_388, Or.inl rfl⟩
theorem fp_X8_227 : g_fp "ToolHouse" 227 4 1 (.int) false := ⟨_, _, _, _, kc_4, by decide, ⟨_, tw_388, Or.inl rfl⟩, rfl, rfl, fun h => by first | rfl | cases h⟩
theorem fg_X4_13 : g_f "ToolHouse$Member" 13 4 2 := ⟨_, _, _, _, kc_4, by decide, _, tw_389, Or.inl rfl⟩
theorem fp_X4_13 : g_fp "ToolHouse$Member" 13 4 2 (.int) false := ⟨_, _, _, _, kc_4, by decide, ⟨_, tw_389, Or.inl rfl⟩, rfl, rfl, fun h => by first | rfl | cases h⟩
theorem fg_X8_276 : g_f "ToolHouse" 276 4 2 := ⟨_, _, _, _, kc_4, by decide, _, tw_390, Or.inl rfl⟩
theorem fp_X8_276 : g_fp "ToolHouse" 276 4 2 (.int) false := ⟨_, _, _, _, kc_4, by decide, ⟨_, tw_390, Or.inl rfl⟩, rfl, rfl, fun h => by first | rfl | cases h⟩
theorem fg_X4_16 : g_f "ToolHouse$Member" 16 4 3 := ⟨_, _, _, _, kc_4, by decide, _, tw_391, Or.inl rfl⟩
theorem fp_X4_16 : g_fp "ToolHouse$Member" 16 4 3 (.int) false := ⟨_, _, _, _, kc_4, by decide, ⟨_, tw_391, Or.inl rfl⟩, rfl, rfl, fun h => by first | rfl | cases h⟩
theorem fg_X8_195 : g_f "ToolHouse" 195 4 3 := ⟨_, _, _, _, kc_4, by decide, _, tw_392, Or.inl rfl⟩
theorem fp_X8_195 : g_fp "ToolHouse" 195 4 3 (.int) false := ⟨_, _, _, _, kc_4, by decide, ⟨_, tw_392, Or.inl rfl⟩, rfl, rfl, fun h => by first | rfl | cases h⟩
theorem mc_L_34 {k : mM} (hk : k.1.cls = "ToolHouseLaw") : g_cm k kX8_feed 34 5 := ⟨tw_405, tw_53, by rw [hk]; exact tw_402, by decide +kernel, by decide⟩
theorem mc_X8_91 {k : mM} (hk : k.1.cls = "ToolHouse") : g_cm k kX6_hasRoom 91 0 := ⟨tw_409, tw_57, by rw [hk]; exact tw_406, by decide +kernel, by decide⟩
theorem mc_X8_95 {k : mM} (hk : k.1.cls = "ToolHouse") : g_cm k kX6_put 95 1 := ⟨tw_413, tw_57, by rw [hk]; exact tw_410, by decide +kernel, by decide⟩
theorem mc_L_39 {k : mM} (hk : k.1.cls = "ToolHouseLaw") : g_cm k kX8_end 39 1 := ⟨tw_417, tw_53, by rw [hk]; exact tw_414, by decide +kernel, by decide⟩
theorem mc_L_43 {k : mM} (hk : k.1.cls = "ToolHouseLaw") : g_cm k kX8_law 43 0 := ⟨tw_421, tw_53, by rw [hk]; exact tw_418, by decide +kernel, by decide⟩
theorem mc_X8_104 {k : mM} (hk : k.1.cls = "ToolHouse") : g_cm k kX3_read 104 2 := ⟨tw_425, tw_58, by rw [hk]; exact tw_422, by decide +kernel, by decide⟩
theorem mc_X3_28 {k : mM} (hk : k.1.cls = "ToolHouse$LawReader") : g_cm k kJ7_fill_53178 28 2 := ⟨tw_162, tw_60, by rw [hk]; exact tw_426, by decide +kernel, by decide⟩
theorem mc_X3_39 {k : mM} (hk : k.1.cls = "ToolHouse$LawReader") : g_cm k kX6_byteAt 39 1 := ⟨tw_430, tw_57, by rw [hk]; exact tw_427, by decide +kernel, by decide⟩
theorem mc_X3_43 {k : mM} (hk : k.1.cls = "ToolHouse$LawReader") : g_cm k kX3_isBlank 43 1 := ⟨tw_433, tw_58, by rw [hk]; exact tw_431, by decide +kernel, by decide⟩
theorem mc_X3_47 {k : mM} (hk : k.1.cls = "ToolHouse$LawReader") : g_cm k kX3_endOfToken 47 2 := ⟨tw_436, tw_58, by rw [hk]; exact tw_434, by decide +kernel, by decide⟩
theorem mc_X3_75 {k : mM} (hk : k.1.cls = "ToolHouse$LawReader") : g_cm k kX3_isLetter 75 1 := ⟨tw_439, tw_58, by rw [hk]; exact tw_437, by decide +kernel, by decide⟩
theorem mc_X3_78 {k : mM} (hk : k.1.cls = "ToolHouse$LawReader") : g_cm k kX3_isDigit 78 1 := ⟨tw_442, tw_58, by rw [hk]; exact tw_440, by decide +kernel, by decide⟩
theorem mc_X3_51 {k : mM} (hk : k.1.cls = "ToolHouse$LawReader") : g_cm k kX3_take 51 4 := ⟨tw_446, tw_58, by rw [hk]; exact tw_443, by decide +kernel, by decide⟩
theorem mc_X3_59 {k : mM} (hk : k.1.cls = "ToolHouse$LawReader") : g_cm k kX3_numberOf 59 3 := ⟨tw_449, tw_58, by rw [hk]; exact tw_447, by decide +kernel, by decide⟩
theorem mc_X3_63 {k : mM} (hk : k.1.cls = "ToolHouse$LawReader") : g_cm k kX3_isEvery 63 3 := ⟨tw_452, tw_58, by rw [hk]; exact tw_450, by decide +kernel, by decide⟩
theorem mc_X3_83 {k : mM} (hk : k.1.cls = "ToolHouse$LawReader") : g_cm k kJ0_length_8abf5 83 0 := ⟨tw_457, tw_71, by rw [hk]; exact tw_454, by decide +kernel, by decide⟩
theorem mc_J0_335 {k : mM} (hk : k.1.cls = "java/lang/String") : g_cm k kJ0_coder_7d493 335 0 := ⟨tw_461, tw_71, by rw [hk]; exact tw_458, by decide +kernel, by decide⟩
theorem mc_X3_88 {k : mM} (hk : k.1.cls = "ToolHouse$LawReader") : g_cm k kJ0_charAt_5068e 88 1 := ⟨tw_467, tw_71, by rw [hk]; exact tw_464, by decide +kernel, by decide⟩
theorem mc_J0_492 {k : mM} (hk : k.1.cls = "java/lang/String") : g_cm k kJ0_isLatin1_aae02 492 0 := ⟨tw_471, tw_71, by rw [hk]; exact tw_468, by decide +kernel, by decide⟩
theorem mc_J0_495 {k : mM} (hk : k.1.cls = "java/lang/String") : g_cm k kJ1_charAt_3b067 495 2 := ⟨tw_474, tw_72, by rw [hk]; exact tw_472, by decide +kernel, by decide⟩
theorem mc_J1_9 {k : mM} (hk : k.1.cls = "java/lang/StringLatin1") : g_cm k kJ0_checkIndex_df160 9 2 := ⟨tw_477, tw_71, by rw [hk]; exact tw_475, by decide +kernel, by decide⟩
theorem mc_J0_1059 {k : mM} (hk : k.1.cls = "java/lang/String") : g_cm k kJ3_checkIndex_8e157 1059 3 := ⟨tw_339, tw_68, by rw [hk]; exact tw_480, by decide +kernel, by decide⟩
theorem mc_J0_498 {k : mM} (hk : k.1.cls = "java/lang/String") : g_cm k kJ2_charAt_3b067 498 2 := ⟨tw_483, tw_73, by rw [hk]; exact tw_481, by decide +kernel, by decide⟩
theorem mc_J2_67 {k : mM} (hk : k.1.cls = "java/lang/StringUTF16") : g_cm k kJ2_checkIndex_2214a 67 2 := ⟨tw_486, tw_73, by rw [hk]; exact tw_484, by decide +kernel, by decide⟩
theorem mc_J2_48 {k : mM} (hk : k.1.cls = "java/lang/StringUTF16") : g_cm k kJ2_length_9d52b 48 1 := ⟨tw_489, tw_73, by rw [hk]; exact tw_487, by decide +kernel, by decide⟩
theorem mc_J2_414 {k : mM} (hk : k.1.cls = "java/lang/StringUTF16") : g_cm k kJ0_checkIndex_df160 414 2 := ⟨tw_477, tw_71, by rw [hk]; exact tw_490, by decide +kernel, by decide⟩
theorem mc_J2_71 {k : mM} (hk : k.1.cls = "java/lang/StringUTF16") : g_cm k kJ2_getChar_3b067 71 2 := ⟨tw_493, tw_73, by rw [hk]; exact tw_491, by decide +kernel, by decide⟩
theorem mc_X3_67 {k : mM} (hk : k.1.cls = "ToolHouse$LawReader") : g_cm k kX3_takeKind 67 3 := ⟨tw_503, tw_58, by rw [hk]; exact tw_500, by decide +kernel, by decide⟩
theorem mc_X3_55 {k : mM} (hk : k.1.cls = "ToolHouse$LawReader") : g_cm k kX3_blame 55 2 := ⟨tw_507, tw_58, by rw [hk]; exact tw_504, by decide +kernel, by decide⟩
theorem mc_X3_71 {k : mM} (hk : k.1.cls = "ToolHouse$LawReader") : g_cm k kX3_takeDays 71 1 := ⟨tw_511, tw_58, by rw [hk]; exact tw_508, by decide +kernel, by decide⟩
theorem mc_X8_119 {k : mM} (hk : k.1.cls = "ToolHouse") : g_cm k kX2_tell 119 1 := ⟨tw_515, tw_59, by rw [hk]; exact tw_512, by decide +kernel, by decide⟩
theorem mc_L_47 {k : mM} (hk : k.1.cls = "ToolHouseLaw") : g_cm k kX8_place 47 0 := ⟨tw_520, tw_53, by rw [hk]; exact tw_517, by decide +kernel, by decide⟩
theorem mc_L_51 {k : mM} (hk : k.1.cls = "ToolHouseLaw") : g_cm k kX8_look 51 1 := ⟨tw_524, tw_53, by rw [hk]; exact tw_521, by decide +kernel, by decide⟩
theorem mc_X8_123 {k : mM} (hk : k.1.cls = "ToolHouse") : g_cm k kX8_thingAt 123 1 := ⟨tw_528, tw_53, by rw [hk]; exact tw_525, by decide +kernel, by decide⟩
theorem mc_L_56 {k : mM} (hk : k.1.cls = "ToolHouseLaw") : g_cm k kX8_lawful 56 2 := ⟨tw_532, tw_53, by rw [hk]; exact tw_529, by decide +kernel, by decide⟩
theorem mc_X8_134 {k : mM} (hk : k.1.cls = "ToolHouse") : g_cm k kX2_lets 134 2 := ⟨tw_536, tw_59, by rw [hk]; exact tw_533, by decide +kernel, by decide⟩
theorem mc_X2_39 {k : mM} (hk : k.1.cls = "ToolHouse$LawBook") : g_cm k kX2_daysWanted 39 1 := ⟨tw_540, tw_59, by rw [hk]; exact tw_537, by decide +kernel, by decide⟩
theorem mc_L_60 {k : mM} (hk : k.1.cls = "ToolHouseLaw") : g_cm k kX8_ask 60 6 := ⟨tw_544, tw_53, by rw [hk]; exact tw_541, by decide +kernel, by decide⟩
theorem mc_X8_138 {k : mM} (hk : k.1.cls = "ToolHouse") : g_cm k kX8_memberAt 138 1 := ⟨tw_548, tw_53, by rw [hk]; exact tw_545, by decide +kernel, by decide⟩
theorem mc_X8_142 {k : mM} (hk : k.1.cls = "ToolHouse") : g_cm k kX8_canBeAsked 142 2 := ⟨tw_552, tw_53, by rw [hk]; exact tw_549, by decide +kernel, by decide⟩
theorem mc_X8_146 {k : mM} (hk : k.1.cls = "ToolHouse") : g_cm k kX8_howManyAre 146 1 := ⟨tw_556, tw_53, by rw [hk]; exact tw_553, by decide +kernel, by decide⟩
theorem mc_X8_152 {k : mM} (hk : k.1.cls = "ToolHouse") : g_cm k kX0_init 152 7 := ⟨tw_561, tw_74, by rw [hk]; exact tw_559, by decide +kernel, by decide⟩
theorem fg_X0_25 : g_f "ToolHouse$Ask" 25 0 0 := ⟨_, _, _, _, kc_0, by decide, _, tw_563, Or.inl rfl⟩
theorem fp_X0_25 : g_fp "ToolHouse$Ask" 25 0 0 (.int) true := ⟨_, _, _, _, kc_0, by decide, ⟨_, tw_563, Or.inl rfl⟩, rfl, rfl, fun h => by first | rfl | cases h⟩
theorem fg_X8_264 : g_f "ToolHouse" 264 0 0 := ⟨_, _, _, _, kc_0, by decide, _, tw_564, Or.inl rfl⟩
theorem fg_X0_28 : g_f "ToolHouse$Ask" 28 0 1 := ⟨_, _, _, _, kc_0, by decide, _, tw_565, Or.inl rfl⟩
theorem fp_X0_28 : g_fp "ToolHouse$Ask" 28 0 1 (.object "ToolHouse$Member") true := ⟨_, _, _, _, kc_0, by decide, ⟨_, tw_565, Or.inl rfl⟩, rfl, rfl, fun h => by first | rfl | cases h⟩
theorem fg_X8_191 : g_f "ToolHouse" 191 0 1 := ⟨_, _, _, _, kc_0, by decide, _, tw_566, Or.inl rfl⟩
theorem fg_X0_32 : g_f "ToolHouse$Ask" 32 0 2 := ⟨_, _, _, _, kc_0, by decide, _, tw_567, Or.inl rfl⟩
theorem fp_X0_32 : g_fp "ToolHouse$Ask" 32 0 2 (.object "ToolHouse$Kind") true := ⟨_, _, _, _, kc_0, by decide, ⟨_, tw_567, Or.inl rfl⟩, rfl, rfl, fun h => by first | rfl | cases h⟩
theorem fg_X1_22 : g_f "ToolHouse$Kind" 22 0 2 := ⟨_, _, _, _, kc_0, by decide, _, tw_568, Or.inl rfl⟩
theorem fg_X5_80 : g_f "ToolHouse$Planner" 80 0 2 := ⟨_, _, _, _, kc_0, by decide, _, tw_569, Or.inl rfl⟩
theorem fg_X8_257 : g_f "ToolHouse" 257 0 2 := ⟨_, _, _, _, kc_0, by decide, _, tw_570, Or.inl rfl⟩
theorem fg_X0_36 : g_f "ToolHouse$Ask" 36 0 3 := ⟨_, _, _, _, kc_0, by decide, _, tw_571, Or.inl rfl⟩
theorem fp_X0_36 : g_fp "ToolHouse$Ask" 36 0 3 (.int) true := ⟨_, _, _, _, kc_0, by decide, ⟨_, tw_571, Or.inl rfl⟩, rfl, rfl, fun h => by first | rfl | cases h⟩
theorem fg_X1_28 : g_f "ToolHouse$Kind" 28 0 3 := ⟨_, _, _, _, kc_0, by decide, _, tw_572, Or.inl rfl⟩
theorem fg_X0_39 : g_f "ToolHouse$Ask" 39 0 4 := ⟨_, _, _, _, kc_0, by decide, _, tw_573, Or.inl rfl⟩
theorem fp_X0_39 : g_fp "ToolHouse$Ask" 39 0 4 (.int) true := ⟨_, _, _, _, kc_0, by decide, ⟨_, tw_573, Or.inl rfl⟩, rfl, rfl, fun h => by first | rfl | cases h⟩
theorem fg_X5_82 : g_f "ToolHouse$Planner" 82 0 4 := ⟨_, _, _, _, kc_0, by decide, _, tw_574, Or.inl rfl⟩
theorem fg_X8_207 : g_f "ToolHouse" 207 0 4 := ⟨_, _, _, _, kc_0, by decide, _, tw_575, Or.inl rfl⟩
theorem fg_X0_42 : g_f "ToolHouse$Ask" 42 0 5 := ⟨_, _, _, _, kc_0, by decide, _, tw_576, Or.inl rfl⟩
theorem fp_X0_42 : g_fp "ToolHouse$Ask" 42 0 5 (.int) true := ⟨_, _, _, _, kc_0, by decide, ⟨_, tw_576, Or.inl rfl⟩, rfl, rfl, fun h => by first | rfl | cases h⟩
theorem fg_X7_29 : g_f "ToolHouse$Thing" 29 0 5 := ⟨_, _, _, _, kc_0, by decide, _, tw_577, Or.inl rfl⟩
theorem fg_X5_85 : g_f "ToolHouse$Planner" 85 0 5 := ⟨_, _, _, _, kc_0, by decide, _, tw_578, Or.inl rfl⟩
theorem fg_X8_198 : g_f "ToolHouse" 198 0 5 := ⟨_, _, _, _, kc_0, by decide, _, tw_579, Or.inl rfl⟩
theorem fg_X0_45 : g_f "ToolHouse$Ask" 45 0 6 := ⟨_, _, _, _, kc_0, by decide, _, tw_580, Or.inl rfl⟩
theorem fp_X0_45 : g_fp "ToolHouse$Ask" 45 0 6 (.int) true := ⟨_, _, _, _, kc_0, by decide, ⟨_, tw_580, Or.inl rfl⟩, rfl, rfl, fun h => by first | rfl | cases h⟩
theorem fg_X5_74 : g_f "ToolHouse$Planner" 74 0 6 := ⟨_, _, _, _, kc_0, by decide, _, tw_581, Or.inl rfl⟩
theorem fg_X8_259 : g_f "ToolHouse" 259 0 6 := ⟨_, _, _, _, kc_0, by decide, _, tw_582, Or.inl rfl⟩
theorem fg_X0_9 : g_f "ToolHouse$Ask" 9 0 7 := ⟨_, _, _, _, kc_0, by decide, _, tw_583, Or.inl rfl⟩
theorem fp_X0_9 : g_fp "ToolHouse$Ask" 9 0 7 (.int) false := ⟨_, _, _, _, kc_0, by decide, ⟨_, tw_583, Or.inl rfl⟩, rfl, rfl, fun h => by first | rfl | cases h⟩
theorem fg_X8_162 : g_f "ToolHouse" 162 0 7 := ⟨_, _, _, _, kc_0, by decide, _, tw_584, Or.inl rfl⟩
theorem fp_X8_162 : g_fp "ToolHouse" 162 0 7 (.int) false := ⟨_, _, _, _, kc_0, by decide, ⟨_, tw_584, Or.inl rfl⟩, rfl, rfl, fun h => by first | rfl | cases h⟩
theorem fg_X0_15 : g_f "ToolHouse$Ask" 15 0 8 := ⟨_, _, _, _, kc_0, by decide, _, tw_585, Or.inl rfl⟩
theorem fp_X0_15 : g_fp "ToolHouse$Ask" 15 0 8 (.object "ToolHouse$Thing") false := ⟨_, _, _, _, kc_0, by decide, ⟨_, tw_585, Or.inl rfl⟩, rfl, rfl, fun h => by first | rfl | cases h⟩
theorem fg_X8_183 : g_f "ToolHouse" 183 0 8 := ⟨_, _, _, _, kc_0, by decide, _, tw_586, Or.inl rfl⟩
theorem fp_X8_183 : g_fp "ToolHouse" 183 0 8 (.object "ToolHouse$Thing") false := ⟨_, _, _, _, kc_0, by decide, ⟨_, tw_586, Or.inl rfl⟩, rfl, rfl, fun h => by first | rfl | cases h⟩
theorem fg_X0_19 : g_f "ToolHouse$Ask" 19 0 9 := ⟨_, _, _, _, kc_0, by decide, _, tw_587, Or.inl rfl⟩
theorem fp_X0_19 : g_fp "ToolHouse$Ask" 19 0 9 (.int) false := ⟨_, _, _, _, kc_0, by decide, ⟨_, tw_587, Or.inl rfl⟩, rfl, rfl, fun h => by first | rfl | cases h⟩
theorem fg_X8_253 : g_f "ToolHouse" 253 0 9 := ⟨_, _, _, _, kc_0, by decide, _, tw_588, Or.inl rfl⟩
theorem fp_X8_253 : g_fp "ToolHouse" 253 0 9 (.int) false := ⟨_, _, _, _, kc_0, by decide, ⟨_, tw_588, Or.inl rfl⟩, rfl, rfl, fun h => by first | rfl | cases h⟩
theorem fg_X0_22 : g_f "ToolHouse$Ask" 22 0 10 := ⟨_, _, _, _, kc_0, by decide, _, tw_589, Or.inl rfl⟩
theorem fp_X0_22 : g_fp "ToolHouse$Ask" 22 0 10 (.int) false := ⟨_, _, _, _, kc_0, by decide, ⟨_, tw_589, Or.inl rfl⟩, rfl, rfl, fun h => by first | rfl | cases h⟩
theorem fg_X8_224 : g_f "ToolHouse" 224 0 10 := ⟨_, _, _, _, kc_0, by decide, _, tw_590, Or.inl rfl⟩
theorem fp_X8_224 : g_fp "ToolHouse" 224 0 10 (.int) false := ⟨_, _, _, _, kc_0, by decide, ⟨_, tw_590, Or.inl rfl⟩, rfl, rfl, fun h => by first | rfl | cases h⟩
theorem mc_L_65 {k : mM} (hk : k.1.cls = "ToolHouseLaw") : g_cm k kX8_plan 65 0 := ⟨tw_617, tw_53, by rw [hk]; exact tw_614, by decide +kernel, by decide⟩
theorem mc_X8_155 {k : mM} (hk : k.1.cls = "ToolHouse") : g_cm k kX5_begin 155 0 := ⟨tw_621, tw_61, by rw [hk]; exact tw_618, by decide +kernel, by decide⟩
theorem mc_X5_28 {k : mM} (hk : k.1.cls = "ToolHouse$Planner") : g_cm k kJ7_fill_53178 28 2 := ⟨tw_162, tw_60, by rw [hk]; exact tw_622, by decide +kernel, by decide⟩
theorem mc_X8_165 {k : mM} (hk : k.1.cls = "ToolHouse") : g_cm k kX5_add 165 1 := ⟨tw_626, tw_61, by rw [hk]; exact tw_623, by decide +kernel, by decide⟩
theorem mc_X8_168 {k : mM} (hk : k.1.cls = "ToolHouse") : g_cm k kX8_rowThatMayHave 168 1 := ⟨tw_630, tw_53, by rw [hk]; exact tw_627, by decide +kernel, by decide⟩
theorem mc_X8_296 {k : mM} (hk : k.1.cls = "ToolHouse") : g_cm k kX5_askAtRow 296 1 := ⟨tw_634, tw_61, by rw [hk]; exact tw_631, by decide +kernel, by decide⟩
theorem mc_X8_236 {k : mM} (hk : k.1.cls = "ToolHouse") : g_cm k kX1_fits 236 1 := ⟨tw_638, tw_63, by rw [hk]; exact tw_635, by decide +kernel, by decide⟩
theorem mc_X8_299 {k : mM} (hk : k.1.cls = "ToolHouse") : g_cm k kX8_isFreeFor 299 2 := ⟨tw_642, tw_53, by rw [hk]; exact tw_639, by decide +kernel, by decide⟩
theorem mc_X8_272 {k : mM} (hk : k.1.cls = "ToolHouse") : g_cm k kX8_isFreeBut 272 4 := ⟨tw_646, tw_53, by rw [hk]; exact tw_643, by decide +kernel, by decide⟩
theorem mc_X8_286 {k : mM} (hk : k.1.cls = "ToolHouse") : g_cm k kX0_holds 286 1 := ⟨tw_650, tw_74, by rw [hk]; exact tw_647, by decide +kernel, by decide⟩
theorem mc_X8_289 {k : mM} (hk : k.1.cls = "ToolHouse") : g_cm k kX0_lastDay 289 1 := ⟨tw_654, tw_74, by rw [hk]; exact tw_651, by decide +kernel, by decide⟩
theorem mc_X0_48 {k : mM} (hk : k.1.cls = "ToolHouse$Ask") : g_cm k kJ9_max_7cf53 48 2 := ⟨tw_284, tw_65, by rw [hk]; exact tw_655, by decide +kernel, by decide⟩
theorem mc_X8_292 {k : mM} (hk : k.1.cls = "ToolHouse") : g_cm k kX8_areNear 292 5 := ⟨tw_658, tw_53, by rw [hk]; exact tw_656, by decide +kernel, by decide⟩
theorem mc_X8_172 {k : mM} (hk : k.1.cls = "ToolHouse") : g_cm k kX5_offer 172 2 := ⟨tw_662, tw_61, by rw [hk]; exact tw_659, by decide +kernel, by decide⟩
theorem mc_X5_34 {k : mM} (hk : k.1.cls = "ToolHouse$Planner") : g_cm k kX5_weigh 34 2 := ⟨tw_666, tw_61, by rw [hk]; exact tw_663, by decide +kernel, by decide⟩
theorem mc_X5_48 {k : mM} (hk : k.1.cls = "ToolHouse$Planner") : g_cm k kX5_askAtRow 48 1 := ⟨tw_634, tw_61, by rw [hk]; exact tw_667, by decide +kernel, by decide⟩
theorem mc_X5_52 {k : mM} (hk : k.1.cls = "ToolHouse$Planner") : g_cm k kX5_worthOf 52 3 := ⟨tw_670, tw_61, by rw [hk]; exact tw_668, by decide +kernel, by decide⟩
theorem mc_X5_67 {k : mM} (hk : k.1.cls = "ToolHouse$Planner") : g_cm k kX5_nearTo 67 3 := ⟨tw_678, tw_61, by rw [hk]; exact tw_675, by decide +kernel, by decide⟩
theorem mc_X5_88 {k : mM} (hk : k.1.cls = "ToolHouse$Planner") : g_cn k kX8_areNear 88 5 "ToolHouse" := ⟨tw_658, tw_53, by rw [hk]; exact tw_679, by decide +kernel, by decide⟩
theorem mc_X5_38 {k : mM} (hk : k.1.cls = "ToolHouse$Planner") : g_cm k kX5_wholeRow 38 0 := ⟨tw_683, tw_61, by rw [hk]; exact tw_680, by decide +kernel, by decide⟩
theorem mc_X5_42 {k : mM} (hk : k.1.cls = "ToolHouse$Planner") : g_cm k kJ9_max_7cf53 42 2 := ⟨tw_284, tw_65, by rw [hk]; exact tw_684, by decide +kernel, by decide⟩
theorem mc_X8_176 {k : mM} (hk : k.1.cls = "ToolHouse") : g_cm k kX8_carryOutPlan 176 0 := ⟨tw_688, tw_53, by rw [hk]; exact tw_685, by decide +kernel, by decide⟩
theorem mc_X8_303 {k : mM} (hk : k.1.cls = "ToolHouse") : g_cm k kX5_thingAtRow 303 1 := ⟨tw_692, tw_61, by rw [hk]; exact tw_689, by decide +kernel, by decide⟩
theorem mc_X8_306 {k : mM} (hk : k.1.cls = "ToolHouse") : g_cm k kX8_refuse 306 1 := ⟨tw_696, tw_53, by rw [hk]; exact tw_693, by decide +kernel, by decide⟩
theorem mc_X8_309 {k : mM} (hk : k.1.cls = "ToolHouse") : g_cm k kJx4a65c_add_7a177 309 2 := ⟨tw_700, tw_56, by rw [hk]; exact tw_697, by decide +kernel, by decide⟩
theorem mc_Jx4a65c_135 {k : mM} (hk : k.1.cls = "java/util/ArrayList") : g_cm k kJx4a65c_rangeCheckForAdd_d00df 135 1 := ⟨tw_704, tw_56, by rw [hk]; exact tw_701, by decide +kernel, by decide⟩
theorem mc_L_69 {k : mM} (hk : k.1.cls = "ToolHouseLaw") : g_cm k kX8_off 69 1 := ⟨tw_709, tw_53, by rw [hk]; exact tw_706, by decide +kernel, by decide⟩
theorem mc_X8_179 {k : mM} (hk : k.1.cls = "ToolHouse") : g_cm k kX8_askAt 179 1 := ⟨tw_713, tw_53, by rw [hk]; exact tw_710, by decide +kernel, by decide⟩
theorem mc_L_73 {k : mM} (hk : k.1.cls = "ToolHouseLaw") : g_cm k kX8_out 73 1 := ⟨tw_717, tw_53, by rw [hk]; exact tw_714, by decide +kernel, by decide⟩
theorem mc_X8_187 {k : mM} (hk : k.1.cls = "ToolHouse") : g_cm k kX8_hindranceOf 187 2 := ⟨tw_721, tw_53, by rw [hk]; exact tw_718, by decide +kernel, by decide⟩
theorem mc_X8_312 {k : mM} (hk : k.1.cls = "ToolHouse") : g_cm k kX7_isCaredFor 312 1 := ⟨tw_725, tw_69, by rw [hk]; exact tw_722, by decide +kernel, by decide⟩
theorem mc_L_77 {k : mM} (hk : k.1.cls = "ToolHouseLaw") : g_cm k kX8_back 77 1 := ⟨tw_729, tw_53, by rw [hk]; exact tw_726, by decide +kernel, by decide⟩
theorem mc_X8_201 {k : mM} (hk : k.1.cls = "ToolHouse") : g_cm k kJ9_max_7cf53 201 2 := ⟨tw_284, tw_65, by rw [hk]; exact tw_730, by decide +kernel, by decide⟩
theorem mc_X8_217 {k : mM} (hk : k.1.cls = "ToolHouse") : g_cm k kX4_owe 217 2 := ⟨tw_734, tw_70, by rw [hk]; exact tw_731, by decide +kernel, by decide⟩
theorem mc_L_81 {k : mM} (hk : k.1.cls = "ToolHouseLaw") : g_cm k kX8_work 81 2 := ⟨tw_738, tw_53, by rw [hk]; exact tw_735, by decide +kernel, by decide⟩
theorem mc_L_85 {k : mM} (hk : k.1.cls = "ToolHouseLaw") : g_cm k kX8_days 85 1 := ⟨tw_742, tw_53, by rw [hk]; exact tw_739, by decide +kernel, by decide⟩
theorem mc_X8_230 {k : mM} (hk : k.1.cls = "ToolHouse") : g_cm k kX8_loseWhatIsOver 230 0 := ⟨tw_746, tw_53, by rw [hk]; exact tw_743, by decide +kernel, by decide⟩
theorem mc_X8_233 {k : mM} (hk : k.1.cls = "ToolHouse") : g_cm k kX8_moveFromLateThings 233 0 := ⟨tw_750, tw_53, by rw [hk]; exact tw_747, by decide +kernel, by decide⟩
theorem mc_X8_315 {k : mM} (hk : k.1.cls = "ToolHouse") : g_cm k kX8_nextToMove 315 0 := ⟨tw_754, tw_53, by rw [hk]; exact tw_751, by decide +kernel, by decide⟩
theorem mc_X8_323 {k : mM} (hk : k.1.cls = "ToolHouse") : g_cm k kX8_mustMove 323 1 := ⟨tw_758, tw_53, by rw [hk]; exact tw_755, by decide +kernel, by decide⟩
theorem mc_X8_265 {k : mM} (hk : k.1.cls = "ToolHouse") : g_cm k kX7_isLate 265 1 := ⟨tw_762, tw_69, by rw [hk]; exact tw_759, by decide +kernel, by decide⟩
theorem mc_X8_326 {k : mM} (hk : k.1.cls = "ToolHouse") : g_cm k kX0_movesAheadOf 326 1 := ⟨tw_766, tw_74, by rw [hk]; exact tw_763, by decide +kernel, by decide⟩
theorem mc_X8_319 {k : mM} (hk : k.1.cls = "ToolHouse") : g_cm k kX8_firstOtherThingFor 319 1 := ⟨tw_770, tw_53, by rw [hk]; exact tw_767, by decide +kernel, by decide⟩
theorem mc_L_89 {k : mM} (hk : k.1.cls = "ToolHouseLaw") : g_cm k kX8_buy 89 1 := ⟨tw_774, tw_53, by rw [hk]; exact tw_771, by decide +kernel, by decide⟩
theorem mc_L_102 {k : mM} (hk : k.1.cls = "ToolHouseLaw") : g_cm k kX8_thingOf 102 2 := ⟨tw_778, tw_53, by rw [hk]; exact tw_775, by decide +kernel, by decide⟩
theorem mc_X8_269 {k : mM} (hk : k.1.cls = "ToolHouse") : g_cm k kX8_howManyAreBookedOn 269 1 := ⟨tw_782, tw_53, by rw [hk]; exact tw_779, by decide +kernel, by decide⟩
theorem mc_X8_282 {k : mM} (hk : k.1.cls = "ToolHouse") : g_cm k kX0_isBookedOn 282 1 := ⟨tw_786, tw_74, by rw [hk]; exact tw_783, by decide +kernel, by decide⟩
theorem mc_L_106 {k : mM} (hk : k.1.cls = "ToolHouseLaw") : g_cm k kX8_isFree 106 3 := ⟨tw_790, tw_53, by rw [hk]; exact tw_787, by decide +kernel, by decide⟩
theorem mc_L_110 {k : mM} (hk : k.1.cls = "ToolHouseLaw") : g_cm k kX8_memberOf 110 2 := ⟨tw_794, tw_53, by rw [hk]; exact tw_791, by decide +kernel, by decide⟩
theorem mc_L_114 {k : mM} (hk : k.1.cls = "ToolHouseLaw") : g_cm k kX8_count 114 1 := ⟨tw_798, tw_53, by rw [hk]; exact tw_795, by decide +kernel, by decide⟩
theorem mc_X8_279 {k : mM} (hk : k.1.cls = "ToolHouse") : g_cm k kX2_daysWanted 279 1 := ⟨tw_540, tw_59, by rw [hk]; exact tw_799, by decide +kernel, by decide⟩
theorem mc_L_7 {k : mM} (hk : k.1.cls = "ToolHouseLaw") : g_cm k kX8_of 7 2 := ⟨tw_807, tw_53, by rw [hk]; exact tw_804, by decide +kernel, by decide⟩
theorem mc_L_18 {k : mM} (hk : k.1.cls = "ToolHouseLaw") : g_cm k kX9_init 18 0 := ⟨tw_878, tw_62, by rw [hk]; exact tw_876, by decide +kernel, by decide⟩
theorem fg_X9_97 : g_f "ToolHouseModel" 97 9 0 := ⟨_, _, _, _, kc_9, by decide, _, tw_880, Or.inl rfl⟩
theorem fp_X9_97 : g_fp "ToolHouseModel" 97 9 0 (.int) false := ⟨_, _, _, _, kc_9, by decide, ⟨_, tw_880, Or.inl rfl⟩, rfl, rfl, fun h => by first | rfl | cases h⟩
theorem fg_X9_104 : g_f "ToolHouseModel" 104 9 1 := ⟨_, _, _, _, kc_9, by decide, _, tw_881, Or.inl rfl⟩
theorem fp_X9_104 : g_fp "ToolHouseModel" 104 9 1 (.int) false := ⟨_, _, _, _, kc_9, by decide, ⟨_, tw_881, Or.inl rfl⟩, rfl, rfl, fun h => by first | rfl | cases h⟩
theorem fg_X9_7 : g_f "ToolHouseModel" 7 9 2 := ⟨_, _, _, _, kc_9, by decide, _, tw_882, Or.inl rfl⟩
theorem fp_X9_7 : g_fp "ToolHouseModel" 7 9 2 (.array .int) true := ⟨_, _, _, _, kc_9, by decide, ⟨_, tw_882, Or.inl rfl⟩, rfl, rfl, fun h => by first | rfl | cases h⟩
theorem fg_X9_13 : g_f "ToolHouseModel" 13 9 3 := ⟨_, _, _, _, kc_9, by decide, _, tw_883, Or.inl rfl⟩
theorem fp_X9_13 : g_fp "ToolHouseModel" 13 9 3 (.array .int) true := ⟨_, _, _, _, kc_9, by decide, ⟨_, tw_883, Or.inl rfl⟩, rfl, rfl, fun h => by first | rfl | cases h⟩
theorem fg_X9_16 : g_f "ToolHouseModel" 16 9 4 := ⟨_, _, _, _, kc_9, by decide, _, tw_884, Or.inl rfl⟩
theorem fp_X9_16 : g_fp "ToolHouseModel" 16 9 4 (.array .int) true := ⟨_, _, _, _, kc_9, by decide, ⟨_, tw_884, Or.inl rfl⟩, rfl, rfl, fun h => by first | rfl | cases h⟩
theorem fg_X9_107 : g_f "ToolHouseModel" 107 9 5 := ⟨_, _, _, _, kc_9, by decide, _, tw_885, Or.inl rfl⟩
theorem fp_X9_107 : g_fp "ToolHouseModel" 107 9 5 (.int) false := ⟨_, _, _, _, kc_9, by decide, ⟨_, tw_885, Or.inl rfl⟩, rfl, rfl, fun h => by first | rfl | cases h⟩
theorem fg_X9_19 : g_f "ToolHouseModel" 19 9 6 := ⟨_, _, _, _, kc_9, by decide, _, tw_886, Or.inl rfl⟩
theorem fp_X9_19 : g_fp "ToolHouseModel" 19 9 6 (.array .int) true := ⟨_, _, _, _, kc_9, by decide, ⟨_, tw_886, Or.inl rfl⟩, rfl, rfl, fun h => by first | rfl | cases h⟩
theorem fg_X9_22 : g_f "ToolHouseModel" 22 9 7 := ⟨_, _, _, _, kc_9, by decide, _, tw_887, Or.inl rfl⟩
theorem fp_X9_22 : g_fp "ToolHouseModel" 22 9 7 (.array .int) true := ⟨_, _, _, _, kc_9, by decide, ⟨_, tw_887, Or.inl rfl⟩, rfl, rfl, fun h => by first | rfl | cases h⟩
theorem fg_X9_110 : g_f "ToolHouseModel" 110 9 8 := ⟨_, _, _, _, kc_9, by decide, _, tw_888, Or.inl rfl⟩
theorem fp_X9_110 : g_fp "ToolHouseModel" 110 9 8 (.int) false := ⟨_, _, _, _, kc_9, by decide, ⟨_, tw_888, Or.inl rfl⟩, rfl, rfl, fun h => by first | rfl | cases h⟩
theorem fg_X9_25 : g_f "ToolHouseModel" 25 9 9 := ⟨_, _, _, _, kc_9, by decide, _, tw_889, Or.inl rfl⟩
theorem fp_X9_25 : g_fp "ToolHouseModel" 25 9 9 (.array .int) true := ⟨_, _, _, _, kc_9, by decide, ⟨_, tw_889, Or.inl rfl⟩, rfl, rfl, fun h => by first | rfl | cases h⟩
theorem fg_X9_28 : g_f "ToolHouseModel" 28 9 10 := ⟨_, _, _, _, kc_9, by decide, _, tw_890, Or.inl rfl⟩
theorem fp_X9_28 : g_fp "ToolHouseModel" 28 9 10 (.array .int) true := ⟨_, _, _, _, kc_9, by decide, ⟨_, tw_890, Or.inl rfl⟩, rfl, rfl, fun h => by first | rfl | cases h⟩
theorem fg_X9_164 : g_f "ToolHouseModel" 164 9 11 := ⟨_, _, _, _, kc_9, by decide, _, tw_891, Or.inl rfl⟩
theorem fp_X9_164 : g_fp "ToolHouseModel" 164 9 11 (.int) false := ⟨_, _, _, _, kc_9, by decide, ⟨_, tw_891, Or.inl rfl⟩, rfl, rfl, fun h => by first | rfl | cases h⟩
theorem fg_X9_31 : g_f "ToolHouseModel" 31 9 12 := ⟨_, _, _, _, kc_9, by decide, _, tw_892, Or.inl rfl⟩
theorem fp_X9_31 : g_fp "ToolHouseModel" 31 9 12 (.array .byte) true := ⟨_, _, _, _, kc_9, by decide, ⟨_, tw_892, Or.inl rfl⟩, rfl, rfl, fun h => by first | rfl | cases h⟩
theorem fg_X9_117 : g_f "ToolHouseModel" 117 9 13 := ⟨_, _, _, _, kc_9, by decide, _, tw_893, Or.inl rfl⟩
theorem fp_X9_117 : g_fp "ToolHouseModel" 117 9 13 (.int) false := ⟨_, _, _, _, kc_9, by decide, ⟨_, tw_893, Or.inl rfl⟩, rfl, rfl, fun h => by first | rfl | cases h⟩
theorem fg_X9_149 : g_f "ToolHouseModel" 149 9 14 := ⟨_, _, _, _, kc_9, by decide, _, tw_894, Or.inl rfl⟩
theorem fp_X9_149 : g_fp "ToolHouseModel" 149 9 14 (.int) false := ⟨_, _, _, _, kc_9, by decide, ⟨_, tw_894, Or.inl rfl⟩, rfl, rfl, fun h => by first | rfl | cases h⟩
theorem fg_X9_35 : g_f "ToolHouseModel" 35 9 15 := ⟨_, _, _, _, kc_9, by decide, _, tw_895, Or.inl rfl⟩
theorem fp_X9_35 : g_fp "ToolHouseModel" 35 9 15 (.array .int) true := ⟨_, _, _, _, kc_9, by decide, ⟨_, tw_895, Or.inl rfl⟩, rfl, rfl, fun h => by first | rfl | cases h⟩
theorem fg_X9_38 : g_f "ToolHouseModel" 38 9 16 := ⟨_, _, _, _, kc_9, by decide, _, tw_896, Or.inl rfl⟩
theorem fp_X9_38 : g_fp "ToolHouseModel" 38 9 16 (.array .int) true := ⟨_, _, _, _, kc_9, by decide, ⟨_, tw_896, Or.inl rfl⟩, rfl, rfl, fun h => by first | rfl | cases h⟩
theorem fg_X9_136 : g_f "ToolHouseModel" 136 9 17 := ⟨_, _, _, _, kc_9, by decide, _, tw_897, Or.inl rfl⟩
theorem fp_X9_136 : g_fp "ToolHouseModel" 136 9 17 (.int) false := ⟨_, _, _, _, kc_9, by decide, ⟨_, tw_897, Or.inl rfl⟩, rfl, rfl, fun h => by first | rfl | cases h⟩
theorem fg_X9_41 : g_f "ToolHouseModel" 41 9 18 := ⟨_, _, _, _, kc_9, by decide, _, tw_898, Or.inl rfl⟩
theorem fp_X9_41 : g_fp "ToolHouseModel" 41 9 18 (.int) false := ⟨_, _, _, _, kc_9, by decide, ⟨_, tw_898, Or.inl rfl⟩, rfl, rfl, fun h => by first | rfl | cases h⟩
theorem fg_X9_123 : g_f "ToolHouseModel" 123 9 19 := ⟨_, _, _, _, kc_9, by decide, _, tw_899, Or.inl rfl⟩
theorem fp_X9_123 : g_fp "ToolHouseModel" 123 9 19 (.int) false := ⟨_, _, _, _, kc_9, by decide, ⟨_, tw_899, Or.inl rfl⟩, rfl, rfl, fun h => by first | rfl | cases h⟩
theorem fg_X9_120 : g_f "ToolHouseModel" 120 9 20 := ⟨_, _, _, _, kc_9, by decide, _, tw_900, Or.inl rfl⟩
theorem fp_X9_120 : g_fp "ToolHouseModel" 120 9 20 (.int) false := ⟨_, _, _, _, kc_9, by decide, ⟨_, tw_900, Or.inl rfl⟩, rfl, rfl, fun h => by first | rfl | cases h⟩
theorem fg_X9_133 : g_f "ToolHouseModel" 133 9 21 := ⟨_, _, _, _, kc_9, by decide, _, tw_901, Or.inl rfl⟩
theorem fp_X9_133 : g_fp "ToolHouseModel" 133 9 21 (.int) false := ⟨_, _, _, _, kc_9, by decide, ⟨_, tw_901, Or.inl rfl⟩, rfl, rfl, fun h => by first | rfl | cases h⟩
theorem fg_X9_130 : g_f "ToolHouseModel" 130 9 22 := ⟨_, _, _, _, kc_9, by decide, _, tw_902, Or.inl rfl⟩
theorem fp_X9_130 : g_fp "ToolHouseModel" 130 9 22 (.int) false := ⟨_, _, _, _, kc_9, by decide, ⟨_, tw_902, Or.inl rfl⟩, rfl, rfl, fun h => by first | rfl | cases h⟩
theorem fg_X9_171 : g_f "ToolHouseModel" 171 9 23 := ⟨_, _, _, _, kc_9, by decide, _, tw_903, Or.inl rfl⟩
theorem fp_X9_171 : g_fp "ToolHouseModel" 171 9 23 (.int) false := ⟨_, _, _, _, kc_9, by decide, ⟨_, tw_903, Or.inl rfl⟩, rfl, rfl, fun h => by first | rfl | cases h⟩
theorem fg_X9_45 : g_f "ToolHouseModel" 45 9 24 := ⟨_, _, _, _, kc_9, by decide, _, tw_904, Or.inl rfl⟩
theorem fp_X9_45 : g_fp "ToolHouseModel" 45 9 24 (.array .int) true := ⟨_, _, _, _, kc_9, by decide, ⟨_, tw_904, Or.inl rfl⟩, rfl, rfl, fun h => by first | rfl | cases h⟩
theorem fg_X9_48 : g_f "ToolHouseModel" 48 9 25 := ⟨_, _, _, _, kc_9, by decide, _, tw_905, Or.inl rfl⟩
theorem fp_X9_48 : g_fp "ToolHouseModel" 48 9 25 (.array .int) true := ⟨_, _, _, _, kc_9, by decide, ⟨_, tw_905, Or.inl rfl⟩, rfl, rfl, fun h => by first | rfl | cases h⟩
theorem fg_X9_51 : g_f "ToolHouseModel" 51 9 26 := ⟨_, _, _, _, kc_9, by decide, _, tw_906, Or.inl rfl⟩
theorem fp_X9_51 : g_fp "ToolHouseModel" 51 9 26 (.array .int) true := ⟨_, _, _, _, kc_9, by decide, ⟨_, tw_906, Or.inl rfl⟩, rfl, rfl, fun h => by first | rfl | cases h⟩
theorem fg_X9_54 : g_f "ToolHouseModel" 54 9 27 := ⟨_, _, _, _, kc_9, by decide, _, tw_907, Or.inl rfl⟩
theorem fp_X9_54 : g_fp "ToolHouseModel" 54 9 27 (.array .int) true := ⟨_, _, _, _, kc_9, by decide, ⟨_, tw_907, Or.inl rfl⟩, rfl, rfl, fun h => by first | rfl | cases h⟩
theorem fg_X9_57 : g_f "ToolHouseModel" 57 9 28 := ⟨_, _, _, _, kc_9, by decide, _, tw_908, Or.inl rfl⟩
theorem fp_X9_57 : g_fp "ToolHouseModel" 57 9 28 (.array .int) true := ⟨_, _, _, _, kc_9, by decide, ⟨_, tw_908, Or.inl rfl⟩, rfl, rfl, fun h => by first | rfl | cases h⟩
theorem fg_X9_60 : g_f "ToolHouseModel" 60 9 29 := ⟨_, _, _, _, kc_9, by decide, _, tw_909, Or.inl rfl⟩
theorem fp_X9_60 : g_fp "ToolHouseModel" 60 9 29 (.array .int) true := ⟨_, _, _, _, kc_9, by decide, ⟨_, tw_909, Or.inl rfl⟩, rfl, rfl, fun h => by first | rfl | cases h⟩
theorem fg_X9_63 : g_f "ToolHouseModel" 63 9 30 := ⟨_, _, _, _, kc_9, by decide, _, tw_910, Or.inl rfl⟩
theorem fp_X9_63 : g_fp "ToolHouseModel" 63 9 30 (.array .int) true := ⟨_, _, _, _, kc_9, by decide, ⟨_, tw_910, Or.inl rfl⟩, rfl, rfl, fun h => by first | rfl | cases h⟩
theorem fg_X9_66 : g_f "ToolHouseModel" 66 9 31 := ⟨_, _, _, _, kc_9, by decide, _, tw_911, Or.inl rfl⟩
theorem fp_X9_66 : g_fp "ToolHouseModel" 66 9 31 (.array .int) true := ⟨_, _, _, _, kc_9, by decide, ⟨_, tw_911, Or.inl rfl⟩, rfl, rfl, fun h => by first | rfl | cases h⟩
theorem fg_X9_69 : g_f "ToolHouseModel" 69 9 32 := ⟨_, _, _, _, kc_9, by decide, _, tw_912, Or.inl rfl⟩
theorem fp_X9_69 : g_fp "ToolHouseModel" 69 9 32 (.array .int) true := ⟨_, _, _, _, kc_9, by decide, ⟨_, tw_912, Or.inl rfl⟩, rfl, rfl, fun h => by first | rfl | cases h⟩
theorem fg_X9_72 : g_f "ToolHouseModel" 72 9 33 := ⟨_, _, _, _, kc_9, by decide, _, tw_913, Or.inl rfl⟩
theorem fp_X9_72 : g_fp "ToolHouseModel" 72 9 33 (.array .int) true := ⟨_, _, _, _, kc_9, by decide, ⟨_, tw_913, Or.inl rfl⟩, rfl, rfl, fun h => by first | rfl | cases h⟩
theorem fg_X9_75 : g_f "ToolHouseModel" 75 9 34 := ⟨_, _, _, _, kc_9, by decide, _, tw_914, Or.inl rfl⟩
theorem fp_X9_75 : g_fp "ToolHouseModel" 75 9 34 (.array .int) true := ⟨_, _, _, _, kc_9, by decide, ⟨_, tw_914, Or.inl rfl⟩, rfl, rfl, fun h => by first | rfl | cases h⟩
theorem fg_X9_187 : g_f "ToolHouseModel" 187 9 35 := ⟨_, _, _, _, kc_9, by decide, _, tw_915, Or.inl rfl⟩
theorem fp_X9_187 : g_fp "ToolHouseModel" 187 9 35 (.int) false := ⟨_, _, _, _, kc_9, by decide, ⟨_, tw_915, Or.inl rfl⟩, rfl, rfl, fun h => by first | rfl | cases h⟩
theorem fg_X9_78 : g_f "ToolHouseModel" 78 9 36 := ⟨_, _, _, _, kc_9, by decide, _, tw_916, Or.inl rfl⟩
theorem fp_X9_78 : g_fp "ToolHouseModel" 78 9 36 (.array .int) true := ⟨_, _, _, _, kc_9, by decide, ⟨_, tw_916, Or.inl rfl⟩, rfl, rfl, fun h => by first | rfl | cases h⟩
theorem fg_X9_81 : g_f "ToolHouseModel" 81 9 37 := ⟨_, _, _, _, kc_9, by decide, _, tw_917, Or.inl rfl⟩
theorem fp_X9_81 : g_fp "ToolHouseModel" 81 9 37 (.array .int) true := ⟨_, _, _, _, kc_9, by decide, ⟨_, tw_917, Or.inl rfl⟩, rfl, rfl, fun h => by first | rfl | cases h⟩
theorem fg_X9_194 : g_f "ToolHouseModel" 194 9 38 := ⟨_, _, _, _, kc_9, by decide, _, tw_918, Or.inl rfl⟩
theorem fp_X9_194 : g_fp "ToolHouseModel" 194 9 38 (.int) false := ⟨_, _, _, _, kc_9, by decide, ⟨_, tw_918, Or.inl rfl⟩, rfl, rfl, fun h => by first | rfl | cases h⟩
theorem fg_X9_84 : g_f "ToolHouseModel" 84 9 39 := ⟨_, _, _, _, kc_9, by decide, _, tw_919, Or.inl rfl⟩
theorem fp_X9_84 : g_fp "ToolHouseModel" 84 9 39 (.array .boolean) true := ⟨_, _, _, _, kc_9, by decide, ⟨_, tw_919, Or.inl rfl⟩, rfl, rfl, fun h => by first | rfl | cases h⟩
theorem fg_X9_88 : g_f "ToolHouseModel" 88 9 40 := ⟨_, _, _, _, kc_9, by decide, _, tw_920, Or.inl rfl⟩
theorem fp_X9_88 : g_fp "ToolHouseModel" 88 9 40 (.array .boolean) true := ⟨_, _, _, _, kc_9, by decide, ⟨_, tw_920, Or.inl rfl⟩, rfl, rfl, fun h => by first | rfl | cases h⟩
theorem fg_X9_91 : g_f "ToolHouseModel" 91 9 41 := ⟨_, _, _, _, kc_9, by decide, _, tw_921, Or.inl rfl⟩
theorem fp_X9_91 : g_fp "ToolHouseModel" 91 9 41 (.array .int) true := ⟨_, _, _, _, kc_9, by decide, ⟨_, tw_921, Or.inl rfl⟩, rfl, rfl, fun h => by first | rfl | cases h⟩
theorem fg_X9_94 : g_f "ToolHouseModel" 94 9 42 := ⟨_, _, _, _, kc_9, by decide, _, tw_922, Or.inl rfl⟩
theorem fp_X9_94 : g_fp "ToolHouseModel" 94 9 42 (.array .int) true := ⟨_, _, _, _, kc_9, by decide, ⟨_, tw_922, Or.inl rfl⟩, rfl, rfl, fun h => by first | rfl | cases h⟩
theorem mc_L_99 {k : mM} (hk : k.1.cls = "ToolHouseLaw") : g_cm k kX9_thrown 99 0 := ⟨tw_1014, tw_62, by rw [hk]; exact tw_1011, by decide +kernel, by decide⟩
theorem mc_L_23 {k : mM} (hk : k.1.cls = "ToolHouseLaw") : g_cm k kX9_kind 23 3 := ⟨tw_1018, tw_62, by rw [hk]; exact tw_1015, by decide +kernel, by decide⟩
theorem mc_X9_100 {k : mM} (hk : k.1.cls = "ToolHouseModel") : g_cm k kX9_within 100 3 := ⟨tw_1021, tw_62, by rw [hk]; exact tw_1019, by decide +kernel, by decide⟩
theorem mc_L_28 {k : mM} (hk : k.1.cls = "ToolHouseLaw") : g_cm k kX9_thing 28 1 := ⟨tw_1025, tw_62, by rw [hk]; exact tw_1022, by decide +kernel, by decide⟩
theorem mc_X9_113 {k : mM} (hk : k.1.cls = "ToolHouseModel") : g_cm k kX9_isKind 113 1 := ⟨tw_1029, tw_62, by rw [hk]; exact tw_1026, by decide +kernel, by decide⟩
theorem mc_L_33 {k : mM} (hk : k.1.cls = "ToolHouseLaw") : g_cm k kX9_member 33 0 := ⟨tw_1033, tw_62, by rw [hk]; exact tw_1030, by decide +kernel, by decide⟩
theorem mc_L_38 {k : mM} (hk : k.1.cls = "ToolHouseLaw") : g_cm k kX9_feed 38 5 := ⟨tw_1037, tw_62, by rw [hk]; exact tw_1034, by decide +kernel, by decide⟩
theorem mc_L_42 {k : mM} (hk : k.1.cls = "ToolHouseLaw") : g_cm k kX9_end 42 1 := ⟨tw_1041, tw_62, by rw [hk]; exact tw_1038, by decide +kernel, by decide⟩
theorem mc_L_46 {k : mM} (hk : k.1.cls = "ToolHouseLaw") : g_cm k kX9_law 46 0 := ⟨tw_1045, tw_62, by rw [hk]; exact tw_1042, by decide +kernel, by decide⟩
theorem mc_X9_146 {k : mM} (hk : k.1.cls = "ToolHouseModel") : g_cm k kX9_token 146 0 := ⟨tw_1049, tw_62, by rw [hk]; exact tw_1046, by decide +kernel, by decide⟩
theorem mc_X9_126 {k : mM} (hk : k.1.cls = "ToolHouseModel") : g_cm k kX9_byteAt 126 1 := ⟨tw_1053, tw_62, by rw [hk]; exact tw_1050, by decide +kernel, by decide⟩
theorem mc_X9_152 {k : mM} (hk : k.1.cls = "ToolHouseModel") : g_cm k kX9_statement 152 0 := ⟨tw_1057, tw_62, by rw [hk]; exact tw_1054, by decide +kernel, by decide⟩
theorem mc_X9_139 {k : mM} (hk : k.1.cls = "ToolHouseModel") : g_cm k kX9_isEvery 139 0 := ⟨tw_1061, tw_62, by rw [hk]; exact tw_1058, by decide +kernel, by decide⟩
theorem mc_X9_143 {k : mM} (hk : k.1.cls = "ToolHouseModel") : g_cm k kX9_wrong 143 1 := ⟨tw_1065, tw_62, by rw [hk]; exact tw_1062, by decide +kernel, by decide⟩
theorem mc_L_50 {k : mM} (hk : k.1.cls = "ToolHouseLaw") : g_cm k kX9_place 50 0 := ⟨tw_1069, tw_62, by rw [hk]; exact tw_1066, by decide +kernel, by decide⟩
theorem mc_L_55 {k : mM} (hk : k.1.cls = "ToolHouseLaw") : g_cm k kX9_look 55 1 := ⟨tw_1073, tw_62, by rw [hk]; exact tw_1070, by decide +kernel, by decide⟩
theorem mc_X9_158 {k : mM} (hk : k.1.cls = "ToolHouseModel") : g_cm k kX9_isThing 158 1 := ⟨tw_1077, tw_62, by rw [hk]; exact tw_1074, by decide +kernel, by decide⟩
theorem mc_X9_161 {k : mM} (hk : k.1.cls = "ToolHouseModel") : g_cm k kX9_outWith 161 1 := ⟨tw_1081, tw_62, by rw [hk]; exact tw_1078, by decide +kernel, by decide⟩
theorem mc_L_59 {k : mM} (hk : k.1.cls = "ToolHouseLaw") : g_cm k kX9_lawful 59 2 := ⟨tw_1085, tw_62, by rw [hk]; exact tw_1082, by decide +kernel, by decide⟩
theorem mc_X9_167 {k : mM} (hk : k.1.cls = "ToolHouseModel") : g_cm k kX9_isLawful 167 2 := ⟨tw_1089, tw_62, by rw [hk]; exact tw_1086, by decide +kernel, by decide⟩
theorem mc_X9_155 {k : mM} (hk : k.1.cls = "ToolHouseModel") : g_cm k kX9_wanted 155 1 := ⟨tw_1093, tw_62, by rw [hk]; exact tw_1090, by decide +kernel, by decide⟩
theorem mc_L_64 {k : mM} (hk : k.1.cls = "ToolHouseLaw") : g_cm k kX9_ask 64 6 := ⟨tw_1097, tw_62, by rw [hk]; exact tw_1094, by decide +kernel, by decide⟩
theorem mc_X9_174 {k : mM} (hk : k.1.cls = "ToolHouseModel") : g_cm k kX9_isMember 174 1 := ⟨tw_1101, tw_62, by rw [hk]; exact tw_1098, by decide +kernel, by decide⟩
theorem mc_X9_177 {k : mM} (hk : k.1.cls = "ToolHouseModel") : g_cm k kX9_counted 177 1 := ⟨tw_1105, tw_62, by rw [hk]; exact tw_1102, by decide +kernel, by decide⟩
theorem mc_L_68 {k : mM} (hk : k.1.cls = "ToolHouseLaw") : g_cm k kX9_plan 68 0 := ⟨tw_1109, tw_62, by rw [hk]; exact tw_1106, by decide +kernel, by decide⟩
theorem mc_X9_204 {k : mM} (hk : k.1.cls = "ToolHouseModel") : g_cm k kX9_fits 204 2 := ⟨tw_1113, tw_62, by rw [hk]; exact tw_1110, by decide +kernel, by decide⟩
theorem mc_X9_207 {k : mM} (hk : k.1.cls = "ToolHouseModel") : g_cm k kX9_isFreeFor 207 4 := ⟨tw_1117, tw_62, by rw [hk]; exact tw_1114, by decide +kernel, by decide⟩
theorem mc_X9_180 {k : mM} (hk : k.1.cls = "ToolHouseModel") : g_cm k kX9_endOf 180 1 := ⟨tw_1121, tw_62, by rw [hk]; exact tw_1118, by decide +kernel, by decide⟩
theorem mc_X9_183 {k : mM} (hk : k.1.cls = "ToolHouseModel") : g_cm k kX9_areNear 183 5 := ⟨tw_1124, tw_62, by rw [hk]; exact tw_1122, by decide +kernel, by decide⟩
theorem mc_X9_200 {k : mM} (hk : k.1.cls = "ToolHouseModel") : g_cm k kX9_tries 200 1 := ⟨tw_1128, tw_62, by rw [hk]; exact tw_1125, by decide +kernel, by decide⟩
theorem mc_X9_190 {k : mM} (hk : k.1.cls = "ToolHouseModel") : g_cm k kX9_worth 190 0 := ⟨tw_1132, tw_62, by rw [hk]; exact tw_1129, by decide +kernel, by decide⟩
theorem mc_X9_197 {k : mM} (hk : k.1.cls = "ToolHouseModel") : g_cm k kX9_stands 197 2 := ⟨tw_1136, tw_62, by rw [hk]; exact tw_1133, by decide +kernel, by decide⟩
theorem mc_L_72 {k : mM} (hk : k.1.cls = "ToolHouseLaw") : g_cm k kX9_off 72 1 := ⟨tw_1140, tw_62, by rw [hk]; exact tw_1137, by decide +kernel, by decide⟩
theorem mc_L_76 {k : mM} (hk : k.1.cls = "ToolHouseLaw") : g_cm k kX9_out 76 1 := ⟨tw_1144, tw_62, by rw [hk]; exact tw_1141, by decide +kernel, by decide⟩
theorem mc_L_80 {k : mM} (hk : k.1.cls = "ToolHouseLaw") : g_cm k kX9_back 80 1 := ⟨tw_1148, tw_62, by rw [hk]; exact tw_1145, by decide +kernel, by decide⟩
theorem mc_L_84 {k : mM} (hk : k.1.cls = "ToolHouseLaw") : g_cm k kX9_work 84 2 := ⟨tw_1152, tw_62, by rw [hk]; exact tw_1149, by decide +kernel, by decide⟩
theorem mc_L_88 {k : mM} (hk : k.1.cls = "ToolHouseLaw") : g_cm k kX9_days 88 1 := ⟨tw_1156, tw_62, by rw [hk]; exact tw_1153, by decide +kernel, by decide⟩
theorem mc_X9_211 {k : mM} (hk : k.1.cls = "ToolHouseModel") : g_cm k kX9_moves 211 0 := ⟨tw_1160, tw_62, by rw [hk]; exact tw_1157, by decide +kernel, by decide⟩
theorem mc_X9_214 {k : mM} (hk : k.1.cls = "ToolHouseModel") : g_cm k kX9_isLate 214 1 := ⟨tw_1164, tw_62, by rw [hk]; exact tw_1161, by decide +kernel, by decide⟩
theorem mc_X9_217 {k : mM} (hk : k.1.cls = "ToolHouseModel") : g_cm k kX9_isAhead 217 2 := ⟨tw_1168, tw_62, by rw [hk]; exact tw_1165, by decide +kernel, by decide⟩
theorem mc_X9_220 {k : mM} (hk : k.1.cls = "ToolHouseModel") : g_cm k kX9_moves_ 220 1 := ⟨tw_1172, tw_62, by rw [hk]; exact tw_1169, by decide +kernel, by decide⟩
theorem mc_L_92 {k : mM} (hk : k.1.cls = "ToolHouseLaw") : g_cm k kX9_buy 92 1 := ⟨tw_1176, tw_62, by rw [hk]; exact tw_1173, by decide +kernel, by decide⟩
theorem mc_L_98 {k : mM} (hk : k.1.cls = "ToolHouseLaw") : g_cm k kX9_of 98 2 := ⟨tw_1180, tw_62, by rw [hk]; exact tw_1177, by decide +kernel, by decide⟩
theorem mc_L_105 {k : mM} (hk : k.1.cls = "ToolHouseLaw") : g_cm k kX9_thingOf 105 2 := ⟨tw_1184, tw_62, by rw [hk]; exact tw_1181, by decide +kernel, by decide⟩
theorem mc_L_109 {k : mM} (hk : k.1.cls = "ToolHouseLaw") : g_cm k kX9_isFree 109 3 := ⟨tw_1188, tw_62, by rw [hk]; exact tw_1185, by decide +kernel, by decide⟩
theorem mc_L_113 {k : mM} (hk : k.1.cls = "ToolHouseLaw") : g_cm k kX9_memberOf 113 2 := ⟨tw_1192, tw_62, by rw [hk]; exact tw_1189, by decide +kernel, by decide⟩
theorem mc_L_117 {k : mM} (hk : k.1.cls = "ToolHouseLaw") : g_cm k kX9_count 117 1 := ⟨tw_1196, tw_62, by rw [hk]; exact tw_1193, by decide +kernel, by decide⟩
theorem nk_L_8 : g_nk "ToolHouseLaw" 8 8 10 [.null, .null, .null, .null, .null, .null, .null, .null, .null, .int 0] := ⟨_, _, _, kc_8, tw_79, tw_80, tw_53, by decide +kernel, fun _ => rfl⟩
theorem nk_X8_7 : g_nk "ToolHouse" 7 10 3 [.int 0, .null, .int 0] := ⟨_, _, _, kc_10, tw_87, tw_88, tw_56, by decide +kernel, fun _ => rfl⟩
theorem nk_X8_28 : g_nk "ToolHouse" 28 6 2 [.null, .int 0] := ⟨_, _, _, kc_6, tw_113, tw_114, tw_57, by decide +kernel, fun _ => rfl⟩
theorem nk_X8_35 : g_nk "ToolHouse" 35 3 5 [.null, .int 0, .int 0, .int 0, .int 0] := ⟨_, _, _, kc_3, tw_129, tw_130, tw_58, by decide +kernel, fun _ => rfl⟩
theorem nk_X8_42 : g_nk "ToolHouse" 42 2 3 [.int 0, .int 0, .null] := ⟨_, _, _, kc_2, tw_154, tw_155, tw_59, by decide +kernel, fun _ => rfl⟩
theorem nk_X8_49 : g_nk "ToolHouse" 49 5 4 [.null, .int 0, .null, .null] := ⟨_, _, _, kc_5, tw_175, tw_176, tw_61, by decide +kernel, fun _ => rfl⟩
theorem nk_X5_11 : g_nk "ToolHouse$Planner" 11 0 11 [.int 0, .null, .null, .int 0, .int 0, .int 0, .int 0, .int 0, .null, .int 0, .int 0] := ⟨_, _, _, kc_0, tw_181, tw_558, tw_74, by decide +kernel, fun _ => rfl⟩
theorem nk_X8_68 : g_nk "ToolHouse" 68 1 4 [.int 0, .int 0, .int 0, .int 0] := ⟨_, _, _, kc_1, tw_238, tw_239, tw_63, by decide +kernel, fun _ => rfl⟩
theorem nk_X8_81 : g_nk "ToolHouse" 81 7 5 [.int 0, .null, .int 0, .int 0, .null] := ⟨_, _, _, kc_7, tw_344, tw_345, tw_69, by decide +kernel, fun _ => rfl⟩
theorem nk_X8_86 : g_nk "ToolHouse" 86 4 4 [.int 0, .int 0, .int 0, .int 0] := ⟨_, _, _, kc_4, tw_379, tw_380, tw_70, by decide +kernel, fun _ => rfl⟩
theorem nk_X8_150 : g_nk "ToolHouse" 150 0 11 [.int 0, .null, .null, .int 0, .int 0, .int 0, .int 0, .int 0, .null, .int 0, .int 0] := ⟨_, _, _, kc_0, tw_557, tw_558, tw_74, by decide +kernel, fun _ => rfl⟩
theorem nk_L_16 : g_nk "ToolHouseLaw" 16 9 43 [.int 0, .int 0, .null, .null, .null, .int 0, .null, .null, .int 0, .null, .null, .int 0, .null, .int 0, .int 0, .null, .null, .int 0, .int 0, .int 0, .int 0, .int 0, .int 0, .int 0, .null, .null, .null, .null, .null, .null, .null, .null, .null, .null, .null, .int 0, .null, .null, .int 0, .null, .null, .null, .null] := ⟨_, _, _, kc_9, tw_874, tw_875, tw_62, by decide +kernel, fun _ => rfl⟩
end
section
/-! the reference: its object is cell 24, its arrays the cells behind it; s j i is place i of its field j -/
abbrev mS : Type := Nat → Nat → Int32
def m_tab : List (Nat × Nat × Nat) := [(0, 8, 2), (0, 8, 3), (0, 8, 4), (0, 12, 6), (0, 12, 7), (0, 10, 9), (0, 10, 10), (1, 200, 12), (0, 8, 15), (0, 8, 16), (0, 120, 24), (0, 120, 25), (0, 120, 26), (0, 120, 27), (0, 120, 28), (0, 120, 29), (0, 120, 30), (0, 120, 31), (0, 120, 32), (0, 120, 33), (0, 5, 34), (0, 5, 36), (0, 5, 37), (2, 60, 39), (2, 120, 40), (0, 120, 41), (0, 120, 42)]
def m_t (a : Nat) : Option (Nat × Nat × Nat) := if a ≤ 24 then none else m_tab[a - 25]?
def m_set (s : mS) (j i : Nat) (v : Int32) : mS := fun a b => if a = j ∧ b = i then v else s a b
def m_fs (s : mS) : List Value := [.int (s 0 0), .int (s 1 0), .ref 25, .ref 26, .ref 27, .int (s 5 0), .ref 28, .ref 29, .int (s 8 0), .ref 30, .ref 31, .int (s 11 0), .ref 32, .int (s 13 0), .int (s 14 0), .ref 33, .ref 34, .int (s 17 0), .int (s 18 0), .int (s 19 0), .int (s 20 0), .int (s 21 0), .int (s 22 0), .int (s 23 0), .ref 35, .ref 36, .ref 37, .ref 38, .ref 39, .ref 40, .ref 41, .ref 42, .ref 43, .ref 44, .ref 45, .int (s 35 0), .ref 46, .ref 47, .int (s 38 0), .ref 48, .ref 49, .ref 50, .ref 51]
def hm (s : mS) (r : mH) : mH := fun a => if a = 24 then some (.inr (9, m_fs s)) else match m_t a with
  | some (kd, N, j) => some (.inl (kd, N, .inl (s j)))
  | none => r a
theorem hm_o (s : mS) (r : mH) : hm s r 24 = some (.inr (9, m_fs s)) := if_pos rfl
theorem hm_a (s : mS) (r : mH) {a kd N j : Nat} (h : m_t a = some (kd, N, j)) : hm s r a = some (.inl (kd, N, .inl (s j))) := by
  have h24 : a ≠ 24 := fun q => by subst q; cases h
  unfold hm
  rw [if_neg h24, h]
theorem hm_r (s : mS) (r : mH) {a : Nat} (h : a < 24 ∨ 52 ≤ a) : hm s r a = r a := by
  have h24 : a ≠ 24 := by omega
  unfold hm
  rw [if_neg h24]
  have e : m_t a = none := by
    unfold m_t
    by_cases h1 : a ≤ 24
    · rw [if_pos h1]
    · rw [if_neg h1, List.getElem?_eq_none]
      show 27 ≤ a - 25
      omega
  rw [e]
theorem m_set_eq (s : mS) (j i : Nat) (v : Int32) : m_set s j i v j = upd (s j) i v := by
  funext b
  simp [m_set, upd]
theorem m_set_ne (s : mS) {j a : Nat} (i : Nat) (v : Int32) (h : a ≠ j) : m_set s j i v a = s a := by
  funext b
  simp [m_set, h]
theorem m_tab_inj : ∀ p, p < 27 → ∀ q, q < 27 → (m_tab[p]?).map (·.2.2) = (m_tab[q]?).map (·.2.2) → p = q := by decide
theorem m_t_inj {a b : Nat} {u w : Nat × Nat × Nat} (ha : m_t a = some u) (hb : m_t b = some w) (e : u.2.2 = w.2.2) : a = b := by
  unfold m_t at ha hb
  split at ha
  · cases ha
  · split at hb
    · cases hb
    · have h1 := (List.getElem?_eq_some_iff.mp ha).1
      have h2 := (List.getElem?_eq_some_iff.mp hb).1
      have := m_tab_inj (a - 25) h1 (b - 25) h2 (by rw [ha, hb]; simp [e])
      omega
def m_ar (j : Nat) : Prop := ∀ (s : mS) (i : Nat) (v : Int32), m_fs (m_set s j i v) = m_fs s
def m_sc (j : Nat) : Prop := (∀ (s : mS), (m_fs s)[j]? = some (.int (s j 0))) ∧ (∀ (s : mS) (v : Int32), m_fs (m_set s j 0 v) = (m_fs s).set j (.int v)) ∧ ∀ q ∈ m_tab, q.2.2 ≠ j
theorem hm_st (s : mS) (r : mH) {a kd N j : Nat} (i : Nat) (v : Int32) (h : m_t a = some (kd, N, j)) (hj : m_ar j) : va_up (hm s r) a (some (.inl (kd, N, .inl (upd (s j) i v)))) = hm (m_set s j i v) r := by
  funext b
  by_cases hb : b = a
  · subst hb
    rw [va_up_self, hm_a _ _ h, m_set_eq]
  · rw [va_up_ne _ _ hb]
    by_cases h24 : b = 24
    · subst h24
      rw [hm_o, hm_o, hj]
    · cases hq : m_t b with
      | none => unfold hm; rw [if_neg h24, if_neg h24, hq]
      | some w =>
        obtain ⟨kd2, N2, j2⟩ := w
        rw [hm_a _ _ hq, hm_a _ _ hq, m_set_ne]
        intro e
        exact hb (m_t_inj hq h e)
theorem hm_pt (s : mS) (r : mH) {j : Nat} (v : Int32) (hj : m_sc j) : va_up (hm s r) 24 (some (.inr (9, (m_fs s).set j (.int v)))) = hm (m_set s j 0 v) r := by
  funext b
  by_cases h24 : b = 24
  · subst h24
    rw [va_up_self, hm_o, hj.2.1]
  · rw [va_up_ne _ _ h24]
    cases hq : m_t b with
    | none => unfold hm; rw [if_neg h24, if_neg h24, hq]
    | some w =>
      obtain ⟨kd2, N2, j2⟩ := w
      rw [hm_a _ _ hq, hm_a _ _ hq, m_set_ne]
      have h1 : (kd2, N2, j2) ∈ m_tab := by
        unfold m_t at hq
        split at hq
        · cases hq
        · exact List.mem_of_getElem? hq
      exact hj.2.2 _ h1
theorem ms_0 : m_sc 0 := ⟨fun _ => rfl, fun _ _ => rfl, by decide⟩
theorem ms_1 : m_sc 1 := ⟨fun _ => rfl, fun _ _ => rfl, by decide⟩
theorem ma_2 : m_ar 2 := fun _ _ _ => rfl
theorem mt_2 : m_t 25 = some (0, 8, 2) := rfl
theorem ma_3 : m_ar 3 := fun _ _ _ => rfl
theorem mt_3 : m_t 26 = some (0, 8, 3) := rfl
theorem ma_4 : m_ar 4 := fun _ _ _ => rfl
theorem mt_4 : m_t 27 = some (0, 8, 4) := rfl
theorem ms_5 : m_sc 5 := ⟨fun _ => rfl, fun _ _ => rfl, by decide⟩
theorem ma_6 : m_ar 6 := fun _ _ _ => rfl
theorem mt_6 : m_t 28 = some (0, 12, 6) := rfl
theorem ma_7 : m_ar 7 := fun _ _ _ => rfl
theorem mt_7 : m_t 29 = some (0, 12, 7) := rfl
theorem ms_8 : m_sc 8 := ⟨fun _ => rfl, fun _ _ => rfl, by decide⟩
theorem ma_9 : m_ar 9 := fun _ _ _ => rfl
theorem mt_9 : m_t 30 = some (0, 10, 9) := rfl
theorem ma_10 : m_ar 10 := fun _ _ _ => rfl
theorem mt_10 : m_t 31 = some (0, 10, 10) := rfl
theorem ms_11 : m_sc 11 := ⟨fun _ => rfl, fun _ _ => rfl, by decide⟩
theorem ma_12 : m_ar 12 := fun _ _ _ => rfl
theorem mt_12 : m_t 32 = some (1, 200, 12) := rfl
theorem ms_13 : m_sc 13 := ⟨fun _ => rfl, fun _ _ => rfl, by decide⟩
theorem ms_14 : m_sc 14 := ⟨fun _ => rfl, fun _ _ => rfl, by decide⟩
theorem ma_15 : m_ar 15 := fun _ _ _ => rfl
theorem mt_15 : m_t 33 = some (0, 8, 15) := rfl
theorem ma_16 : m_ar 16 := fun _ _ _ => rfl
theorem mt_16 : m_t 34 = some (0, 8, 16) := rfl
theorem ms_17 : m_sc 17 := ⟨fun _ => rfl, fun _ _ => rfl, by decide⟩
theorem ms_18 : m_sc 18 := ⟨fun _ => rfl, fun _ _ => rfl, by decide⟩
theorem ms_19 : m_sc 19 := ⟨fun _ => rfl, fun _ _ => rfl, by decide⟩
theorem ms_20 : m_sc 20 := ⟨fun _ => rfl, fun _ _ => rfl, by decide⟩
theorem ms_21 : m_sc 21 := ⟨fun _ => rfl, fun _ _ => rfl, by decide⟩
theorem ms_22 : m_sc 22 := ⟨fun _ => rfl, fun _ _ => rfl, by decide⟩
theorem ms_23 : m_sc 23 := ⟨fun _ => rfl, fun _ _ => rfl, by decide⟩
theorem ma_24 : m_ar 24 := fun _ _ _ => rfl
theorem mt_24 : m_t 35 = some (0, 120, 24) := rfl
theorem ma_25 : m_ar 25 := fun _ _ _ => rfl
theorem mt_25 : m_t 36 = some (0, 120, 25) := rfl
theorem ma_26 : m_ar 26 := fun _ _ _ => rfl
theorem mt_26 : m_t 37 = some (0, 120, 26) := rfl
theorem ma_27 : m_ar 27 := fun _ _ _ => rfl
theorem mt_27 : m_t 38 = some (0, 120, 27) := rfl
theorem ma_28 : m_ar 28 := fun _ _ _ => rfl
theorem mt_28 : m_t 39 = some (0, 120, 28) := rfl
theorem ma_29 : m_ar 29 := fun _ _ _ => rfl
theorem mt_29 : m_t 40 = some (0, 120, 29) := rfl
theorem ma_30 : m_ar 30 := fun _ _ _ => rfl
theorem mt_30 : m_t 41 = some (0, 120, 30) := rfl
theorem ma_31 : m_ar 31 := fun _ _ _ => rfl
theorem mt_31 : m_t 42 = some (0, 120, 31) := rfl
theorem ma_32 : m_ar 32 := fun _ _ _ => rfl
theorem mt_32 : m_t 43 = some (0, 120, 32) := rfl
theorem ma_33 : m_ar 33 := fun _ _ _ => rfl
theorem mt_33 : m_t 44 = some (0, 120, 33) := rfl
theorem ma_34 : m_ar 34 := fun _ _ _ => rfl
theorem mt_34 : m_t 45 = some (0, 5, 34) := rfl
theorem ms_35 : m_sc 35 := ⟨fun _ => rfl, fun _ _ => rfl, by decide⟩
theorem ma_36 : m_ar 36 := fun _ _ _ => rfl
theorem mt_36 : m_t 46 = some (0, 5, 36) := rfl
theorem ma_37 : m_ar 37 := fun _ _ _ => rfl
theorem mt_37 : m_t 47 = some (0, 5, 37) := rfl
theorem ms_38 : m_sc 38 := ⟨fun _ => rfl, fun _ _ => rfl, by decide⟩
theorem ma_39 : m_ar 39 := fun _ _ _ => rfl
theorem mt_39 : m_t 48 = some (2, 60, 39) := rfl
theorem ma_40 : m_ar 40 := fun _ _ _ => rfl
theorem mt_40 : m_t 49 = some (2, 120, 40) := rfl
theorem ma_41 : m_ar 41 := fun _ _ _ => rfl
theorem mt_41 : m_t 50 = some (0, 120, 41) := rfl
theorem ma_42 : m_ar 42 := fun _ _ _ => rfl
theorem mt_42 : m_t 51 = some (0, 120, 42) := rfl
theorem GM_get {g : gT} {d x y : Nat} {k : mM} {pc : Nat} {L st : List Value} {n : Nat} {s : mS} {r : mH} {P : Option Value → Nat → mH → Prop} {index j : Nat} (hd : decode k.2.1 pc = .ok (.getfield index, 3)) (hf : g_f k.1.cls index 9 j) (hj : m_sc j) (K : G g d x y k (pc + 3) L (.int (s j 0) :: st) n (hm s r) P) : G g d x y k pc L (.ref 24 :: st) n (hm s r) P := G_get hd hf (hm_o s r) (hj.1 s) K
theorem GM_ref {g : gT} {d x y : Nat} {k : mM} {pc : Nat} {L st : List Value} {n : Nat} {s : mS} {r : mH} {P : Option Value → Nat → mH → Prop} {index j a : Nat} (hd : decode k.2.1 pc = .ok (.getfield index, 3)) (hf : g_f k.1.cls index 9 j) (hj : ∀ s, (m_fs s)[j]? = some (.ref a)) (K : G g d x y k (pc + 3) L (.ref a :: st) n (hm s r) P) : G g d x y k pc L (.ref 24 :: st) n (hm s r) P := G_get hd hf (hm_o s r) (hj s) K
theorem GM_put {g : gT} {d x y : Nat} {k : mM} {pc : Nat} {L st : List Value} {n : Nat} {s : mS} {r : mH} {P : Option Value → Nat → mH → Prop} {index j : Nat} {v : Int32} (hd : decode k.2.1 pc = .ok (.putfield index, 3)) (hf : g_fp k.1.cls index 9 j .int false) (hj : m_sc j) (K : G g d x y k (pc + 3) L st n (hm (m_set s j 0 v) r) P) : G g d x y k pc L (.int v :: .ref 24 :: st) n (hm s r) P := by
  refine G_put hd hf (hm_o s r) (List.getElem?_eq_some_iff.mp (hj.1 s)).1 g_fit_i ?_
  rw [hm_pt s r v hj]
  exact K
/-- an index that is a number: a = nI i, i < N -/
theorem GM_ld {g : gT} {d x y : Nat} {k : mM} {pc : Nat} {L st : List Value} {n : Nat} {s : mS} {r : mH} {P : Option Value → Nat → mH → Prop} {a N j i : Nat} {b : Int32} (hd : decode k.2.1 pc = .ok (.iaload, 1)) (ht : m_t a = some (0, N, j)) (hN : N < 2 ^ 31) (hi : b = nI i ∧ i < N) (K : G g d x y k (pc + 1) L (.int (s j i) :: st) n (hm s r) P) : G g d x y k pc L (.int b :: .ref a :: st) n (hm s r) P := by
  obtain ⟨rfl, h1⟩ := hi
  refine G_iald hd (hm_a s r ht) (vp_in_nI h1 hN) ?_
  rw [nI_clamp (by omega)]
  exact K
theorem GM_ldb {g : gT} {d x y : Nat} {k : mM} {pc : Nat} {L st : List Value} {n : Nat} {s : mS} {r : mH} {P : Option Value → Nat → mH → Prop} {a N j i : Nat} {b : Int32} (hd : decode k.2.1 pc = .ok (.baload, 1)) (ht : m_t a = some (1, N, j)) (hN : N < 2 ^ 31) (hi : b = nI i ∧ i < N) (K : G g d x y k (pc + 1) L (.int (s j i) :: st) n (hm s r) P) : G g d x y k pc L (.int b :: .ref a :: st) n (hm s r) P := by
  obtain ⟨rfl, h1⟩ := hi
  refine G_bald hd (hm_a s r ht) (vp_in_nI h1 hN) ?_
  rw [nI_clamp (by omega)]
  exact K
theorem GM_ldz {g : gT} {d x y : Nat} {k : mM} {pc : Nat} {L st : List Value} {n : Nat} {s : mS} {r : mH} {P : Option Value → Nat → mH → Prop} {a N j i : Nat} {b : Int32} (hd : decode k.2.1 pc = .ok (.baload, 1)) (ht : m_t a = some (2, N, j)) (hN : N < 2 ^ 31) (hi : b = nI i ∧ i < N) (K : G g d x y k (pc + 1) L (.int (s j i) :: st) n (hm s r) P) : G g d x y k pc L (.int b :: .ref a :: st) n (hm s r) P := by
  obtain ⟨rfl, h1⟩ := hi
  refine G_zald hd (hm_a s r ht) (vp_in_nI h1 hN) ?_
  rw [nI_clamp (by omega)]
  exact K
theorem GM_st {g : gT} {d x y : Nat} {k : mM} {pc : Nat} {L st : List Value} {n : Nat} {s : mS} {r : mH} {P : Option Value → Nat → mH → Prop} {a N j i : Nat} {b v : Int32} (hd : decode k.2.1 pc = .ok (.iastore, 1)) (ht : m_t a = some (0, N, j)) (hj : m_ar j) (hN : N < 2 ^ 31) (hi : b = nI i ∧ i < N) (K : G g d x y k (pc + 1) L st n (hm (m_set s j i v) r) P) : G g d x y k pc L (.int v :: .int b :: .ref a :: st) n (hm s r) P := by
  obtain ⟨rfl, h1⟩ := hi
  refine G_iast hd (hm_a s r ht) (vp_in_nI h1 hN) ?_
  rw [nI_clamp (by omega), hm_st s r i v ht hj]
  exact K
theorem GM_stb {g : gT} {d x y : Nat} {k : mM} {pc : Nat} {L st : List Value} {n : Nat} {s : mS} {r : mH} {P : Option Value → Nat → mH → Prop} {a N j i : Nat} {b v : Int32} (hd : decode k.2.1 pc = .ok (.bastore, 1)) (ht : m_t a = some (1, N, j)) (hj : m_ar j) (hN : N < 2 ^ 31) (hi : b = nI i ∧ i < N) (K : G g d x y k (pc + 1) L st n (hm (m_set s j i (vp_nar .byte v)) r) P) : G g d x y k pc L (.int v :: .int b :: .ref a :: st) n (hm s r) P := by
  obtain ⟨rfl, h1⟩ := hi
  refine G_bast hd (hm_a s r ht) (vp_in_nI h1 hN) ?_
  rw [nI_clamp (by omega), hm_st s r i (vp_nar .byte v) ht hj]
  exact K
theorem GM_stz {g : gT} {d x y : Nat} {k : mM} {pc : Nat} {L st : List Value} {n : Nat} {s : mS} {r : mH} {P : Option Value → Nat → mH → Prop} {a N j i : Nat} {b v : Int32} (hd : decode k.2.1 pc = .ok (.bastore, 1)) (ht : m_t a = some (2, N, j)) (hj : m_ar j) (hN : N < 2 ^ 31) (hi : b = nI i ∧ i < N) (K : G g d x y k (pc + 1) L st n (hm (m_set s j i (vp_nar .boolean v)) r) P) : G g d x y k pc L (.int v :: .int b :: .ref a :: st) n (hm s r) P := by
  obtain ⟨rfl, h1⟩ := hi
  refine G_zast hd (hm_a s r ht) (vp_in_nI h1 hN) ?_
  rw [nI_clamp (by omega), hm_st s r i (vp_nar .boolean v) ht hj]
  exact K
/-- calls of the reference's own methods -/
theorem GM_call {g : gT} {d x y : Nat} {k : mM} {pc : Nat} {L st : List Value} {n : Nat} {s : mS} {r : mH} {P : Option Value → Nat → mH → Prop} {c9 : mM} {d' index na : Nat} {As st0 : List Value} {P' : Option Value → Nat → mH → Prop} (hM : M g d' 0 0 c9 (.ref 24 :: As) n (hm s r) P') (hd : decode k.2.1 pc = .ok (.invokevirtual index, 3)) (hc : g_cm k c9 index na) (hi9 : Cond.instanceMethod c9.1 ∈ TB) (hs9 : Cond.selects c9.1.cls c9.1 c9.1 ∈ TB) (hb2 : some RX9 = some c9.1.cls) (hs : st0 = As.reverse ++ .ref 24 :: st) (hn : As.length = na) (hw : (st.map fun v => v.category).sum ≤ 8) (hd9 : d' + 1 ≤ d)
    (K : ∀ v n' h', P' v n' h' → G g d x y k (pc + 3) L (v.toList ++ st) n' h' P) : G g d x y k pc L st0 n (hm s r) P := G_callV hM hd hc hi9 hs9 (hm_o s r) (ci := 9) hb2 hs hn hw hd9 (Nat.zero_le _) (Nat.zero_le _) K
theorem GM_calls {g : gT} {d x y : Nat} {k : mM} {pc : Nat} {L st : List Value} {n : Nat} {s : mS} {r : mH} {P : Option Value → Nat → mH → Prop} {c9 : mM} {d' index na : Nat} {As st0 : List Value} {P' : Option Value → Nat → mH → Prop} (hM : M g d' 0 0 c9 As n (hm s r) P') (hd : decode k.2.1 pc = .ok (.invokestatic index, 3)) (hc : g_cm k c9 index na) (hi9 : Cond.static c9.1 ∈ TB) (hs : st0 = As.reverse ++ st) (hn : As.length = na) (hw : (st.map fun v => v.category).sum ≤ 8) (hd9 : d' + 1 ≤ d)
    (K : ∀ v n' h', P' v n' h' → G g d x y k (pc + 3) L (v.toList ++ st) n' h' P) : G g d x y k pc L st0 n (hm s r) P := G_callS hM hd hc hi9 hs hn hw hd9 (Nat.zero_le _) (Nat.zero_le _) K
/-- what a reading method leaves: an answer, nothing changed -/
def m_Q (v : Value) (n : Nat) (h : mH) : Option Value → Nat → mH → Prop := fun v' n' h' => v' = some v ∧ n' = n ∧ h' = h
end
section

def mK (s : mS) : Nat := (s 1 0).toNatClampNeg
def mT (s : mS) : Nat := (s 5 0).toNatClampNeg
def mB (s : mS) : Nat := (s 8 0).toNatClampNeg
def mP (s : mS) : Nat := (s 13 0).toNatClampNeg
def mA (s : mS) : Nat := (s 23 0).toNatClampNeg
abbrev ix (x : Int32) : Nat := x.toNatClampNeg
/-- the reference's numbers are in their ranges -/
def m_inv (s : mS) : Prop :=
  (s 1 0 = nI (mK s) ∧ mK s ≤ 8) ∧ (s 5 0 = nI (mT s) ∧ mT s ≤ 12) ∧ (s 8 0 = nI (mB s) ∧ mB s ≤ 10) ∧ (s 13 0 = nI (mP s) ∧ mP s ≤ 200) ∧ (s 23 0 = nI (mA s) ∧ mA s ≤ 120) ∧
  (∀ t, t < mT s → s 6 t = nI (ix (s 6 t)) ∧ ix (s 6 t) < mK s) ∧
  (∀ a, a < mA s → (s 28 a = nI (ix (s 28 a)) ∧ ix (s 28 a) < mK s) ∧ (s 27 a = nI (ix (s 27 a)) ∧ ix (s 27 a) < mB s) ∧ (s 25 a = -1 ∨ (s 25 a = nI (ix (s 25 a)) ∧ ix (s 25 a) < mT s))) ∧
  (∀ a, a < mA s → (s 24 a = 1 ∨ s 24 a = 3) → s 25 a = nI (ix (s 25 a)) ∧ ix (s 25 a) < mT s)
noncomputable def cif {α : Type} (p : Prop) (a b : α) : α := @ite α p (Classical.propDecidable p) a b
theorem cif_t {α : Type} {p : Prop} {a b : α} (h : p) : cif p a b = a := by unfold cif; exact if_pos h
theorem cif_f {α : Type} {p : Prop} {a b : α} (h : ¬ p) : cif p a b = b := by unfold cif; exact if_neg h
noncomputable def b1 (p : Prop) : Int32 := cif p 1 0
theorem b1_t {p : Prop} (h : p) : b1 p = 1 := cif_t h
theorem b1_f {p : Prop} (h : ¬ p) : b1 p = 0 := cif_f h
theorem b1_0 {p : Prop} : b1 p = 0 ↔ ¬ p := ⟨fun h q => by rw [b1_t q] at h; exact absurd h (by decide), b1_f⟩
theorem b1_1 {p : Prop} (h : ¬ b1 p = 0) : p := by
  by_cases q : p
  · exact q
  · exact absurd (b1_f q) h
theorem b1_n {p : Prop} : narrow .boolean (.int (b1 p)) = .int (b1 p) := by
  by_cases h : p
  · rw [b1_t h]; rfl
  · rw [b1_f h]; rfl
theorem b1_c {p q : Prop} (h : p ↔ q) : b1 p = b1 q := by rw [propext h]
abbrev wi (v lo hi : Int32) : Prop := lo ≤ v ∧ v ≤ hi
def m_S (v : Value) (n : Nat) (s : mS) (r : mH) : Option Value → Nat → mH → Prop := fun v' n' h' => v' = some v ∧ n' = n ∧ h' = hm s r
theorem m_close {n : Nat} {s' : mS} {r : mH} {v : Int32} {X : mS × Int32} (e : X = (s', v)) : m_S (.int X.2) n X.1 r (some (.int v)) n (hm s' r) := by subst e; exact ⟨rfl, rfl, rfl⟩
theorem m_lt {x : Int32} {K N : Nat} (h : x = nI K ∧ K ≤ N) (c : ¬ x = nI N) : K < N := by
  rcases Nat.lt_or_ge K N with q | q
  · exact q
  · exact absurd (by rw [h.1, show K = N by omega]) c
theorem m_ix {t x : Int32} {T N : Nat} (h : x = nI T ∧ T ≤ N) (hN : N < 2 ^ 30) (c : wi t 0 (x - 1)) : t = nI (ix t) ∧ ix t < T := by
  obtain ⟨rfl, hT⟩ := h
  obtain ⟨c1, c2⟩ := c
  obtain ⟨j, hj, rfl⟩ := nI_of (x := t) (fun q => absurd c1 (Int32.not_le.mpr q))
  have e1 : ix (nI j) = j := nI_clamp hj
  rw [e1]
  refine ⟨rfl, ?_⟩
  rcases Nat.eq_zero_or_pos T with q | q
  · subst q
    exfalso
    have h2 : (nI j).toInt ≤ (nI 0 - 1).toInt := Int32.le_iff_toInt_le.mp c2
    rw [nI_toInt hj] at h2
    have : (nI 0 - 1).toInt = -1 := by decide
    omega
  · obtain ⟨T', rfl⟩ : ∃ T', T = T' + 1 := ⟨T - 1, by omega⟩
    rw [nI_pred] at c2
    have := (nI_leI hj (by omega)).mp c2
    omega
theorem m_wi {T N j : Nat} {x : Int32} (h : x = nI T ∧ T ≤ N) (hN : N < 2 ^ 30) (hj : j < T) : wi (nI j) 0 (x - 1) := by
  obtain ⟨rfl, hT⟩ := h
  refine ⟨nI_pos' (by omega), ?_⟩
  obtain ⟨T', rfl⟩ : ∃ T', T = T' + 1 := ⟨T - 1, by omega⟩
  rw [nI_pred]
  exact nI_le (by omega) (by omega)
noncomputable def ct (p : Nat → Prop) : Nat → Nat
  | 0 => 0
  | n + 1 => ct p n + cif (p n) 1 0
theorem ct_t {p : Nat → Prop} {n : Nat} (h : p n) : ct p (n + 1) = ct p n + 1 := by show ct p n + cif (p n) 1 0 = _; rw [cif_t h]
theorem ct_f {p : Nat → Prop} {n : Nat} (h : ¬ p n) : ct p (n + 1) = ct p n := by show ct p n + cif (p n) 1 0 = _; rw [cif_f h]; omega
theorem ct_le (p : Nat → Prop) : ∀ n, ct p n ≤ n
  | 0 => Nat.le_refl 0
  | n + 1 => by
    have := ct_le p n
    by_cases h : p n
    · rw [ct_t h]; omega
    · rw [ct_f h]; omega
/-- the first place with p -/
noncomputable def fnd (p : Nat → Prop) : Nat → Option Nat
  | 0 => none
  | n + 1 => match fnd p n with
    | some i => some i
    | none => cif (p n) (some n) none
theorem fnd_none {p : Nat → Prop} : ∀ {n : Nat}, (∀ j, j < n → ¬ p j) → fnd p n = none
  | 0, _ => rfl
  | n + 1, h => by
    have ih := fnd_none (p := p) (n := n) (fun j hj => h j (by omega))
    show (match fnd p n with | some i => some i | none => cif (p n) (some n) none) = none
    rw [ih]
    exact cif_f (h n (by omega))
theorem fnd_at {p : Nat → Prop} {i : Nat} (h : ∀ j, j < i → ¬ p j) (hp : p i) : ∀ {n : Nat}, i < n → fnd p n = some i
  | 0, hi => absurd hi (Nat.not_lt_zero i)
  | n + 1, hi => by
    show (match fnd p n with | some i => some i | none => cif (p n) (some n) none) = some i
    rcases Nat.lt_or_ge i n with q | q
    · rw [fnd_at h hp q]
    · have e : i = n := by omega
      subst e
      rw [fnd_none h]
      exact cif_t hp
theorem fnd_spec {p : Nat → Prop} {n i : Nat} (h : fnd p n = some i) : i < n ∧ p i ∧ ∀ j, j < i → ¬ p j := by
  induction n with
  | zero => cases h
  | succ n ih =>
    have h : (match fnd p n with | some i => some i | none => cif (p n) (some n) none) = some i := h
    cases hq : fnd p n with
    | some k =>
      rw [hq] at h
      cases h
      obtain ⟨a, b⟩ := ih hq
      exact ⟨by omega, b⟩
    | none =>
      rw [hq] at h
      dsimp only at h
      by_cases hp : p n
      · rw [cif_t hp] at h
        have h9 : n = i := Option.some.inj h
        rw [← h9]
        refine ⟨by omega, hp, fun j hj hpj => ?_⟩
        obtain ⟨m, hm1, hm2⟩ : ∃ m, (m ≤ j ∧ p m) ∧ ∀ z, z < m → ¬ p z := by
          have : ∀ b, p b → ∃ m, (m ≤ b ∧ p m) ∧ ∀ z, z < m → ¬ p z := by
            intro b
            induction b using Nat.strongRecOn with
            | ind b ihb =>
              intro hb
              by_cases hz : ∃ z, z < b ∧ p z
              · obtain ⟨z, hz1, hz2⟩ := hz
                obtain ⟨m, ⟨a1, a2⟩, a3⟩ := ihb z hz1 hz2
                exact ⟨m, ⟨by omega, a2⟩, a3⟩
              · exact ⟨b, ⟨Nat.le_refl _, hb⟩, fun z h1 h2 => hz ⟨z, h1, h2⟩⟩
          exact this j hpj
        have := fnd_at (n := n) hm2 hm1.2 (by omega)
        rw [hq] at this
        cases this
      · rw [cif_f hp] at h
        cases h
theorem fnd_no {p : Nat → Prop} {n : Nat} (h : fnd p n = none) : ∀ j, j < n → ¬ p j := by
  intro j hj hp
  have : ∀ b, p b → ∃ m, (m ≤ b ∧ p m) ∧ ∀ z, z < m → ¬ p z := by
    intro b
    induction b using Nat.strongRecOn with
    | ind b ihb =>
      intro hb
      by_cases hz : ∃ z, z < b ∧ p z
      · obtain ⟨z, hz1, hz2⟩ := hz
        obtain ⟨m, ⟨a1, a2⟩, a3⟩ := ihb z hz1 hz2
        exact ⟨m, ⟨by omega, a2⟩, a3⟩
      · exact ⟨b, ⟨Nat.le_refl _, hb⟩, fun z h1 h2 => hz ⟨z, h1, h2⟩⟩
  obtain ⟨m, h1, h2⟩ := this j hp
  have := fnd_at (n := n) h2 h1.2 (by omega)
  rw [h] at this
  cases this
def oI (o : Option Nat) : Int32 := match o with
  | none => -1
  | some i => nI i
theorem oI_ne {i : Nat} (h : i < 2 ^ 31) : ¬ nI i = -1 := fun q => by
  have h2 : (nI i).toInt = (-1 : Int32).toInt := by rw [q]
  rw [nI_toInt h] at h2
  have : (-1 : Int32).toInt = -1 := by decide
  omega
/-! the words of the document, by the reference's numbers -/
def s_fits (s : mS) (k a : Nat) : Prop := nI k = s 28 a ∨ (¬ s 29 a = 0 ∧ s 3 k &&& s 29 a = s 29 a)
noncomputable def s_ow (s : mS) (t : Int32) : Option Nat := fnd (fun a => s 24 a = 3 ∧ s 25 a = t) (mA s)
noncomputable def s_end (s : mS) (a : Nat) : Int32 := cif (s 24 a = 4) (s 33 a) (cif (s 24 a = 3 ∧ s 31 a < s 11 0) (s 11 0) (s 31 a))
def s_near (f l g m : Int64) (c : Int32) : Prop := f ≤ m + c.toInt64 ∧ g ≤ l + c.toInt64
def s_holds (s : mS) (a : Nat) (t : Int32) : Prop := s 25 a = t ∧ (s 24 a = 1 ∨ s 24 a = 3 ∨ s 24 a = 4)
def s_care (s : mS) (t : Int32) : Int32 := s 2 (ix (s 6 (ix t)))
def s_free (s : mS) (t f l b : Int32) : Prop := ∀ a, a < mA s → ¬ nI a = b → s_holds s a t → ¬ s_near f.toInt64 l.toInt64 (s 30 a).toInt64 (s_end s a).toInt64 (s_care s t)
noncomputable def s_want (s : mS) (k : Nat) : Int32 := cif (s 14 0 = 0) (-1) (s 15 k)
def s_law (s : mS) (t : Nat) (l : Int32) : Prop := s_want s (ix (s 6 t)) = -1 ∨ (¬ s 7 t = -1 ∧ l.toInt64 - (s 7 t).toInt64 ≤ (s_want s (ix (s 6 t))).toInt64)
def s_late (s : mS) (t : Int32) : Prop := ∃ a, s_ow s t = some a ∧ s 31 a < s 11 0
def s_ahead (s : mS) (a b : Nat) : Prop := s 32 b < s 32 a ∨ (s 32 a = s 32 b ∧ s 30 a < s 30 b)
/-! what each method does -/
noncomputable def sp_kind (s : mS) (c f v : Int32) : mS × Int32 := cif (wi c 0 5 ∧ wi f 0 255 ∧ wi v 0 100 ∧ ¬ s 1 0 = 8) (m_set (m_set (m_set (m_set s 2 (mK s) c) 3 (mK s) f) 4 (mK s) v) 1 0 (s 1 0 + 1), s 1 0) (s, -1)
noncomputable def sp_thing (s : mS) (k : Int32) : mS × Int32 := cif (wi k 0 (s 1 0 - 1) ∧ ¬ s 5 0 = 12) (m_set (m_set (m_set s 6 (mT s) k) 7 (mT s) (-1)) 5 0 (s 5 0 + 1), s 5 0) (s, -1)
noncomputable def sp_member (s : mS) : mS × Int32 := cif (¬ s 8 0 = 10) (m_set s 8 0 (s 8 0 + 1), s 8 0) (s, -1)
noncomputable def sp_end (s : mS) (n : Int32) : mS × Int32 := cif (wi n 0 (s 13 0)) (m_set s 13 0 n, n) (s, -1)
noncomputable def sp_look (s : mS) (t : Int32) : mS × Int32 := cif (wi t 0 (s 5 0 - 1) ∧ s_ow s t = none) (m_set s 7 (ix t) (s 11 0), 1) (s, 0)
noncomputable def sp_lawful (s : mS) (t l : Int32) : mS × Int32 := (s, cif (wi t 0 (s 5 0 - 1) ∧ s 11 0 ≤ l) (b1 (s_law s (ix t) l)) (-1))
def s_askable (s : mS) (m k n f l r : Int32) : Prop := wi m 0 (s 8 0 - 1) ∧ wi k 0 (s 1 0 - 1) ∧ wi n 0 255 ∧ wi f (s 11 0) (s 11 0 + 60) ∧ wi l f (s 11 0 + 60) ∧ l - f ≤ 14 ∧ wi r 0 2 ∧ ¬ nI (ct (fun a => s 24 a = 0) (mA s)) = 5 ∧ ¬ s 23 0 = 120
noncomputable def sp_ask (s : mS) (m k n f l r : Int32) : mS × Int32 := cif (s_askable s m k n f l r) (m_set (m_set (m_set (m_set (m_set (m_set (m_set (m_set (m_set s 24 (mA s) 0) 25 (mA s) (-1)) 27 (mA s) m) 28 (mA s) k) 29 (mA s) n) 30 (mA s) f) 31 (mA s) l) 32 (mA s) r) 23 0 (s 23 0 + 1), s 23 0) (s, -1)
noncomputable def sp_off (s : mS) (a : Int32) : mS × Int32 := cif (wi a 0 (s 23 0 - 1) ∧ (s 24 (ix a) = 0 ∨ s 24 (ix a) = 1)) (m_set s 24 (ix a) 6, 1) (s, 0)
noncomputable def sp_out (s : mS) (a : Int32) : mS × Int32 := cif (wi a 0 (s 23 0 - 1) ∧ s 24 (ix a) = 1)
  (cif (s 11 0 < s 30 (ix a)) (s, -2) (cif (40 < s 9 (ix (s 27 (ix a)))) (s, -3) (cif (¬ s_ow s (s 25 (ix a)) = none) (s, -4) (cif (¬ s_law s (ix (s 25 (ix a))) (s 31 (ix a))) (s, -5)
    (cif (∃ b, b < mA s ∧ s 25 b = s 25 (ix a) ∧ s 24 b = 4 ∧ s 11 0 ≤ s 33 b + s_care s (s 25 (ix a))) (s, -6) (m_set s 24 (ix a) 3, 0)))))) (s, -1)
noncomputable def s_behind (s : mS) (a : Nat) : Int32 := cif (s 31 a < s 11 0) (s 11 0 - s 31 a) 0
noncomputable def s_hours (s : mS) (a : Nat) : Int32 := s 31 a - s 30 a + 1 + 2 * s_behind s a
noncomputable def sp_back (s : mS) (a : Int32) : mS × Int32 := cif (wi a 0 (s 23 0 - 1) ∧ s 24 (ix a) = 3)
  (m_set (m_set (m_set (m_set s 9 (ix (s 27 (ix a))) (s 9 (ix (s 27 (ix a))) + s_hours s (ix a))) 10 (ix (s 27 (ix a))) (s 10 (ix (s 27 (ix a))) + s_hours s (ix a) * s 4 (ix (s 6 (ix (s 25 (ix a))))))) 24 (ix a) 4) 33 (ix a) (s 11 0), s_behind s (ix a)) (s, -1)
noncomputable def sp_work (s : mS) (m h : Int32) : mS × Int32 := cif (wi m 0 (s 8 0 - 1) ∧ wi h 1 100) (m_set s 9 (ix m) (cif (h < s 9 (ix m)) (s 9 (ix m) - h) 0), cif (h < s 9 (ix m)) (s 9 (ix m) - h) 0) (s, -1)
end
