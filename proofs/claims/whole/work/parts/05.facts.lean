theorem kc_0 : g_k 0 RX0 TX0 11 tyX0 := ⟨rfl, by decide +kernel, tyX0_ok, nmX0⟩
theorem kc_1 : g_k 1 RX1 TX1 4 tyX1 := ⟨rfl, by decide +kernel, tyX1_ok, nmX1⟩
theorem kc_2 : g_k 2 RX2 TX2 3 tyX2 := ⟨rfl, by decide +kernel, tyX2_ok, nmX2⟩
theorem kc_3 : g_k 3 RX3 TX3 5 tyX3 := ⟨rfl, by decide +kernel, tyX3_ok, nmX3⟩
theorem kc_4 : g_k 4 RX4 TX4 4 tyX4 := ⟨rfl, by decide +kernel, tyX4_ok, nmX4⟩
theorem kc_5 : g_k 5 RX5 TX5 4 tyX5 := ⟨rfl, by decide +kernel, tyX5_ok, nmX5⟩
theorem kc_6 : g_k 6 RX6 TX6 2 tyX6 := ⟨rfl, by decide +kernel, tyX6_ok, nmX6⟩
theorem kc_7 : g_k 7 RX7 TX7 5 tyX7 := ⟨rfl, by decide +kernel, tyX7_ok, nmX7⟩
theorem kc_8 : g_k 8 RX8 TX8 10 tyX8 := ⟨rfl, by decide +kernel, tyX8_ok, nmX8⟩
theorem kc_9 : g_k 9 RX9 TX9 43 tyX9 := ⟨rfl, by decide +kernel, tyX9_ok, nmX9⟩
theorem kc_10 : g_k 10 RJx4a65c TJx4a65c 3 tyJx4a65c := ⟨rfl, by decide +kernel, tyJx4a65c_ok, nmJx4a65c⟩
abbrev kX8_init : mM := (yX8_init, cX8_init, 1, (none : Option Jvm.ClassFile.FieldType))
abbrev kJx4a65c_init_da8c8 : mM := (yJx4a65c_init_da8c8, cJx4a65c_init_da8c8, 1, (none : Option Jvm.ClassFile.FieldType))
abbrev kJxc12de_init_da8c8 : mM := (yJxc12de_init_da8c8, cJxc12de_init_da8c8, 1, (none : Option Jvm.ClassFile.FieldType))
abbrev kJxa1e45_init_da8c8 : mM := (yJxa1e45_init_da8c8, cJxa1e45_init_da8c8, 1, (none : Option Jvm.ClassFile.FieldType))
abbrev kX6_init : mM := (yX6_init, cX6_init, 1, (none : Option Jvm.ClassFile.FieldType))
abbrev kX3_init : mM := (yX3_init, cX3_init, 1, (none : Option Jvm.ClassFile.FieldType))
abbrev kX2_init : mM := (yX2_init, cX2_init, 1, (none : Option Jvm.ClassFile.FieldType))
abbrev kJ7_fill_53178 : mM := (yJ7_fill_53178, cJ7_fill_53178, 4, (none : Option Jvm.ClassFile.FieldType))
abbrev kX5_init : mM := (yX5_init, cX5_init, 1, (none : Option Jvm.ClassFile.FieldType))
abbrev kX8_kind : mM := (yX8_kind, cX8_kind, 4, (some .int))
abbrev kJx4a65c_size_8abf5 : mM := (yJx4a65c_size_8abf5, cJx4a65c_size_8abf5, 1, (some .int))
abbrev kX8_isWithin : mM := (yX8_isWithin, cX8_isWithin, 3, (some .boolean))
abbrev kX1_init : mM := (yX1_init, cX1_init, 5, (none : Option Jvm.ClassFile.FieldType))
abbrev kJx4a65c_add_9ea2d : mM := (yJx4a65c_add_9ea2d, cJx4a65c_add_9ea2d, 2, (some .boolean))
abbrev kJx4a65c_add_72be8 : mM := (yJx4a65c_add_72be8, cJx4a65c_add_72be8, 4, (none : Option Jvm.ClassFile.FieldType))
abbrev kJx4a65c_grow_d5877 : mM := (yJx4a65c_grow_d5877, cJx4a65c_grow_d5877, 1, (some (.array (.object "java/lang/Object"))))
abbrev kJx4a65c_grow_92f84 : mM := (yJx4a65c_grow_92f84, cJx4a65c_grow_92f84, 4, (some (.array (.object "java/lang/Object"))))
abbrev kJ8_newLength_cabcc : mM := (yJ8_newLength_cabcc, cJ8_newLength_cabcc, 4, (some .int))
abbrev kJ9_max_7cf53 : mM := (yJ9_max_7cf53, cJ9_max_7cf53, 2, (some .int))
abbrev kJ8_hugeLength_7cf53 : mM := (yJ8_hugeLength_7cf53, cJ8_hugeLength_7cf53, 3, (some .int))
abbrev kJ7_copyOf_1904c : mM := (yJ7_copyOf_1904c, cJ7_copyOf_1904c, 2, (some (.array (.object "java/lang/Object"))))
abbrev kJ7_copyOf_6403c : mM := (yJ7_copyOf_6403c, cJ7_copyOf_6403c, 4, (some (.array (.object "java/lang/Object"))))
abbrev kJ9_min_7cf53 : mM := (yJ9_min_7cf53, cJ9_min_7cf53, 2, (some .int))
abbrev kX8_thing : mM := (yX8_thing, cX8_thing, 3, (some .int))
abbrev kX8_kindAt : mM := (yX8_kindAt, cX8_kindAt, 2, (some (.object "ToolHouse$Kind")))
abbrev kJx4a65c_get_915e3 : mM := (yJx4a65c_get_915e3, cJx4a65c_get_915e3, 2, (some (.object "java/lang/Object")))
abbrev kJ15_checkIndex_7cf53 : mM := (yJ15_checkIndex_7cf53, cJ15_checkIndex_7cf53, 2, (some .int))
abbrev kJ3_checkIndex_8e157 : mM := (yJ3_checkIndex_8e157, cJ3_checkIndex_8e157, 3, (some .int))
abbrev kJx4a65c_elementData_915e3 : mM := (yJx4a65c_elementData_915e3, cJx4a65c_elementData_915e3, 2, (some (.object "java/lang/Object")))
abbrev kX7_init : mM := (yX7_init, cX7_init, 3, (none : Option Jvm.ClassFile.FieldType))
abbrev kX8_member : mM := (yX8_member, cX8_member, 1, (some .int))
abbrev kX4_init : mM := (yX4_init, cX4_init, 2, (none : Option Jvm.ClassFile.FieldType))
abbrev kX8_feed : mM := (yX8_feed, cX8_feed, 6, (some .int))
abbrev kX6_hasRoom : mM := (yX6_hasRoom, cX6_hasRoom, 1, (some .boolean))
abbrev kX6_put : mM := (yX6_put, cX6_put, 3, (none : Option Jvm.ClassFile.FieldType))
abbrev kX8_end : mM := (yX8_end, cX8_end, 2, (some .int))
abbrev kX8_law : mM := (yX8_law, cX8_law, 1, (some .int))
abbrev kX3_read : mM := (yX3_read, cX3_read, 5, (none : Option Jvm.ClassFile.FieldType))
abbrev kX6_byteAt : mM := (yX6_byteAt, cX6_byteAt, 2, (some .int))
abbrev kX3_isBlank : mM := (yX3_isBlank, cX3_isBlank, 1, (some .boolean))
abbrev kX3_endOfToken : mM := (yX3_endOfToken, cX3_endOfToken, 5, (some .int))
abbrev kX3_isLetter : mM := (yX3_isLetter, cX3_isLetter, 1, (some .boolean))
abbrev kX3_isDigit : mM := (yX3_isDigit, cX3_isDigit, 1, (some .boolean))
abbrev kX3_take : mM := (yX3_take, cX3_take, 6, (none : Option Jvm.ClassFile.FieldType))
abbrev kX3_numberOf : mM := (yX3_numberOf, cX3_numberOf, 5, (some .int))
abbrev kX3_isEvery : mM := (yX3_isEvery, cX3_isEvery, 4, (some .boolean))
abbrev kJ0_length_8abf5 : mM := (yJ0_length_8abf5, cJ0_length_8abf5, 1, (some .int))
abbrev kJ0_coder_7d493 : mM := (yJ0_coder_7d493, cJ0_coder_7d493, 1, (some .byte))
abbrev kJ0_charAt_5068e : mM := (yJ0_charAt_5068e, cJ0_charAt_5068e, 2, (some .char))
abbrev kJ0_isLatin1_aae02 : mM := (yJ0_isLatin1_aae02, cJ0_isLatin1_aae02, 1, (some .boolean))
abbrev kJ1_charAt_3b067 : mM := (yJ1_charAt_3b067, cJ1_charAt_3b067, 2, (some .char))
abbrev kJ0_checkIndex_df160 : mM := (yJ0_checkIndex_df160, cJ0_checkIndex_df160, 2, (none : Option Jvm.ClassFile.FieldType))
abbrev kJ2_charAt_3b067 : mM := (yJ2_charAt_3b067, cJ2_charAt_3b067, 2, (some .char))
abbrev kJ2_checkIndex_2214a : mM := (yJ2_checkIndex_2214a, cJ2_checkIndex_2214a, 2, (none : Option Jvm.ClassFile.FieldType))
abbrev kJ2_length_9d52b : mM := (yJ2_length_9d52b, cJ2_length_9d52b, 1, (some .int))
abbrev kJ2_getChar_3b067 : mM := (yJ2_getChar_3b067, cJ2_getChar_3b067, 2, (some .char))
abbrev kX3_takeKind : mM := (yX3_takeKind, cX3_takeKind, 4, (none : Option Jvm.ClassFile.FieldType))
abbrev kX3_blame : mM := (yX3_blame, cX3_blame, 3, (none : Option Jvm.ClassFile.FieldType))
abbrev kX3_takeDays : mM := (yX3_takeDays, cX3_takeDays, 2, (none : Option Jvm.ClassFile.FieldType))
abbrev kX2_tell : mM := (yX2_tell, cX2_tell, 3, (none : Option Jvm.ClassFile.FieldType))
abbrev kX8_place : mM := (yX8_place, cX8_place, 1, (some .int))
abbrev kX8_look : mM := (yX8_look, cX8_look, 3, (some .boolean))
abbrev kX8_thingAt : mM := (yX8_thingAt, cX8_thingAt, 2, (some (.object "ToolHouse$Thing")))
abbrev kX8_lawful : mM := (yX8_lawful, cX8_lawful, 4, (some .int))
abbrev kX2_lets : mM := (yX2_lets, cX2_lets, 4, (some .boolean))
abbrev kX2_daysWanted : mM := (yX2_daysWanted, cX2_daysWanted, 2, (some .int))
abbrev kX8_ask : mM := (yX8_ask, cX8_ask, 9, (some .int))
abbrev kX8_memberAt : mM := (yX8_memberAt, cX8_memberAt, 2, (some (.object "ToolHouse$Member")))
abbrev kX8_canBeAsked : mM := (yX8_canBeAsked, cX8_canBeAsked, 3, (some .boolean))
abbrev kX8_howManyAre : mM := (yX8_howManyAre, cX8_howManyAre, 4, (some .int))
abbrev kX0_init : mM := (yX0_init, cX0_init, 8, (none : Option Jvm.ClassFile.FieldType))
abbrev kX8_plan : mM := (yX8_plan, cX8_plan, 3, (some .int))
abbrev kX5_begin : mM := (yX5_begin, cX5_begin, 1, (none : Option Jvm.ClassFile.FieldType))
abbrev kX5_add : mM := (yX5_add, cX5_add, 2, (none : Option Jvm.ClassFile.FieldType))
abbrev kX8_rowThatMayHave : mM := (yX8_rowThatMayHave, cX8_rowThatMayHave, 5, (some .int))
abbrev kX5_askAtRow : mM := (yX5_askAtRow, cX5_askAtRow, 2, (some (.object "ToolHouse$Ask")))
abbrev kX1_fits : mM := (yX1_fits, cX1_fits, 2, (some .boolean))
abbrev kX8_isFreeFor : mM := (yX8_isFreeFor, cX8_isFreeFor, 3, (some .boolean))
abbrev kX8_isFreeBut : mM := (yX8_isFreeBut, cX8_isFreeBut, 8, (some .boolean))
abbrev kX0_holds : mM := (yX0_holds, cX0_holds, 2, (some .boolean))
abbrev kX0_lastDay : mM := (yX0_lastDay, cX0_lastDay, 2, (some .int))
abbrev kX8_areNear : mM := (yX8_areNear, cX8_areNear, 5, (some .boolean))
abbrev kX5_offer : mM := (yX5_offer, cX5_offer, 6, (none : Option Jvm.ClassFile.FieldType))
abbrev kX5_weigh : mM := (yX5_weigh, cX5_weigh, 10, (none : Option Jvm.ClassFile.FieldType))
abbrev kX5_worthOf : mM := (yX5_worthOf, cX5_worthOf, 5, (some .int))
abbrev kX5_nearTo : mM := (yX5_nearTo, cX5_nearTo, 7, (some .int))
abbrev kX5_wholeRow : mM := (yX5_wholeRow, cX5_wholeRow, 1, (some .int))
abbrev kX8_carryOutPlan : mM := (yX8_carryOutPlan, cX8_carryOutPlan, 4, (some .int))
abbrev kX5_thingAtRow : mM := (yX5_thingAtRow, cX5_thingAtRow, 4, (some .int))
abbrev kX8_refuse : mM := (yX8_refuse, cX8_refuse, 3, (none : Option Jvm.ClassFile.FieldType))
abbrev kJx4a65c_add_7a177 : mM := (yJx4a65c_add_7a177, cJx4a65c_add_7a177, 5, (none : Option Jvm.ClassFile.FieldType))
abbrev kJx4a65c_rangeCheckForAdd_d00df : mM := (yJx4a65c_rangeCheckForAdd_d00df, cJx4a65c_rangeCheckForAdd_d00df, 2, (none : Option Jvm.ClassFile.FieldType))
abbrev kX8_off : mM := (yX8_off, cX8_off, 3, (some .boolean))
abbrev kX8_askAt : mM := (yX8_askAt, cX8_askAt, 2, (some (.object "ToolHouse$Ask")))
abbrev kX8_out : mM := (yX8_out, cX8_out, 4, (some .int))
abbrev kX8_hindranceOf : mM := (yX8_hindranceOf, cX8_hindranceOf, 3, (some .int))
abbrev kX7_isCaredFor : mM := (yX7_isCaredFor, cX7_isCaredFor, 2, (some .boolean))
abbrev kX8_back : mM := (yX8_back, cX8_back, 4, (some .int))
abbrev kX4_owe : mM := (yX4_owe, cX4_owe, 3, (none : Option Jvm.ClassFile.FieldType))
abbrev kX8_work : mM := (yX8_work, cX8_work, 4, (some .int))
abbrev kX8_days : mM := (yX8_days, cX8_days, 3, (some .int))
abbrev kX8_loseWhatIsOver : mM := (yX8_loseWhatIsOver, cX8_loseWhatIsOver, 3, (none : Option Jvm.ClassFile.FieldType))
abbrev kX8_moveFromLateThings : mM := (yX8_moveFromLateThings, cX8_moveFromLateThings, 4, (none : Option Jvm.ClassFile.FieldType))
abbrev kX8_nextToMove : mM := (yX8_nextToMove, cX8_nextToMove, 4, (some (.object "ToolHouse$Ask")))
abbrev kX8_mustMove : mM := (yX8_mustMove, cX8_mustMove, 2, (some .boolean))
abbrev kX7_isLate : mM := (yX7_isLate, cX7_isLate, 2, (some .boolean))
abbrev kX0_movesAheadOf : mM := (yX0_movesAheadOf, cX0_movesAheadOf, 2, (some .boolean))
abbrev kX8_firstOtherThingFor : mM := (yX8_firstOtherThingFor, cX8_firstOtherThingFor, 4, (some (.object "ToolHouse$Thing")))
abbrev kX8_buy : mM := (yX8_buy, cX8_buy, 7, (some .int))
abbrev kX8_thingOf : mM := (yX8_thingOf, cX8_thingOf, 4, (some .int))
abbrev kX8_howManyAreBookedOn : mM := (yX8_howManyAreBookedOn, cX8_howManyAreBookedOn, 4, (some .int))
abbrev kX0_isBookedOn : mM := (yX0_isBookedOn, cX0_isBookedOn, 2, (some .boolean))
abbrev kX8_isFree : mM := (yX8_isFree, cX8_isFree, 5, (some .int))
abbrev kX8_memberOf : mM := (yX8_memberOf, cX8_memberOf, 4, (some .int))
abbrev kX8_count : mM := (yX8_count, cX8_count, 2, (some .int))
abbrev kX8_of : mM := (yX8_of, cX8_of, 4, (some .int))
abbrev kX9_init : mM := (yX9_init, cX9_init, 1, (none : Option Jvm.ClassFile.FieldType))
abbrev kX9_thrown : mM := (yX9_thrown, cX9_thrown, 1, (some .int))
abbrev kX9_kind : mM := (yX9_kind, cX9_kind, 4, (some .int))
abbrev kX9_within : mM := (yX9_within, cX9_within, 3, (some .boolean))
abbrev kX9_thing : mM := (yX9_thing, cX9_thing, 2, (some .int))
abbrev kX9_isKind : mM := (yX9_isKind, cX9_isKind, 2, (some .boolean))
abbrev kX9_member : mM := (yX9_member, cX9_member, 1, (some .int))
abbrev kX9_feed : mM := (yX9_feed, cX9_feed, 8, (some .int))
abbrev kX9_end : mM := (yX9_end, cX9_end, 2, (some .int))
abbrev kX9_law : mM := (yX9_law, cX9_law, 3, (some .int))
abbrev kX9_token : mM := (yX9_token, cX9_token, 2, (none : Option Jvm.ClassFile.FieldType))
abbrev kX9_byteAt : mM := (yX9_byteAt, cX9_byteAt, 2, (some .int))
abbrev kX9_statement : mM := (yX9_statement, cX9_statement, 3, (some .boolean))
abbrev kX9_isEvery : mM := (yX9_isEvery, cX9_isEvery, 1, (some .boolean))
abbrev kX9_wrong : mM := (yX9_wrong, cX9_wrong, 2, (some .boolean))
abbrev kX9_place : mM := (yX9_place, cX9_place, 1, (some .int))
abbrev kX9_look : mM := (yX9_look, cX9_look, 2, (some .boolean))
abbrev kX9_isThing : mM := (yX9_isThing, cX9_isThing, 2, (some .boolean))
abbrev kX9_outWith : mM := (yX9_outWith, cX9_outWith, 3, (some .int))
abbrev kX9_lawful : mM := (yX9_lawful, cX9_lawful, 3, (some .int))
abbrev kX9_isLawful : mM := (yX9_isLawful, cX9_isLawful, 4, (some .boolean))
abbrev kX9_wanted : mM := (yX9_wanted, cX9_wanted, 2, (some .int))
abbrev kX9_ask : mM := (yX9_ask, cX9_ask, 7, (some .int))
abbrev kX9_isMember : mM := (yX9_isMember, cX9_isMember, 2, (some .boolean))
abbrev kX9_counted : mM := (yX9_counted, cX9_counted, 4, (some .int))
abbrev kX9_plan : mM := (yX9_plan, cX9_plan, 4, (some .int))
abbrev kX9_fits : mM := (yX9_fits, cX9_fits, 3, (some .boolean))
abbrev kX9_isFreeFor : mM := (yX9_isFreeFor, cX9_isFreeFor, 6, (some .boolean))
abbrev kX9_endOf : mM := (yX9_endOf, cX9_endOf, 2, (some .int))
abbrev kX9_areNear : mM := (yX9_areNear, cX9_areNear, 9, (some .boolean))
abbrev kX9_tries : mM := (yX9_tries, cX9_tries, 4, (none : Option Jvm.ClassFile.FieldType))
abbrev kX9_worth : mM := (yX9_worth, cX9_worth, 3, (some .int))
abbrev kX9_stands : mM := (yX9_stands, cX9_stands, 4, (some .boolean))
abbrev kX9_off : mM := (yX9_off, cX9_off, 2, (some .boolean))
abbrev kX9_out : mM := (yX9_out, cX9_out, 4, (some .int))
abbrev kX9_back : mM := (yX9_back, cX9_back, 4, (some .int))
abbrev kX9_work : mM := (yX9_work, cX9_work, 3, (some .int))
abbrev kX9_days : mM := (yX9_days, cX9_days, 4, (some .int))
abbrev kX9_moves : mM := (yX9_moves, cX9_moves, 3, (none : Option Jvm.ClassFile.FieldType))
abbrev kX9_isLate : mM := (yX9_isLate, cX9_isLate, 3, (some .boolean))
abbrev kX9_isAhead : mM := (yX9_isAhead, cX9_isAhead, 3, (some .boolean))
abbrev kX9_moves_ : mM := (yX9_moves_, cX9_moves_, 3, (none : Option Jvm.ClassFile.FieldType))
abbrev kX9_buy : mM := (yX9_buy, cX9_buy, 6, (some .int))
abbrev kX9_of : mM := (yX9_of, cX9_of, 4, (some .int))
abbrev kX9_thingOf : mM := (yX9_thingOf, cX9_thingOf, 5, (some .int))
abbrev kX9_isFree : mM := (yX9_isFree, cX9_isFree, 4, (some .int))
abbrev kX9_memberOf : mM := (yX9_memberOf, cX9_memberOf, 5, (some .int))
abbrev kX9_count : mM := (yX9_count, cX9_count, 2, (some .int))
theorem mc_L_15 {k : mM} (hk : k.1.cls = "ToolHouseLaw") : g_cm k kX8_init 15 0 := ⟨tw_83, tw_53, by rw [hk]; exact tw_81, by decide +kernel, by decide⟩
theorem mc_X8_9 {k : mM} (hk : k.1.cls = "ToolHouse") : g_cm k kJx4a65c_init_da8c8 9 0 := ⟨tw_91, tw_56, by rw [hk]; exact tw_89, by decide +kernel, by decide⟩
theorem mc_Jx4a65c_1 {k : mM} (hk : k.1.cls = "java/util/ArrayList") : g_cm k kJxc12de_init_da8c8 1 0 := ⟨tw_94, tw_55, by rw [hk]; exact tw_92, by decide +kernel, by decide⟩
theorem mc_Jxc12de_1 {k : mM} (hk : k.1.cls = "java/util/AbstractList") : g_cm k kJxa1e45_init_da8c8 1 0 := ⟨tw_97, tw_54, by rw [hk]; exact tw_95, by decide +kernel, by decide⟩
theorem fg_Jx4a65c_9 : g_f "java/util/ArrayList" 9 10 1 := ⟨_, _, _, _, kc_10, by decide, _, tw_101, Or.inl rfl⟩
theorem fp_Jx4a65c_9 : g_fp "java/util/ArrayList" 9 10 1 (.array (.object "java/lang/Object")) false := ⟨_, _, _, _, kc_10, by decide, ⟨_, tw_101, Or.inl rfl⟩, rfl, rfl, fun h => by first | rfl | cases h⟩
theorem fg_Jx4a65c_48 : g_f "java/util/ArrayList" 48 10 2 := ⟨_, _, _, _, kc_10, by decide, _, tw_102, Or.inl rfl⟩
theorem fp_Jx4a65c_48 : g_fp "java/util/ArrayList" 48 10 2 (.int) false := ⟨_, _, _, _, kc_10, by decide, ⟨_, tw_102, Or.inl rfl⟩, rfl, rfl, fun h => by first | rfl | cases h⟩
theorem fg_Jx4a65c_63 : g_f "java/util/ArrayList" 63 10 0 := ⟨_, _, _, _, kc_10, by decide, _, tw_104, Or.inr tw_105⟩
theorem fp_Jx4a65c_63 : g_fp "java/util/ArrayList" 63 10 0 (.int) false := ⟨_, _, _, _, kc_10, by decide, ⟨_, tw_104, Or.inr tw_105⟩, rfl, rfl, fun h => by first | rfl | cases h⟩
theorem mc_X8_30 {k : mM} (hk : k.1.cls = "ToolHouse") : g_cn k kX6_init 30 0 "ToolHouse" := ⟨tw_117, tw_57, by rw [hk]; exact tw_115, by decide +kernel, by decide⟩
theorem fg_X6_9 : g_f "ToolHouse$Tape" 9 6 0 := ⟨_, _, _, _, kc_6, by decide, _, tw_119, Or.inl rfl⟩
theorem fp_X6_9 : g_fp "ToolHouse$Tape" 9 6 0 (.array .int) true := ⟨_, _, _, _, kc_6, by decide, ⟨_, tw_119, Or.inl rfl⟩, rfl, rfl, fun h => by first | rfl | cases h⟩
theorem fg_X6_15 : g_f "ToolHouse$Tape" 15 6 1 := ⟨_, _, _, _, kc_6, by decide, _, tw_120, Or.inl rfl⟩
theorem fp_X6_15 : g_fp "ToolHouse$Tape" 15 6 1 (.int) false := ⟨_, _, _, _, kc_6, by decide, ⟨_, tw_120, Or.inl rfl⟩, rfl, rfl, fun h => by first | rfl | cases h⟩
theorem fg_X3_34 : g_f "ToolHouse$LawReader" 34 6 1 := ⟨_, _, _, _, kc_6, by decide, _, tw_121, Or.inl rfl⟩
theorem fp_X3_34 : g_fp "ToolHouse$LawReader" 34 6 1 (.int) false := ⟨_, _, _, _, kc_6, by decide, ⟨_, tw_121, Or.inl rfl⟩, rfl, rfl, fun h => by first | rfl | cases h⟩
theorem fg_X8_98 : g_f "ToolHouse" 98 6 1 := ⟨_, _, _, _, kc_6, by decide, _, tw_122, Or.inl rfl⟩
theorem fp_X8_98 : g_fp "ToolHouse" 98 6 1 (.int) false := ⟨_, _, _, _, kc_6, by decide, ⟨_, tw_122, Or.inl rfl⟩, rfl, rfl, fun h => by first | rfl | cases h⟩
theorem mc_X8_37 {k : mM} (hk : k.1.cls = "ToolHouse") : g_cn k kX3_init 37 0 "ToolHouse" := ⟨tw_133, tw_58, by rw [hk]; exact tw_131, by decide +kernel, by decide⟩
theorem fg_X3_9 : g_f "ToolHouse$LawReader" 9 3 0 := ⟨_, _, _, _, kc_3, by decide, _, tw_135, Or.inl rfl⟩
theorem fp_X3_9 : g_fp "ToolHouse$LawReader" 9 3 0 (.array .int) true := ⟨_, _, _, _, kc_3, by decide, ⟨_, tw_135, Or.inl rfl⟩, rfl, rfl, fun h => by first | rfl | cases h⟩
theorem fg_X8_115 : g_f "ToolHouse" 115 3 0 := ⟨_, _, _, _, kc_3, by decide, _, tw_136, Or.inl rfl⟩
theorem fg_X3_15 : g_f "ToolHouse$LawReader" 15 3 1 := ⟨_, _, _, _, kc_3, by decide, _, tw_137, Or.inl rfl⟩
theorem fp_X3_15 : g_fp "ToolHouse$LawReader" 15 3 1 (.int) false := ⟨_, _, _, _, kc_3, by decide, ⟨_, tw_137, Or.inl rfl⟩, rfl, rfl, fun h => by first | rfl | cases h⟩
theorem fg_X8_112 : g_f "ToolHouse" 112 3 1 := ⟨_, _, _, _, kc_3, by decide, _, tw_138, Or.inl rfl⟩
theorem fp_X8_112 : g_fp "ToolHouse" 112 3 1 (.int) false := ⟨_, _, _, _, kc_3, by decide, ⟨_, tw_138, Or.inl rfl⟩, rfl, rfl, fun h => by first | rfl | cases h⟩
theorem fg_X3_19 : g_f "ToolHouse$LawReader" 19 3 2 := ⟨_, _, _, _, kc_3, by decide, _, tw_139, Or.inl rfl⟩
theorem fp_X3_19 : g_fp "ToolHouse$LawReader" 19 3 2 (.int) false := ⟨_, _, _, _, kc_3, by decide, ⟨_, tw_139, Or.inl rfl⟩, rfl, rfl, fun h => by first | rfl | cases h⟩
theorem fg_X8_108 : g_f "ToolHouse" 108 3 2 := ⟨_, _, _, _, kc_3, by decide, _, tw_140, Or.inl rfl⟩
theorem fp_X8_108 : g_fp "ToolHouse" 108 3 2 (.int) false := ⟨_, _, _, _, kc_3, by decide, ⟨_, tw_140, Or.inl rfl⟩, rfl, rfl, fun h => by first | rfl | cases h⟩
theorem fg_X3_22 : g_f "ToolHouse$LawReader" 22 3 3 := ⟨_, _, _, _, kc_3, by decide, _, tw_141, Or.inl rfl⟩
theorem fp_X3_22 : g_fp "ToolHouse$LawReader" 22 3 3 (.int) false := ⟨_, _, _, _, kc_3, by decide, ⟨_, tw_141, Or.inl rfl⟩, rfl, rfl, fun h => by first | rfl | cases h⟩
theorem fg_X3_25 : g_f "ToolHouse$LawReader" 25 3 4 := ⟨_, _, _, _, kc_3, by decide, _, tw_142, Or.inl rfl⟩
theorem fp_X3_25 : g_fp "ToolHouse$LawReader" 25 3 4 (.int) false := ⟨_, _, _, _, kc_3, by decide, ⟨_, tw_142, Or.inl rfl⟩, rfl, rfl, fun h => by first | rfl | cases h⟩
theorem mc_X8_44 {k : mM} (hk : k.1.cls = "ToolHouse") : g_cm k kX2_init 44 0 := ⟨tw_158, tw_59, by rw [hk]; exact tw_156, by decide +kernel, by decide⟩
theorem mc_X2_22 {k : mM} (hk : k.1.cls = "ToolHouse$LawBook") : g_cm k kJ7_fill_53178 22 2 := ⟨tw_162, tw_60, by rw [hk]; exact tw_160, by decide +kernel, by decide⟩
theorem fg_X2_9 : g_f "ToolHouse$LawBook" 9 2 0 := ⟨_, _, _, _, kc_2, by decide, _, tw_163, Or.inl rfl⟩
theorem fp_X2_9 : g_fp "ToolHouse$LawBook" 9 2 0 (.int) false := ⟨_, _, _, _, kc_2, by decide, ⟨_, tw_163, Or.inl rfl⟩, rfl, rfl, fun h => by first | rfl | cases h⟩
theorem fg_X8_101 : g_f "ToolHouse" 101 2 0 := ⟨_, _, _, _, kc_2, by decide, _, tw_164, Or.inl rfl⟩
theorem fp_X8_101 : g_fp "ToolHouse" 101 2 0 (.int) false := ⟨_, _, _, _, kc_2, by decide, ⟨_, tw_164, Or.inl rfl⟩, rfl, rfl, fun h => by first | rfl | cases h⟩
theorem fg_X2_15 : g_f "ToolHouse$LawBook" 15 2 1 := ⟨_, _, _, _, kc_2, by decide, _, tw_165, Or.inl rfl⟩
theorem fp_X2_15 : g_fp "ToolHouse$LawBook" 15 2 1 (.int) false := ⟨_, _, _, _, kc_2, by decide, ⟨_, tw_165, Or.inl rfl⟩, rfl, rfl, fun h => by first | rfl | cases h⟩
theorem fg_X8_111 : g_f "ToolHouse" 111 2 1 := ⟨_, _, _, _, kc_2, by decide, _, tw_166, Or.inl rfl⟩
theorem fp_X8_111 : g_fp "ToolHouse" 111 2 1 (.int) false := ⟨_, _, _, _, kc_2, by decide, ⟨_, tw_166, Or.inl rfl⟩, rfl, rfl, fun h => by first | rfl | cases h⟩
theorem fg_X2_18 : g_f "ToolHouse$LawBook" 18 2 2 := ⟨_, _, _, _, kc_2, by decide, _, tw_167, Or.inl rfl⟩
theorem fp_X2_18 : g_fp "ToolHouse$LawBook" 18 2 2 (.array .int) true := ⟨_, _, _, _, kc_2, by decide, ⟨_, tw_167, Or.inl rfl⟩, rfl, rfl, fun h => by first | rfl | cases h⟩
theorem mc_X8_51 {k : mM} (hk : k.1.cls = "ToolHouse") : g_cn k kX5_init 51 0 "ToolHouse" := ⟨tw_179, tw_61, by rw [hk]; exact tw_177, by decide +kernel, by decide⟩
theorem fg_X5_13 : g_f "ToolHouse$Planner" 13 5 0 := ⟨_, _, _, _, kc_5, by decide, _, tw_183, Or.inl rfl⟩
theorem fp_X5_13 : g_fp "ToolHouse$Planner" 13 5 0 (.array (.object "ToolHouse$Ask")) true := ⟨_, _, _, _, kc_5, by decide, ⟨_, tw_183, Or.inl rfl⟩, rfl, rfl, fun h => by first | rfl | cases h⟩
theorem fg_X5_17 : g_f "ToolHouse$Planner" 17 5 1 := ⟨_, _, _, _, kc_5, by decide, _, tw_184, Or.inl rfl⟩
theorem fp_X5_17 : g_fp "ToolHouse$Planner" 17 5 1 (.int) false := ⟨_, _, _, _, kc_5, by decide, ⟨_, tw_184, Or.inl rfl⟩, rfl, rfl, fun h => by first | rfl | cases h⟩
theorem fg_X5_21 : g_f "ToolHouse$Planner" 21 5 2 := ⟨_, _, _, _, kc_5, by decide, _, tw_185, Or.inl rfl⟩
theorem fp_X5_21 : g_fp "ToolHouse$Planner" 21 5 2 (.array .int) true := ⟨_, _, _, _, kc_5, by decide, ⟨_, tw_185, Or.inl rfl⟩, rfl, rfl, fun h => by first | rfl | cases h⟩
theorem fg_X5_25 : g_f "ToolHouse$Planner" 25 5 3 := ⟨_, _, _, _, kc_5, by decide, _, tw_186, Or.inl rfl⟩
theorem fp_X5_25 : g_fp "ToolHouse$Planner" 25 5 3 (.array .int) true := ⟨_, _, _, _, kc_5, by decide, ⟨_, tw_186, Or.inl rfl⟩, rfl, rfl, fun h => by first | rfl | cases h⟩
theorem fg_X8_10 : g_f "ToolHouse" 10 8 0 := ⟨_, _, _, _, kc_8, by decide, _, tw_196, Or.inl rfl⟩
theorem fp_X8_10 : g_fp "ToolHouse" 10 8 0 (.object "java/util/ArrayList") true := ⟨_, _, _, _, kc_8, by decide, ⟨_, tw_196, Or.inl rfl⟩, rfl, rfl, fun h => by first | rfl | cases h⟩
theorem fg_X8_16 : g_f "ToolHouse" 16 8 1 := ⟨_, _, _, _, kc_8, by decide, _, tw_197, Or.inl rfl⟩
theorem fp_X8_16 : g_fp "ToolHouse" 16 8 1 (.object "java/util/ArrayList") true := ⟨_, _, _, _, kc_8, by decide, ⟨_, tw_197, Or.inl rfl⟩, rfl, rfl, fun h => by first | rfl | cases h⟩
theorem fg_X8_19 : g_f "ToolHouse" 19 8 2 := ⟨_, _, _, _, kc_8, by decide, _, tw_198, Or.inl rfl⟩
theorem fp_X8_19 : g_fp "ToolHouse" 19 8 2 (.object "java/util/ArrayList") true := ⟨_, _, _, _, kc_8, by decide, ⟨_, tw_198, Or.inl rfl⟩, rfl, rfl, fun h => by first | rfl | cases h⟩
theorem fg_X8_22 : g_f "ToolHouse" 22 8 3 := ⟨_, _, _, _, kc_8, by decide, _, tw_199, Or.inl rfl⟩
theorem fp_X8_22 : g_fp "ToolHouse" 22 8 3 (.object "java/util/ArrayList") true := ⟨_, _, _, _, kc_8, by decide, ⟨_, tw_199, Or.inl rfl⟩, rfl, rfl, fun h => by first | rfl | cases h⟩
theorem fg_X8_25 : g_f "ToolHouse" 25 8 4 := ⟨_, _, _, _, kc_8, by decide, _, tw_200, Or.inl rfl⟩
theorem fp_X8_25 : g_fp "ToolHouse" 25 8 4 (.object "java/util/ArrayList") true := ⟨_, _, _, _, kc_8, by decide, ⟨_, tw_200, Or.inl rfl⟩, rfl, rfl, fun h => by first | rfl | cases h⟩
theorem fg_X8_31 : g_f "ToolHouse" 31 8 5 := ⟨_, _, _, _, kc_8, by decide, _, tw_201, Or.inl rfl⟩
theorem fp_X8_31 : g_fp "ToolHouse" 31 8 5 (.object "ToolHouse$Tape") true := ⟨_, _, _, _, kc_8, by decide, ⟨_, tw_201, Or.inl rfl⟩, rfl, rfl, fun h => by first | rfl | cases h⟩
theorem fg_X8_38 : g_f "ToolHouse" 38 8 6 := ⟨_, _, _, _, kc_8, by decide, _, tw_202, Or.inl rfl⟩
theorem fp_X8_38 : g_fp "ToolHouse" 38 8 6 (.object "ToolHouse$LawReader") true := ⟨_, _, _, _, kc_8, by decide, ⟨_, tw_202, Or.inl rfl⟩, rfl, rfl, fun h => by first | rfl | cases h⟩
theorem fg_X8_45 : g_f "ToolHouse" 45 8 7 := ⟨_, _, _, _, kc_8, by decide, _, tw_203, Or.inl rfl⟩
theorem fp_X8_45 : g_fp "ToolHouse" 45 8 7 (.object "ToolHouse$LawBook") true := ⟨_, _, _, _, kc_8, by decide, ⟨_, tw_203, Or.inl rfl⟩, rfl, rfl, fun h => by first | rfl | cases h⟩
theorem fg_X8_52 : g_f "ToolHouse" 52 8 8 := ⟨_, _, _, _, kc_8, by decide, _, tw_204, Or.inl rfl⟩
theorem fp_X8_52 : g_fp "ToolHouse" 52 8 8 (.object "ToolHouse$Planner") true := ⟨_, _, _, _, kc_8, by decide, ⟨_, tw_204, Or.inl rfl⟩, rfl, rfl, fun h => by first | rfl | cases h⟩
theorem fg_X8_56 : g_f "ToolHouse" 56 8 9 := ⟨_, _, _, _, kc_8, by decide, _, tw_205, Or.inl rfl⟩
theorem fp_X8_56 : g_fp "ToolHouse" 56 8 9 (.int) false := ⟨_, _, _, _, kc_8, by decide, ⟨_, tw_205, Or.inl rfl⟩, rfl, rfl, fun h => by first | rfl | cases h⟩
theorem mc_L_19 {k : mM} (hk : k.1.cls = "ToolHouseLaw") : g_cm k kX8_kind 19 3 := ⟨tw_230, tw_53, by rw [hk]; exact tw_227, by decide +kernel, by decide⟩
theorem mc_X8_60 {k : mM} (hk : k.1.cls = "ToolHouse") : g_cm k kJx4a65c_size_8abf5 60 0 := ⟨tw_234, tw_56, by rw [hk]; exact tw_231, by decide +kernel, by decide⟩
theorem mc_X8_64 {k : mM} (hk : k.1.cls = "ToolHouse") : g_cm k kX8_isWithin 64 3 := ⟨tw_237, tw_53, by rw [hk]; exact tw_235, by decide +kernel, by decide⟩
theorem mc_X8_70 {k : mM} (hk : k.1.cls = "ToolHouse") : g_cm k kX1_init 70 4 := ⟨tw_242, tw_63, by rw [hk]; exact tw_240, by decide +kernel, by decide⟩
theorem fg_X1_7 : g_f "ToolHouse$Kind" 7 1 0 := ⟨_, _, _, _, kc_1, by decide, _, tw_244, Or.inl rfl⟩
theorem fp_X1_7 : g_fp "ToolHouse$Kind" 7 1 0 (.int) true := ⟨_, _, _, _, kc_1, by decide, ⟨_, tw_244, Or.inl rfl⟩, rfl, rfl, fun h => by first | rfl | cases h⟩
theorem fg_X2_34 : g_f "ToolHouse$LawBook" 34 1 0 := ⟨_, _, _, _, kc_1, by decide, _, tw_245, Or.inl rfl⟩
theorem fg_X8_258 : g_f "ToolHouse" 258 1 0 := ⟨_, _, _, _, kc_1, by decide, _, tw_246, Or.inl rfl⟩
theorem fg_X1_13 : g_f "ToolHouse$Kind" 13 1 1 := ⟨_, _, _, _, kc_1, by decide, _, tw_247, Or.inl rfl⟩
theorem fp_X1_13 : g_fp "ToolHouse$Kind" 13 1 1 (.int) true := ⟨_, _, _, _, kc_1, by decide, ⟨_, tw_247, Or.inl rfl⟩, rfl, rfl, fun h => by first | rfl | cases h⟩
theorem fg_X7_34 : g_f "ToolHouse$Thing" 34 1 1 := ⟨_, _, _, _, kc_1, by decide, _, tw_248, Or.inl rfl⟩
theorem fg_X5_62 : g_f "ToolHouse$Planner" 62 1 1 := ⟨_, _, _, _, kc_1, by decide, _, tw_249, Or.inl rfl⟩
theorem fg_X8_240 : g_f "ToolHouse" 240 1 1 := ⟨_, _, _, _, kc_1, by decide, _, tw_250, Or.inl rfl⟩
theorem fg_X1_16 : g_f "ToolHouse$Kind" 16 1 2 := ⟨_, _, _, _, kc_1, by decide, _, tw_251, Or.inl rfl⟩
theorem fp_X1_16 : g_fp "ToolHouse$Kind" 16 1 2 (.int) true := ⟨_, _, _, _, kc_1, by decide, ⟨_, tw_251, Or.inl rfl⟩, rfl, rfl, fun h => by first | rfl | cases h⟩
theorem fg_X1_19 : g_f "ToolHouse$Kind" 19 1 3 := ⟨_, _, _, _, kc_1, by decide, _, tw_252, Or.inl rfl⟩
theorem fp_X1_19 : g_fp "ToolHouse$Kind" 19 1 3 (.int) true := ⟨_, _, _, _, kc_1, by decide, ⟨_, tw_252, Or.inl rfl⟩, rfl, rfl, fun h => by first | rfl | cases h⟩
theorem fg_X8_214 : g_f "ToolHouse" 214 1 3 := ⟨_, _, _, _, kc_1, by decide, _, tw_253, Or.inl rfl⟩
theorem mc_X8_73 {k : mM} (hk : k.1.cls = "ToolHouse") : g_cm k kJx4a65c_add_9ea2d 73 1 := ⟨tw_266, tw_56, by rw [hk]; exact tw_263, by decide +kernel, by decide⟩
theorem mc_Jx4a65c_131 {k : mM} (hk : k.1.cls = "java/util/ArrayList") : g_cm k kJx4a65c_add_72be8 131 3 := ⟨tw_270, tw_56, by rw [hk]; exact tw_267, by decide +kernel, by decide⟩
theorem mc_Jx4a65c_129 {k : mM} (hk : k.1.cls = "java/util/ArrayList") : g_cm k kJx4a65c_grow_d5877 129 0 := ⟨tw_274, tw_56, by rw [hk]; exact tw_271, by decide +kernel, by decide⟩
theorem mc_Jx4a65c_69 {k : mM} (hk : k.1.cls = "java/util/ArrayList") : g_cm k kJx4a65c_grow_92f84 69 1 := ⟨tw_278, tw_56, by rw [hk]; exact tw_275, by decide +kernel, by decide⟩
theorem mc_Jx4a65c_73 {k : mM} (hk : k.1.cls = "java/util/ArrayList") : g_cm k kJ8_newLength_cabcc 73 3 := ⟨tw_281, tw_64, by rw [hk]; exact tw_279, by decide +kernel, by decide⟩
theorem mc_J8_194 {k : mM} (hk : k.1.cls = "jdk/internal/util/ArraysSupport") : g_cm k kJ9_max_7cf53 194 2 := ⟨tw_284, tw_65, by rw [hk]; exact tw_282, by decide +kernel, by decide⟩
theorem mc_J8_201 {k : mM} (hk : k.1.cls = "jdk/internal/util/ArraysSupport") : g_cm k kJ8_hugeLength_7cf53 201 2 := ⟨tw_288, tw_64, by rw [hk]; exact tw_286, by decide +kernel, by decide⟩
theorem mc_Jx4a65c_66 {k : mM} (hk : k.1.cls = "java/util/ArrayList") : g_cm k kJ7_copyOf_1904c 66 2 := ⟨tw_291, tw_60, by rw [hk]; exact tw_289, by decide +kernel, by decide⟩
theorem mc_J7_300 {k : mM} (hk : k.1.cls = "java/util/Arrays") : g_cm k kJ7_copyOf_6403c 300 3 := ⟨tw_310, tw_60, by rw [hk]; exact tw_308, by decide +kernel, by decide⟩
theorem mc_J7_304 {k : mM} (hk : k.1.cls = "java/util/Arrays") : g_cm k kJ9_min_7cf53 304 2 := ⟨tw_316, tw_65, by rw [hk]; exact tw_314, by decide +kernel, by decide⟩
theorem mc_Jx4a65c_79 {k : mM} (hk : k.1.cls = "java/util/ArrayList") : g_cm k kJ9_max_7cf53 79 2 := ⟨tw_284, tw_65, by rw [hk]; exact tw_320, by decide +kernel, by decide⟩
theorem mc_L_24 {k : mM} (hk : k.1.cls = "ToolHouseLaw") : g_cm k kX8_thing 24 1 := ⟨tw_325, tw_53, by rw [hk]; exact tw_322, by decide +kernel, by decide⟩
theorem mc_X8_77 {k : mM} (hk : k.1.cls = "ToolHouse") : g_cm k kX8_kindAt 77 1 := ⟨tw_329, tw_53, by rw [hk]; exact tw_326, by decide +kernel, by decide⟩
theorem mc_X8_158 {k : mM} (hk : k.1.cls = "ToolHouse") : g_cm k kJx4a65c_get_915e3 158 1 := ⟨tw_333, tw_56, by rw [hk]; exact tw_330, by decide +kernel, by decide⟩
theorem mc_Jx4a65c_118 {k : mM} (hk : k.1.cls = "java/util/ArrayList") : g_cm k kJ15_checkIndex_7cf53 118 2 := ⟨tw_336, tw_67, by rw [hk]; exact tw_334, by decide +kernel, by decide⟩
theorem mc_J15_105 {k : mM} (hk : k.1.cls = "java/util/Objects") : g_cm k kJ3_checkIndex_8e157 105 3 := ⟨tw_339, tw_68, by rw [hk]; exact tw_337, by decide +kernel, by decide⟩
theorem mc_Jx4a65c_123 {k : mM} (hk : k.1.cls = "java/util/ArrayList") : g_cm k kJx4a65c_elementData_915e3 123 1 := ⟨tw_343, tw_56, by rw [hk]; exact tw_340, by decide +kernel, by decide⟩
theorem mc_X8_83 {k : mM} (hk : k.1.cls = "ToolHouse") : g_cm k kX7_init 83 2 := ⟨tw_348, tw_69, by rw [hk]; exact tw_346, by decide +kernel, by decide⟩
theorem fg_X7_22 : g_f "ToolHouse$Thing" 22 7 0 := ⟨_, _, _, _, kc_7, by decide, _, tw_350, Or.inl rfl⟩
theorem fp_X7_22 : g_fp "ToolHouse$Thing" 22 7 0 (.int) true := ⟨_, _, _, _, kc_7, by decide, ⟨_, tw_350, Or.inl rfl⟩, rfl, rfl, fun h => by first | rfl | cases h⟩
theorem fg_X5_71 : g_f "ToolHouse$Planner" 71 7 0 := ⟨_, _, _, _, kc_7, by decide, _, tw_351, Or.inl rfl⟩
theorem fg_X8_250 : g_f "ToolHouse" 250 7 0 := ⟨_, _, _, _, kc_7, by decide, _, tw_352, Or.inl rfl⟩
theorem fg_X7_25 : g_f "ToolHouse$Thing" 25 7 1 := ⟨_, _, _, _, kc_7, by decide, _, tw_353, Or.inl rfl⟩
theorem fp_X7_25 : g_fp "ToolHouse$Thing" 25 7 1 (.object "ToolHouse$Kind") true := ⟨_, _, _, _, kc_7, by decide, ⟨_, tw_353, Or.inl rfl⟩, rfl, rfl, fun h => by first | rfl | cases h⟩
theorem fg_X2_28 : g_f "ToolHouse$LawBook" 28 7 1 := ⟨_, _, _, _, kc_7, by decide, _, tw_354, Or.inl rfl⟩
theorem fg_X5_56 : g_f "ToolHouse$Planner" 56 7 1 := ⟨_, _, _, _, kc_7, by decide, _, tw_355, Or.inl rfl⟩
theorem fg_X8_210 : g_f "ToolHouse" 210 7 1 := ⟨_, _, _, _, kc_7, by decide, _, tw_356, Or.inl rfl⟩
theorem fg_X7_9 : g_f "ToolHouse$Thing" 9 7 2 := ⟨_, _, _, _, kc_7, by decide, _, tw_357, Or.inl rfl⟩
theorem fp_X7_9 : g_fp "ToolHouse$Thing" 9 7 2 (.int) false := ⟨_, _, _, _, kc_7, by decide, ⟨_, tw_357, Or.inl rfl⟩, rfl, rfl, fun h => by first | rfl | cases h⟩
theorem fg_X2_43 : g_f "ToolHouse$LawBook" 43 7 2 := ⟨_, _, _, _, kc_7, by decide, _, tw_358, Or.inl rfl⟩
theorem fp_X2_43 : g_fp "ToolHouse$LawBook" 43 7 2 (.int) false := ⟨_, _, _, _, kc_7, by decide, ⟨_, tw_358, Or.inl rfl⟩, rfl, rfl, fun h => by first | rfl | cases h⟩
theorem fg_X8_131 : g_f "ToolHouse" 131 7 2 := ⟨_, _, _, _, kc_7, by decide, _, tw_359, Or.inl rfl⟩
theorem fp_X8_131 : g_fp "ToolHouse" 131 7 2 (.int) false := ⟨_, _, _, _, kc_7, by decide, ⟨_, tw_359, Or.inl rfl⟩, rfl, rfl, fun h => by first | rfl | cases h⟩
theorem fg_X7_15 : g_f "ToolHouse$Thing" 15 7 3 := ⟨_, _, _, _, kc_7, by decide, _, tw_360, Or.inl rfl⟩
theorem fp_X7_15 : g_fp "ToolHouse$Thing" 15 7 3 (.int) false := ⟨_, _, _, _, kc_7, by decide, ⟨_, tw_360, Or.inl rfl⟩, rfl, rfl, fun h => by first | rfl | cases h⟩
theorem fg_X8_221 : g_f "ToolHouse" 221 7 3 := ⟨_, _, _, _, kc_7, by decide, _, tw_361, Or.inl rfl⟩
theorem fp_X8_221 : g_fp "ToolHouse" 221 7 3 (.int) false := ⟨_, _, _, _, kc_7, by decide, ⟨_, tw_361, Or.inl rfl⟩, rfl, rfl, fun h => by first | rfl | cases h⟩
theorem fg_X7_18 : g_f "ToolHouse$Thing" 18 7 4 := ⟨_, _, _, _, kc_7, by decide, _, tw_362, Or.inl rfl⟩
theorem fp_X7_18 : g_fp "ToolHouse$Thing" 18 7 4 (.object "ToolHouse$Ask") false := ⟨_, _, _, _, kc_7, by decide, ⟨_, tw_362, Or.inl rfl⟩, rfl, rfl, fun h => by first | rfl | cases h⟩
theorem fg_X8_127 : g_f "ToolHouse" 127 7 4 := ⟨_, _, _, _, kc_7, by decide, _, tw_363, Or.inl rfl⟩
theorem fp_X8_127 : g_fp "ToolHouse" 127 7 4 (.object "ToolHouse$Ask") false := ⟨_, _, _, _, kc_7, by decide, ⟨_, tw_363, Or.inl rfl⟩, rfl, rfl, fun h => by first | rfl | cases h⟩
theorem mc_L_29 {k : mM} (hk : k.1.cls = "ToolHouseLaw") : g_cm k kX8_member 29 0 := ⟨tw_378, tw_53, by rw [hk]; exact tw_375, by decide +kernel, by decide⟩
theorem mc_X8_88 {k : mM} (hk : k.1.cls = "ToolHouse") : g_cm k kX4_init 88 1 := ⟨tw_383, tw_70, by rw [hk]; exact tw_381, by decide +kernel, by decide⟩
theorem fg_X4_19 : g_f "ToolHouse$Member" 19 4 0 := ⟨_, _, _, _, kc_4, by decide, _, tw_385, Or.inl rfl⟩
theorem fp_X4_19 : g_fp "ToolHouse$Member" 19 4 0 (.int) true := ⟨_, _, _, _, kc_4, by decide, ⟨_, tw_385, Or.inl rfl⟩, rfl, rfl, fun h => by first | rfl | cases h⟩
theorem fg_X8_256 : g_f "ToolHouse" 256 4 0 := ⟨_, _, _, _, kc_4, by decide, _, tw_386, Or.inl rfl⟩
theorem fg_X4_7 : g_f "ToolHouse$Member" 7 4 1 := ⟨_, _, _, _, kc_4, by decide, _, tw_387, Or.inl rfl⟩
theorem fp_X4_7 : g_fp "ToolHouse$Member" 7 4 1 (.int) false := ⟨_, _, _, _, kc_4, by decide, ⟨_, tw_387, Or.inl rfl⟩, rfl, rfl, fun h => by first | rfl | cases h⟩
theorem fg_X8_227 : g_f "ToolHouse" 227 4 1 := ⟨_, _, _, _, kc_4, by decide, _, tw_388, Or.inl rfl⟩
theorem fp_X8_227 : g_fp "ToolHouse" 227 4 1 (.int) false := ⟨_, _, _, _, kc_4, by decide, ⟨_, tw_388, Or.inl rfl⟩, rfl, rfl, fun h => by first | rfl | cases h⟩
theorem fg_X4_13 : g_f "ToolHouse$Member" 13 4 2 := ⟨_, _, _, _, kc_4, by decide, _, tw_389, Or.inl rfl⟩
theorem fp_X4_13 : g_fp "ToolHouse$Member" 13 4 2 (.int) false := ⟨_, _, _, _, kc_4, by decide, ⟨_, tw_389, Or.inl rfl⟩, rfl, rfl, fun h => by first | rfl | cases h⟩
theorem fg_X8_276 : g_f "ToolHouse" 276 4 2 := ⟨_, _, _, _, kc_4, by decide, _, tw_390, Or.inl rfl⟩
theorem fp_X8_276 : g_fp "ToolHouse" 276 4 2 (.int) false := ⟨_, _, _, _, kc_4, by decide, ⟨_, tw_390, Or.inl rfl⟩, rfl, rfl, fun h => by first | rfl | cases h⟩
theorem fg_X4_16 : g_f "ToolHouse$Member" 16 4 3 := ⟨_, _, _, _, kc_4, by decide, _, tw_391, Or.inl rfl⟩
theorem fp_X4_16 : g_fp "ToolHouse$Member" 16 4 3 (.int) false := ⟨_, _, _, _, kc_4, by decide, ⟨_, tw_391, Or.inl rfl⟩, rfl, rfl, fun h => by first | rfl | cases h⟩
theorem fg_X8_195 : g_f "ToolHouse" 195 4 3 := ⟨_, _, _, _, kc_4, by decide, _, tw_392, Or.inl rfl⟩
theorem fp_X8_195 : g_fp "ToolHouse" 195 4 3 (.int) false := ⟨_, _, _, _, kc_4, by decide, ⟨_, tw_392, Or.inl rfl⟩, rfl, rfl, fun h => by first | rfl | cases h⟩
theorem mc_L_34 {k : mM} (hk : k.1.cls = "ToolHouseLaw") : g_cm k kX8_feed 34 5 := ⟨tw_405, tw_53, by rw [hk]; exact tw_402, by decide +kernel, by decide⟩
theorem mc_X8_91 {k : mM} (hk : k.1.cls = "ToolHouse") : g_cm k kX6_hasRoom 91 0 := ⟨tw_409, tw_57, by rw [hk]; exact tw_406, by decide +kernel, by decide⟩
theorem mc_X8_95 {k : mM} (hk : k.1.cls = "ToolHouse") : g_cm k kX6_put 95 1 := ⟨tw_413, tw_57, by rw [hk]; exact tw_410, by decide +kernel, by decide⟩
theorem mc_L_39 {k : mM} (hk : k.1.cls = "ToolHouseLaw") : g_cm k kX8_end 39 1 := ⟨tw_417, tw_53, by rw [hk]; exact tw_414, by decide +kernel, by decide⟩
theorem mc_L_43 {k : mM} (hk : k.1.cls = "ToolHouseLaw") : g_cm k kX8_law 43 0 := ⟨tw_421, tw_53, by rw [hk]; exact tw_418, by decide +kernel, by decide⟩
theorem mc_X8_104 {k : mM} (hk : k.1.cls = "ToolHouse") : g_cm k kX3_read 104 2 := ⟨tw_425, tw_58, by rw [hk]; exact tw_422, by decide +kernel, by decide⟩
theorem mc_X3_28 {k : mM} (hk : k.1.cls = "ToolHouse$LawReader") : g_cm k kJ7_fill_53178 28 2 := ⟨tw_162, tw_60, by rw [hk]; exact tw_426, by decide +kernel, by decide⟩
theorem mc_X3_39 {k : mM} (hk : k.1.cls = "ToolHouse$LawReader") : g_cm k kX6_byteAt 39 1 := ⟨tw_430, tw_57, by rw [hk]; exact tw_427, by decide +kernel, by decide⟩
theorem mc_X3_43 {k : mM} (hk : k.1.cls = "ToolHouse$LawReader") : g_cm k kX3_isBlank 43 1 := ⟨tw_433, tw_58, by rw [hk]; exact tw_431, by decide +kernel, by decide⟩
theorem mc_X3_47 {k : mM} (hk : k.1.cls = "ToolHouse$LawReader") : g_cm k kX3_endOfToken 47 2 := ⟨tw_436, tw_58, by rw [hk]; exact tw_434, by decide +kernel, by decide⟩
theorem mc_X3_81 {k : mM} (hk : k.1.cls = "ToolHouse$LawReader") : g_cm k kX3_isLetter 81 1 := ⟨tw_439, tw_58, by rw [hk]; exact tw_437, by decide +kernel, by decide⟩
theorem mc_X3_84 {k : mM} (hk : k.1.cls = "ToolHouse$LawReader") : g_cm k kX3_isDigit 84 1 := ⟨tw_442, tw_58, by rw [hk]; exact tw_440, by decide +kernel, by decide⟩
theorem mc_X3_51 {k : mM} (hk : k.1.cls = "ToolHouse$LawReader") : g_cm k kX3_take 51 4 := ⟨tw_446, tw_58, by rw [hk]; exact tw_443, by decide +kernel, by decide⟩
theorem mc_X3_65 {k : mM} (hk : k.1.cls = "ToolHouse$LawReader") : g_cm k kX3_numberOf 65 3 := ⟨tw_449, tw_58, by rw [hk]; exact tw_447, by decide +kernel, by decide⟩
theorem mc_X3_69 {k : mM} (hk : k.1.cls = "ToolHouse$LawReader") : g_cm k kX3_isEvery 69 3 := ⟨tw_452, tw_58, by rw [hk]; exact tw_450, by decide +kernel, by decide⟩
theorem mc_X3_89 {k : mM} (hk : k.1.cls = "ToolHouse$LawReader") : g_cm k kJ0_length_8abf5 89 0 := ⟨tw_457, tw_71, by rw [hk]; exact tw_454, by decide +kernel, by decide⟩
theorem mc_J0_335 {k : mM} (hk : k.1.cls = "java/lang/String") : g_cm k kJ0_coder_7d493 335 0 := ⟨tw_461, tw_71, by rw [hk]; exact tw_458, by decide +kernel, by decide⟩
theorem mc_X3_94 {k : mM} (hk : k.1.cls = "ToolHouse$LawReader") : g_cm k kJ0_charAt_5068e 94 1 := ⟨tw_467, tw_71, by rw [hk]; exact tw_464, by decide +kernel, by decide⟩
theorem mc_J0_492 {k : mM} (hk : k.1.cls = "java/lang/String") : g_cm k kJ0_isLatin1_aae02 492 0 := ⟨tw_471, tw_71, by rw [hk]; exact tw_468, by decide +kernel, by decide⟩
theorem mc_J0_495 {k : mM} (hk : k.1.cls = "java/lang/String") : g_cm k kJ1_charAt_3b067 495 2 := ⟨tw_474, tw_72, by rw [hk]; exact tw_472, by decide +kernel, by decide⟩
theorem mc_J1_9 {k : mM} (hk : k.1.cls = "java/lang/StringLatin1") : g_cm k kJ0_checkIndex_df160 9 2 := ⟨tw_477, tw_71, by rw [hk]; exact tw_475, by decide +kernel, by decide⟩
theorem mc_J0_1059 {k : mM} (hk : k.1.cls = "java/lang/String") : g_cm k kJ3_checkIndex_8e157 1059 3 := ⟨tw_339, tw_68, by rw [hk]; exact tw_480, by decide +kernel, by decide⟩
theorem mc_J0_498 {k : mM} (hk : k.1.cls = "java/lang/String") : g_cm k kJ2_charAt_3b067 498 2 := ⟨tw_483, tw_73, by rw [hk]; exact tw_481, by decide +kernel, by decide⟩
theorem mc_J2_67 {k : mM} (hk : k.1.cls = "java/lang/StringUTF16") : g_cm k kJ2_checkIndex_2214a 67 2 := ⟨tw_486, tw_73, by rw [hk]; exact tw_484, by decide +kernel, by decide⟩
theorem mc_J2_48 {k : mM} (hk : k.1.cls = "java/lang/StringUTF16") : g_cm k kJ2_length_9d52b 48 1 := ⟨tw_489, tw_73, by rw [hk]; exact tw_487, by decide +kernel, by decide⟩
theorem mc_J2_414 {k : mM} (hk : k.1.cls = "java/lang/StringUTF16") : g_cm k kJ0_checkIndex_df160 414 2 := ⟨tw_477, tw_71, by rw [hk]; exact tw_490, by decide +kernel, by decide⟩
theorem mc_J2_71 {k : mM} (hk : k.1.cls = "java/lang/StringUTF16") : g_cm k kJ2_getChar_3b067 71 2 := ⟨tw_493, tw_73, by rw [hk]; exact tw_491, by decide +kernel, by decide⟩
theorem mc_X3_73 {k : mM} (hk : k.1.cls = "ToolHouse$LawReader") : g_cm k kX3_takeKind 73 3 := ⟨tw_503, tw_58, by rw [hk]; exact tw_500, by decide +kernel, by decide⟩
theorem mc_X3_61 {k : mM} (hk : k.1.cls = "ToolHouse$LawReader") : g_cm k kX3_blame 61 2 := ⟨tw_507, tw_58, by rw [hk]; exact tw_504, by decide +kernel, by decide⟩
theorem mc_X3_77 {k : mM} (hk : k.1.cls = "ToolHouse$LawReader") : g_cm k kX3_takeDays 77 1 := ⟨tw_511, tw_58, by rw [hk]; exact tw_508, by decide +kernel, by decide⟩
theorem mc_X3_55 {k : mM} (hk : k.1.cls = "ToolHouse$LawReader") : g_cm k kJ9_max_7cf53 55 2 := ⟨tw_284, tw_65, by rw [hk]; exact tw_512, by decide +kernel, by decide⟩
theorem mc_X8_119 {k : mM} (hk : k.1.cls = "ToolHouse") : g_cm k kX2_tell 119 1 := ⟨tw_516, tw_59, by rw [hk]; exact tw_513, by decide +kernel, by decide⟩
theorem mc_L_47 {k : mM} (hk : k.1.cls = "ToolHouseLaw") : g_cm k kX8_place 47 0 := ⟨tw_521, tw_53, by rw [hk]; exact tw_518, by decide +kernel, by decide⟩
theorem mc_L_51 {k : mM} (hk : k.1.cls = "ToolHouseLaw") : g_cm k kX8_look 51 1 := ⟨tw_525, tw_53, by rw [hk]; exact tw_522, by decide +kernel, by decide⟩
theorem mc_X8_123 {k : mM} (hk : k.1.cls = "ToolHouse") : g_cm k kX8_thingAt 123 1 := ⟨tw_529, tw_53, by rw [hk]; exact tw_526, by decide +kernel, by decide⟩
theorem mc_L_56 {k : mM} (hk : k.1.cls = "ToolHouseLaw") : g_cm k kX8_lawful 56 2 := ⟨tw_533, tw_53, by rw [hk]; exact tw_530, by decide +kernel, by decide⟩
theorem mc_X8_134 {k : mM} (hk : k.1.cls = "ToolHouse") : g_cm k kX2_lets 134 2 := ⟨tw_537, tw_59, by rw [hk]; exact tw_534, by decide +kernel, by decide⟩
theorem mc_X2_39 {k : mM} (hk : k.1.cls = "ToolHouse$LawBook") : g_cm k kX2_daysWanted 39 1 := ⟨tw_541, tw_59, by rw [hk]; exact tw_538, by decide +kernel, by decide⟩
theorem mc_L_60 {k : mM} (hk : k.1.cls = "ToolHouseLaw") : g_cm k kX8_ask 60 6 := ⟨tw_545, tw_53, by rw [hk]; exact tw_542, by decide +kernel, by decide⟩
theorem mc_X8_138 {k : mM} (hk : k.1.cls = "ToolHouse") : g_cm k kX8_memberAt 138 1 := ⟨tw_549, tw_53, by rw [hk]; exact tw_546, by decide +kernel, by decide⟩
theorem mc_X8_142 {k : mM} (hk : k.1.cls = "ToolHouse") : g_cm k kX8_canBeAsked 142 2 := ⟨tw_553, tw_53, by rw [hk]; exact tw_550, by decide +kernel, by decide⟩
theorem mc_X8_146 {k : mM} (hk : k.1.cls = "ToolHouse") : g_cm k kX8_howManyAre 146 1 := ⟨tw_557, tw_53, by rw [hk]; exact tw_554, by decide +kernel, by decide⟩
theorem mc_X8_152 {k : mM} (hk : k.1.cls = "ToolHouse") : g_cm k kX0_init 152 7 := ⟨tw_562, tw_74, by rw [hk]; exact tw_560, by decide +kernel, by decide⟩
theorem fg_X0_25 : g_f "ToolHouse$Ask" 25 0 0 := ⟨_, _, _, _, kc_0, by decide, _, tw_564, Or.inl rfl⟩
theorem fp_X0_25 : g_fp "ToolHouse$Ask" 25 0 0 (.int) true := ⟨_, _, _, _, kc_0, by decide, ⟨_, tw_564, Or.inl rfl⟩, rfl, rfl, fun h => by first | rfl | cases h⟩
theorem fg_X8_264 : g_f "ToolHouse" 264 0 0 := ⟨_, _, _, _, kc_0, by decide, _, tw_565, Or.inl rfl⟩
theorem fg_X0_28 : g_f "ToolHouse$Ask" 28 0 1 := ⟨_, _, _, _, kc_0, by decide, _, tw_566, Or.inl rfl⟩
theorem fp_X0_28 : g_fp "ToolHouse$Ask" 28 0 1 (.object "ToolHouse$Member") true := ⟨_, _, _, _, kc_0, by decide, ⟨_, tw_566, Or.inl rfl⟩, rfl, rfl, fun h => by first | rfl | cases h⟩
theorem fg_X8_191 : g_f "ToolHouse" 191 0 1 := ⟨_, _, _, _, kc_0, by decide, _, tw_567, Or.inl rfl⟩
theorem fg_X0_32 : g_f "ToolHouse$Ask" 32 0 2 := ⟨_, _, _, _, kc_0, by decide, _, tw_568, Or.inl rfl⟩
theorem fp_X0_32 : g_fp "ToolHouse$Ask" 32 0 2 (.object "ToolHouse$Kind") true := ⟨_, _, _, _, kc_0, by decide, ⟨_, tw_568, Or.inl rfl⟩, rfl, rfl, fun h => by first | rfl | cases h⟩
theorem fg_X1_22 : g_f "ToolHouse$Kind" 22 0 2 := ⟨_, _, _, _, kc_0, by decide, _, tw_569, Or.inl rfl⟩
theorem fg_X5_80 : g_f "ToolHouse$Planner" 80 0 2 := ⟨_, _, _, _, kc_0, by decide, _, tw_570, Or.inl rfl⟩
theorem fg_X8_257 : g_f "ToolHouse" 257 0 2 := ⟨_, _, _, _, kc_0, by decide, _, tw_571, Or.inl rfl⟩
theorem fg_X0_36 : g_f "ToolHouse$Ask" 36 0 3 := ⟨_, _, _, _, kc_0, by decide, _, tw_572, Or.inl rfl⟩
theorem fp_X0_36 : g_fp "ToolHouse$Ask" 36 0 3 (.int) true := ⟨_, _, _, _, kc_0, by decide, ⟨_, tw_572, Or.inl rfl⟩, rfl, rfl, fun h => by first | rfl | cases h⟩
theorem fg_X1_28 : g_f "ToolHouse$Kind" 28 0 3 := ⟨_, _, _, _, kc_0, by decide, _, tw_573, Or.inl rfl⟩
theorem fg_X0_39 : g_f "ToolHouse$Ask" 39 0 4 := ⟨_, _, _, _, kc_0, by decide, _, tw_574, Or.inl rfl⟩
theorem fp_X0_39 : g_fp "ToolHouse$Ask" 39 0 4 (.int) true := ⟨_, _, _, _, kc_0, by decide, ⟨_, tw_574, Or.inl rfl⟩, rfl, rfl, fun h => by first | rfl | cases h⟩
theorem fg_X5_82 : g_f "ToolHouse$Planner" 82 0 4 := ⟨_, _, _, _, kc_0, by decide, _, tw_575, Or.inl rfl⟩
theorem fg_X8_207 : g_f "ToolHouse" 207 0 4 := ⟨_, _, _, _, kc_0, by decide, _, tw_576, Or.inl rfl⟩
theorem fg_X0_42 : g_f "ToolHouse$Ask" 42 0 5 := ⟨_, _, _, _, kc_0, by decide, _, tw_577, Or.inl rfl⟩
theorem fp_X0_42 : g_fp "ToolHouse$Ask" 42 0 5 (.int) true := ⟨_, _, _, _, kc_0, by decide, ⟨_, tw_577, Or.inl rfl⟩, rfl, rfl, fun h => by first | rfl | cases h⟩
theorem fg_X7_29 : g_f "ToolHouse$Thing" 29 0 5 := ⟨_, _, _, _, kc_0, by decide, _, tw_578, Or.inl rfl⟩
theorem fg_X5_85 : g_f "ToolHouse$Planner" 85 0 5 := ⟨_, _, _, _, kc_0, by decide, _, tw_579, Or.inl rfl⟩
theorem fg_X8_198 : g_f "ToolHouse" 198 0 5 := ⟨_, _, _, _, kc_0, by decide, _, tw_580, Or.inl rfl⟩
theorem fg_X0_45 : g_f "ToolHouse$Ask" 45 0 6 := ⟨_, _, _, _, kc_0, by decide, _, tw_581, Or.inl rfl⟩
theorem fp_X0_45 : g_fp "ToolHouse$Ask" 45 0 6 (.int) true := ⟨_, _, _, _, kc_0, by decide, ⟨_, tw_581, Or.inl rfl⟩, rfl, rfl, fun h => by first | rfl | cases h⟩
theorem fg_X5_74 : g_f "ToolHouse$Planner" 74 0 6 := ⟨_, _, _, _, kc_0, by decide, _, tw_582, Or.inl rfl⟩
theorem fg_X8_259 : g_f "ToolHouse" 259 0 6 := ⟨_, _, _, _, kc_0, by decide, _, tw_583, Or.inl rfl⟩
theorem fg_X0_9 : g_f "ToolHouse$Ask" 9 0 7 := ⟨_, _, _, _, kc_0, by decide, _, tw_584, Or.inl rfl⟩
theorem fp_X0_9 : g_fp "ToolHouse$Ask" 9 0 7 (.int) false := ⟨_, _, _, _, kc_0, by decide, ⟨_, tw_584, Or.inl rfl⟩, rfl, rfl, fun h => by first | rfl | cases h⟩
theorem fg_X8_162 : g_f "ToolHouse" 162 0 7 := ⟨_, _, _, _, kc_0, by decide, _, tw_585, Or.inl rfl⟩
theorem fp_X8_162 : g_fp "ToolHouse" 162 0 7 (.int) false := ⟨_, _, _, _, kc_0, by decide, ⟨_, tw_585, Or.inl rfl⟩, rfl, rfl, fun h => by first | rfl | cases h⟩
theorem fg_X0_15 : g_f "ToolHouse$Ask" 15 0 8 := ⟨_, _, _, _, kc_0, by decide, _, tw_586, Or.inl rfl⟩
theorem fp_X0_15 : g_fp "ToolHouse$Ask" 15 0 8 (.object "ToolHouse$Thing") false := ⟨_, _, _, _, kc_0, by decide, ⟨_, tw_586, Or.inl rfl⟩, rfl, rfl, fun h => by first | rfl | cases h⟩
theorem fg_X8_183 : g_f "ToolHouse" 183 0 8 := ⟨_, _, _, _, kc_0, by decide, _, tw_587, Or.inl rfl⟩
theorem fp_X8_183 : g_fp "ToolHouse" 183 0 8 (.object "ToolHouse$Thing") false := ⟨_, _, _, _, kc_0, by decide, ⟨_, tw_587, Or.inl rfl⟩, rfl, rfl, fun h => by first | rfl | cases h⟩
theorem fg_X0_19 : g_f "ToolHouse$Ask" 19 0 9 := ⟨_, _, _, _, kc_0, by decide, _, tw_588, Or.inl rfl⟩
theorem fp_X0_19 : g_fp "ToolHouse$Ask" 19 0 9 (.int) false := ⟨_, _, _, _, kc_0, by decide, ⟨_, tw_588, Or.inl rfl⟩, rfl, rfl, fun h => by first | rfl | cases h⟩
theorem fg_X8_253 : g_f "ToolHouse" 253 0 9 := ⟨_, _, _, _, kc_0, by decide, _, tw_589, Or.inl rfl⟩
theorem fp_X8_253 : g_fp "ToolHouse" 253 0 9 (.int) false := ⟨_, _, _, _, kc_0, by decide, ⟨_, tw_589, Or.inl rfl⟩, rfl, rfl, fun h => by first | rfl | cases h⟩
theorem fg_X0_22 : g_f "ToolHouse$Ask" 22 0 10 := ⟨_, _, _, _, kc_0, by decide, _, tw_590, Or.inl rfl⟩
theorem fp_X0_22 : g_fp "ToolHouse$Ask" 22 0 10 (.int) false := ⟨_, _, _, _, kc_0, by decide, ⟨_, tw_590, Or.inl rfl⟩, rfl, rfl, fun h => by first | rfl | cases h⟩
theorem fg_X8_224 : g_f "ToolHouse" 224 0 10 := ⟨_, _, _, _, kc_0, by decide, _, tw_591, Or.inl rfl⟩
theorem fp_X8_224 : g_fp "ToolHouse" 224 0 10 (.int) false := ⟨_, _, _, _, kc_0, by decide, ⟨_, tw_591, Or.inl rfl⟩, rfl, rfl, fun h => by first | rfl | cases h⟩
theorem mc_L_65 {k : mM} (hk : k.1.cls = "ToolHouseLaw") : g_cm k kX8_plan 65 0 := ⟨tw_618, tw_53, by rw [hk]; exact tw_615, by decide +kernel, by decide⟩
theorem mc_X8_155 {k : mM} (hk : k.1.cls = "ToolHouse") : g_cm k kX5_begin 155 0 := ⟨tw_622, tw_61, by rw [hk]; exact tw_619, by decide +kernel, by decide⟩
theorem mc_X5_28 {k : mM} (hk : k.1.cls = "ToolHouse$Planner") : g_cm k kJ7_fill_53178 28 2 := ⟨tw_162, tw_60, by rw [hk]; exact tw_623, by decide +kernel, by decide⟩
theorem mc_X8_165 {k : mM} (hk : k.1.cls = "ToolHouse") : g_cm k kX5_add 165 1 := ⟨tw_627, tw_61, by rw [hk]; exact tw_624, by decide +kernel, by decide⟩
theorem mc_X8_168 {k : mM} (hk : k.1.cls = "ToolHouse") : g_cm k kX8_rowThatMayHave 168 1 := ⟨tw_631, tw_53, by rw [hk]; exact tw_628, by decide +kernel, by decide⟩
theorem mc_X8_296 {k : mM} (hk : k.1.cls = "ToolHouse") : g_cm k kX5_askAtRow 296 1 := ⟨tw_635, tw_61, by rw [hk]; exact tw_632, by decide +kernel, by decide⟩
theorem mc_X8_236 {k : mM} (hk : k.1.cls = "ToolHouse") : g_cm k kX1_fits 236 1 := ⟨tw_639, tw_63, by rw [hk]; exact tw_636, by decide +kernel, by decide⟩
theorem mc_X8_299 {k : mM} (hk : k.1.cls = "ToolHouse") : g_cm k kX8_isFreeFor 299 2 := ⟨tw_643, tw_53, by rw [hk]; exact tw_640, by decide +kernel, by decide⟩
theorem mc_X8_272 {k : mM} (hk : k.1.cls = "ToolHouse") : g_cm k kX8_isFreeBut 272 4 := ⟨tw_647, tw_53, by rw [hk]; exact tw_644, by decide +kernel, by decide⟩
theorem mc_X8_286 {k : mM} (hk : k.1.cls = "ToolHouse") : g_cm k kX0_holds 286 1 := ⟨tw_651, tw_74, by rw [hk]; exact tw_648, by decide +kernel, by decide⟩
theorem mc_X8_289 {k : mM} (hk : k.1.cls = "ToolHouse") : g_cm k kX0_lastDay 289 1 := ⟨tw_655, tw_74, by rw [hk]; exact tw_652, by decide +kernel, by decide⟩
theorem mc_X0_48 {k : mM} (hk : k.1.cls = "ToolHouse$Ask") : g_cm k kJ9_max_7cf53 48 2 := ⟨tw_284, tw_65, by rw [hk]; exact tw_656, by decide +kernel, by decide⟩
theorem mc_X8_292 {k : mM} (hk : k.1.cls = "ToolHouse") : g_cm k kX8_areNear 292 5 := ⟨tw_659, tw_53, by rw [hk]; exact tw_657, by decide +kernel, by decide⟩
theorem mc_X8_172 {k : mM} (hk : k.1.cls = "ToolHouse") : g_cm k kX5_offer 172 2 := ⟨tw_663, tw_61, by rw [hk]; exact tw_660, by decide +kernel, by decide⟩
theorem mc_X5_34 {k : mM} (hk : k.1.cls = "ToolHouse$Planner") : g_cm k kX5_weigh 34 2 := ⟨tw_667, tw_61, by rw [hk]; exact tw_664, by decide +kernel, by decide⟩
theorem mc_X5_48 {k : mM} (hk : k.1.cls = "ToolHouse$Planner") : g_cm k kX5_askAtRow 48 1 := ⟨tw_635, tw_61, by rw [hk]; exact tw_668, by decide +kernel, by decide⟩
theorem mc_X5_52 {k : mM} (hk : k.1.cls = "ToolHouse$Planner") : g_cm k kX5_worthOf 52 3 := ⟨tw_671, tw_61, by rw [hk]; exact tw_669, by decide +kernel, by decide⟩
theorem mc_X5_67 {k : mM} (hk : k.1.cls = "ToolHouse$Planner") : g_cm k kX5_nearTo 67 3 := ⟨tw_679, tw_61, by rw [hk]; exact tw_676, by decide +kernel, by decide⟩
theorem mc_X5_88 {k : mM} (hk : k.1.cls = "ToolHouse$Planner") : g_cn k kX8_areNear 88 5 "ToolHouse" := ⟨tw_659, tw_53, by rw [hk]; exact tw_680, by decide +kernel, by decide⟩
theorem mc_X5_38 {k : mM} (hk : k.1.cls = "ToolHouse$Planner") : g_cm k kX5_wholeRow 38 0 := ⟨tw_684, tw_61, by rw [hk]; exact tw_681, by decide +kernel, by decide⟩
theorem mc_X5_42 {k : mM} (hk : k.1.cls = "ToolHouse$Planner") : g_cm k kJ9_max_7cf53 42 2 := ⟨tw_284, tw_65, by rw [hk]; exact tw_685, by decide +kernel, by decide⟩
theorem mc_X8_176 {k : mM} (hk : k.1.cls = "ToolHouse") : g_cm k kX8_carryOutPlan 176 0 := ⟨tw_689, tw_53, by rw [hk]; exact tw_686, by decide +kernel, by decide⟩
theorem mc_X8_303 {k : mM} (hk : k.1.cls = "ToolHouse") : g_cm k kX5_thingAtRow 303 1 := ⟨tw_693, tw_61, by rw [hk]; exact tw_690, by decide +kernel, by decide⟩
theorem mc_X8_306 {k : mM} (hk : k.1.cls = "ToolHouse") : g_cm k kX8_refuse 306 1 := ⟨tw_697, tw_53, by rw [hk]; exact tw_694, by decide +kernel, by decide⟩
theorem mc_X8_309 {k : mM} (hk : k.1.cls = "ToolHouse") : g_cm k kJx4a65c_add_7a177 309 2 := ⟨tw_701, tw_56, by rw [hk]; exact tw_698, by decide +kernel, by decide⟩
theorem mc_Jx4a65c_135 {k : mM} (hk : k.1.cls = "java/util/ArrayList") : g_cm k kJx4a65c_rangeCheckForAdd_d00df 135 1 := ⟨tw_705, tw_56, by rw [hk]; exact tw_702, by decide +kernel, by decide⟩
theorem mc_L_69 {k : mM} (hk : k.1.cls = "ToolHouseLaw") : g_cm k kX8_off 69 1 := ⟨tw_710, tw_53, by rw [hk]; exact tw_707, by decide +kernel, by decide⟩
theorem mc_X8_179 {k : mM} (hk : k.1.cls = "ToolHouse") : g_cm k kX8_askAt 179 1 := ⟨tw_714, tw_53, by rw [hk]; exact tw_711, by decide +kernel, by decide⟩
theorem mc_L_73 {k : mM} (hk : k.1.cls = "ToolHouseLaw") : g_cm k kX8_out 73 1 := ⟨tw_718, tw_53, by rw [hk]; exact tw_715, by decide +kernel, by decide⟩
theorem mc_X8_187 {k : mM} (hk : k.1.cls = "ToolHouse") : g_cm k kX8_hindranceOf 187 2 := ⟨tw_722, tw_53, by rw [hk]; exact tw_719, by decide +kernel, by decide⟩
theorem mc_X8_312 {k : mM} (hk : k.1.cls = "ToolHouse") : g_cm k kX7_isCaredFor 312 1 := ⟨tw_726, tw_69, by rw [hk]; exact tw_723, by decide +kernel, by decide⟩
theorem mc_L_77 {k : mM} (hk : k.1.cls = "ToolHouseLaw") : g_cm k kX8_back 77 1 := ⟨tw_730, tw_53, by rw [hk]; exact tw_727, by decide +kernel, by decide⟩
theorem mc_X8_201 {k : mM} (hk : k.1.cls = "ToolHouse") : g_cm k kJ9_max_7cf53 201 2 := ⟨tw_284, tw_65, by rw [hk]; exact tw_731, by decide +kernel, by decide⟩
theorem mc_X8_217 {k : mM} (hk : k.1.cls = "ToolHouse") : g_cm k kX4_owe 217 2 := ⟨tw_735, tw_70, by rw [hk]; exact tw_732, by decide +kernel, by decide⟩
theorem mc_L_81 {k : mM} (hk : k.1.cls = "ToolHouseLaw") : g_cm k kX8_work 81 2 := ⟨tw_739, tw_53, by rw [hk]; exact tw_736, by decide +kernel, by decide⟩
theorem mc_L_85 {k : mM} (hk : k.1.cls = "ToolHouseLaw") : g_cm k kX8_days 85 1 := ⟨tw_743, tw_53, by rw [hk]; exact tw_740, by decide +kernel, by decide⟩
theorem mc_X8_230 {k : mM} (hk : k.1.cls = "ToolHouse") : g_cm k kX8_loseWhatIsOver 230 0 := ⟨tw_747, tw_53, by rw [hk]; exact tw_744, by decide +kernel, by decide⟩
theorem mc_X8_233 {k : mM} (hk : k.1.cls = "ToolHouse") : g_cm k kX8_moveFromLateThings 233 0 := ⟨tw_751, tw_53, by rw [hk]; exact tw_748, by decide +kernel, by decide⟩
theorem mc_X8_315 {k : mM} (hk : k.1.cls = "ToolHouse") : g_cm k kX8_nextToMove 315 0 := ⟨tw_755, tw_53, by rw [hk]; exact tw_752, by decide +kernel, by decide⟩
theorem mc_X8_323 {k : mM} (hk : k.1.cls = "ToolHouse") : g_cm k kX8_mustMove 323 1 := ⟨tw_759, tw_53, by rw [hk]; exact tw_756, by decide +kernel, by decide⟩
theorem mc_X8_265 {k : mM} (hk : k.1.cls = "ToolHouse") : g_cm k kX7_isLate 265 1 := ⟨tw_763, tw_69, by rw [hk]; exact tw_760, by decide +kernel, by decide⟩
theorem mc_X8_326 {k : mM} (hk : k.1.cls = "ToolHouse") : g_cm k kX0_movesAheadOf 326 1 := ⟨tw_767, tw_74, by rw [hk]; exact tw_764, by decide +kernel, by decide⟩
theorem mc_X8_319 {k : mM} (hk : k.1.cls = "ToolHouse") : g_cm k kX8_firstOtherThingFor 319 1 := ⟨tw_771, tw_53, by rw [hk]; exact tw_768, by decide +kernel, by decide⟩
theorem mc_L_89 {k : mM} (hk : k.1.cls = "ToolHouseLaw") : g_cm k kX8_buy 89 1 := ⟨tw_775, tw_53, by rw [hk]; exact tw_772, by decide +kernel, by decide⟩
theorem mc_L_102 {k : mM} (hk : k.1.cls = "ToolHouseLaw") : g_cm k kX8_thingOf 102 2 := ⟨tw_779, tw_53, by rw [hk]; exact tw_776, by decide +kernel, by decide⟩
theorem mc_X8_269 {k : mM} (hk : k.1.cls = "ToolHouse") : g_cm k kX8_howManyAreBookedOn 269 1 := ⟨tw_783, tw_53, by rw [hk]; exact tw_780, by decide +kernel, by decide⟩
theorem mc_X8_282 {k : mM} (hk : k.1.cls = "ToolHouse") : g_cm k kX0_isBookedOn 282 1 := ⟨tw_787, tw_74, by rw [hk]; exact tw_784, by decide +kernel, by decide⟩
theorem mc_L_106 {k : mM} (hk : k.1.cls = "ToolHouseLaw") : g_cm k kX8_isFree 106 3 := ⟨tw_791, tw_53, by rw [hk]; exact tw_788, by decide +kernel, by decide⟩
theorem mc_L_110 {k : mM} (hk : k.1.cls = "ToolHouseLaw") : g_cm k kX8_memberOf 110 2 := ⟨tw_795, tw_53, by rw [hk]; exact tw_792, by decide +kernel, by decide⟩
theorem mc_L_114 {k : mM} (hk : k.1.cls = "ToolHouseLaw") : g_cm k kX8_count 114 1 := ⟨tw_799, tw_53, by rw [hk]; exact tw_796, by decide +kernel, by decide⟩
theorem mc_X8_279 {k : mM} (hk : k.1.cls = "ToolHouse") : g_cm k kX2_daysWanted 279 1 := ⟨tw_541, tw_59, by rw [hk]; exact tw_800, by decide +kernel, by decide⟩
theorem mc_L_7 {k : mM} (hk : k.1.cls = "ToolHouseLaw") : g_cm k kX8_of 7 2 := ⟨tw_808, tw_53, by rw [hk]; exact tw_805, by decide +kernel, by decide⟩
theorem mc_L_18 {k : mM} (hk : k.1.cls = "ToolHouseLaw") : g_cm k kX9_init 18 0 := ⟨tw_879, tw_62, by rw [hk]; exact tw_877, by decide +kernel, by decide⟩
theorem fg_X9_97 : g_f "ToolHouseModel" 97 9 0 := ⟨_, _, _, _, kc_9, by decide, _, tw_881, Or.inl rfl⟩
theorem fp_X9_97 : g_fp "ToolHouseModel" 97 9 0 (.int) false := ⟨_, _, _, _, kc_9, by decide, ⟨_, tw_881, Or.inl rfl⟩, rfl, rfl, fun h => by first | rfl | cases h⟩
theorem fg_X9_104 : g_f "ToolHouseModel" 104 9 1 := ⟨_, _, _, _, kc_9, by decide, _, tw_882, Or.inl rfl⟩
theorem fp_X9_104 : g_fp "ToolHouseModel" 104 9 1 (.int) false := ⟨_, _, _, _, kc_9, by decide, ⟨_, tw_882, Or.inl rfl⟩, rfl, rfl, fun h => by first | rfl | cases h⟩
theorem fg_X9_7 : g_f "ToolHouseModel" 7 9 2 := ⟨_, _, _, _, kc_9, by decide, _, tw_883, Or.inl rfl⟩
theorem fp_X9_7 : g_fp "ToolHouseModel" 7 9 2 (.array .int) true := ⟨_, _, _, _, kc_9, by decide, ⟨_, tw_883, Or.inl rfl⟩, rfl, rfl, fun h => by first | rfl | cases h⟩
theorem fg_X9_13 : g_f "ToolHouseModel" 13 9 3 := ⟨_, _, _, _, kc_9, by decide, _, tw_884, Or.inl rfl⟩
theorem fp_X9_13 : g_fp "ToolHouseModel" 13 9 3 (.array .int) true := ⟨_, _, _, _, kc_9, by decide, ⟨_, tw_884, Or.inl rfl⟩, rfl, rfl, fun h => by first | rfl | cases h⟩
theorem fg_X9_16 : g_f "ToolHouseModel" 16 9 4 := ⟨_, _, _, _, kc_9, by decide, _, tw_885, Or.inl rfl⟩
theorem fp_X9_16 : g_fp "ToolHouseModel" 16 9 4 (.array .int) true := ⟨_, _, _, _, kc_9, by decide, ⟨_, tw_885, Or.inl rfl⟩, rfl, rfl, fun h => by first | rfl | cases h⟩
theorem fg_X9_107 : g_f "ToolHouseModel" 107 9 5 := ⟨_, _, _, _, kc_9, by decide, _, tw_886, Or.inl rfl⟩
theorem fp_X9_107 : g_fp "ToolHouseModel" 107 9 5 (.int) false := ⟨_, _, _, _, kc_9, by decide, ⟨_, tw_886, Or.inl rfl⟩, rfl, rfl, fun h => by first | rfl | cases h⟩
theorem fg_X9_19 : g_f "ToolHouseModel" 19 9 6 := ⟨_, _, _, _, kc_9, by decide, _, tw_887, Or.inl rfl⟩
theorem fp_X9_19 : g_fp "ToolHouseModel" 19 9 6 (.array .int) true := ⟨_, _, _, _, kc_9, by decide, ⟨_, tw_887, Or.inl rfl⟩, rfl, rfl, fun h => by first | rfl | cases h⟩
theorem fg_X9_22 : g_f "ToolHouseModel" 22 9 7 := ⟨_, _, _, _, kc_9, by decide, _, tw_888, Or.inl rfl⟩
theorem fp_X9_22 : g_fp "ToolHouseModel" 22 9 7 (.array .int) true := ⟨_, _, _, _, kc_9, by decide, ⟨_, tw_888, Or.inl rfl⟩, rfl, rfl, fun h => by first | rfl | cases h⟩
theorem fg_X9_110 : g_f "ToolHouseModel" 110 9 8 := ⟨_, _, _, _, kc_9, by decide, _, tw_889, Or.inl rfl⟩
theorem fp_X9_110 : g_fp "ToolHouseModel" 110 9 8 (.int) false := ⟨_, _, _, _, kc_9, by decide, ⟨_, tw_889, Or.inl rfl⟩, rfl, rfl, fun h => by first | rfl | cases h⟩
theorem fg_X9_25 : g_f "ToolHouseModel" 25 9 9 := ⟨_, _, _, _, kc_9, by decide, _, tw_890, Or.inl rfl⟩
theorem fp_X9_25 : g_fp "ToolHouseModel" 25 9 9 (.array .int) true := ⟨_, _, _, _, kc_9, by decide, ⟨_, tw_890, Or.inl rfl⟩, rfl, rfl, fun h => by first | rfl | cases h⟩
theorem fg_X9_28 : g_f "ToolHouseModel" 28 9 10 := ⟨_, _, _, _, kc_9, by decide, _, tw_891, Or.inl rfl⟩
theorem fp_X9_28 : g_fp "ToolHouseModel" 28 9 10 (.array .int) true := ⟨_, _, _, _, kc_9, by decide, ⟨_, tw_891, Or.inl rfl⟩, rfl, rfl, fun h => by first | rfl | cases h⟩
theorem fg_X9_164 : g_f "ToolHouseModel" 164 9 11 := ⟨_, _, _, _, kc_9, by decide, _, tw_892, Or.inl rfl⟩
theorem fp_X9_164 : g_fp "ToolHouseModel" 164 9 11 (.int) false := ⟨_, _, _, _, kc_9, by decide, ⟨_, tw_892, Or.inl rfl⟩, rfl, rfl, fun h => by first | rfl | cases h⟩
theorem fg_X9_31 : g_f "ToolHouseModel" 31 9 12 := ⟨_, _, _, _, kc_9, by decide, _, tw_893, Or.inl rfl⟩
theorem fp_X9_31 : g_fp "ToolHouseModel" 31 9 12 (.array .byte) true := ⟨_, _, _, _, kc_9, by decide, ⟨_, tw_893, Or.inl rfl⟩, rfl, rfl, fun h => by first | rfl | cases h⟩
theorem fg_X9_117 : g_f "ToolHouseModel" 117 9 13 := ⟨_, _, _, _, kc_9, by decide, _, tw_894, Or.inl rfl⟩
theorem fp_X9_117 : g_fp "ToolHouseModel" 117 9 13 (.int) false := ⟨_, _, _, _, kc_9, by decide, ⟨_, tw_894, Or.inl rfl⟩, rfl, rfl, fun h => by first | rfl | cases h⟩
theorem fg_X9_149 : g_f "ToolHouseModel" 149 9 14 := ⟨_, _, _, _, kc_9, by decide, _, tw_895, Or.inl rfl⟩
theorem fp_X9_149 : g_fp "ToolHouseModel" 149 9 14 (.int) false := ⟨_, _, _, _, kc_9, by decide, ⟨_, tw_895, Or.inl rfl⟩, rfl, rfl, fun h => by first | rfl | cases h⟩
theorem fg_X9_35 : g_f "ToolHouseModel" 35 9 15 := ⟨_, _, _, _, kc_9, by decide, _, tw_896, Or.inl rfl⟩
theorem fp_X9_35 : g_fp "ToolHouseModel" 35 9 15 (.array .int) true := ⟨_, _, _, _, kc_9, by decide, ⟨_, tw_896, Or.inl rfl⟩, rfl, rfl, fun h => by first | rfl | cases h⟩
theorem fg_X9_38 : g_f "ToolHouseModel" 38 9 16 := ⟨_, _, _, _, kc_9, by decide, _, tw_897, Or.inl rfl⟩
theorem fp_X9_38 : g_fp "ToolHouseModel" 38 9 16 (.array .int) true := ⟨_, _, _, _, kc_9, by decide, ⟨_, tw_897, Or.inl rfl⟩, rfl, rfl, fun h => by first | rfl | cases h⟩
theorem fg_X9_136 : g_f "ToolHouseModel" 136 9 17 := ⟨_, _, _, _, kc_9, by decide, _, tw_898, Or.inl rfl⟩
theorem fp_X9_136 : g_fp "ToolHouseModel" 136 9 17 (.int) false := ⟨_, _, _, _, kc_9, by decide, ⟨_, tw_898, Or.inl rfl⟩, rfl, rfl, fun h => by first | rfl | cases h⟩
theorem fg_X9_41 : g_f "ToolHouseModel" 41 9 18 := ⟨_, _, _, _, kc_9, by decide, _, tw_899, Or.inl rfl⟩
theorem fp_X9_41 : g_fp "ToolHouseModel" 41 9 18 (.int) false := ⟨_, _, _, _, kc_9, by decide, ⟨_, tw_899, Or.inl rfl⟩, rfl, rfl, fun h => by first | rfl | cases h⟩
theorem fg_X9_123 : g_f "ToolHouseModel" 123 9 19 := ⟨_, _, _, _, kc_9, by decide, _, tw_900, Or.inl rfl⟩
theorem fp_X9_123 : g_fp "ToolHouseModel" 123 9 19 (.int) false := ⟨_, _, _, _, kc_9, by decide, ⟨_, tw_900, Or.inl rfl⟩, rfl, rfl, fun h => by first | rfl | cases h⟩
theorem fg_X9_120 : g_f "ToolHouseModel" 120 9 20 := ⟨_, _, _, _, kc_9, by decide, _, tw_901, Or.inl rfl⟩
theorem fp_X9_120 : g_fp "ToolHouseModel" 120 9 20 (.int) false := ⟨_, _, _, _, kc_9, by decide, ⟨_, tw_901, Or.inl rfl⟩, rfl, rfl, fun h => by first | rfl | cases h⟩
theorem fg_X9_133 : g_f "ToolHouseModel" 133 9 21 := ⟨_, _, _, _, kc_9, by decide, _, tw_902, Or.inl rfl⟩
theorem fp_X9_133 : g_fp "ToolHouseModel" 133 9 21 (.int) false := ⟨_, _, _, _, kc_9, by decide, ⟨_, tw_902, Or.inl rfl⟩, rfl, rfl, fun h => by first | rfl | cases h⟩
theorem fg_X9_130 : g_f "ToolHouseModel" 130 9 22 := ⟨_, _, _, _, kc_9, by decide, _, tw_903, Or.inl rfl⟩
theorem fp_X9_130 : g_fp "ToolHouseModel" 130 9 22 (.int) false := ⟨_, _, _, _, kc_9, by decide, ⟨_, tw_903, Or.inl rfl⟩, rfl, rfl, fun h => by first | rfl | cases h⟩
theorem fg_X9_171 : g_f "ToolHouseModel" 171 9 23 := ⟨_, _, _, _, kc_9, by decide, _, tw_904, Or.inl rfl⟩
theorem fp_X9_171 : g_fp "ToolHouseModel" 171 9 23 (.int) false := ⟨_, _, _, _, kc_9, by decide, ⟨_, tw_904, Or.inl rfl⟩, rfl, rfl, fun h => by first | rfl | cases h⟩
theorem fg_X9_45 : g_f "ToolHouseModel" 45 9 24 := ⟨_, _, _, _, kc_9, by decide, _, tw_905, Or.inl rfl⟩
theorem fp_X9_45 : g_fp "ToolHouseModel" 45 9 24 (.array .int) true := ⟨_, _, _, _, kc_9, by decide, ⟨_, tw_905, Or.inl rfl⟩, rfl, rfl, fun h => by first | rfl | cases h⟩
theorem fg_X9_48 : g_f "ToolHouseModel" 48 9 25 := ⟨_, _, _, _, kc_9, by decide, _, tw_906, Or.inl rfl⟩
theorem fp_X9_48 : g_fp "ToolHouseModel" 48 9 25 (.array .int) true := ⟨_, _, _, _, kc_9, by decide, ⟨_, tw_906, Or.inl rfl⟩, rfl, rfl, fun h => by first | rfl | cases h⟩
theorem fg_X9_51 : g_f "ToolHouseModel" 51 9 26 := ⟨_, _, _, _, kc_9, by decide, _, tw_907, Or.inl rfl⟩
theorem fp_X9_51 : g_fp "ToolHouseModel" 51 9 26 (.array .int) true := ⟨_, _, _, _, kc_9, by decide, ⟨_, tw_907, Or.inl rfl⟩, rfl, rfl, fun h => by first | rfl | cases h⟩
theorem fg_X9_54 : g_f "ToolHouseModel" 54 9 27 := ⟨_, _, _, _, kc_9, by decide, _, tw_908, Or.inl rfl⟩
theorem fp_X9_54 : g_fp "ToolHouseModel" 54 9 27 (.array .int) true := ⟨_, _, _, _, kc_9, by decide, ⟨_, tw_908, Or.inl rfl⟩, rfl, rfl, fun h => by first | rfl | cases h⟩
theorem fg_X9_57 : g_f "ToolHouseModel" 57 9 28 := ⟨_, _, _, _, kc_9, by decide, _, tw_909, Or.inl rfl⟩
theorem fp_X9_57 : g_fp "ToolHouseModel" 57 9 28 (.array .int) true := ⟨_, _, _, _, kc_9, by decide, ⟨_, tw_909, Or.inl rfl⟩, rfl, rfl, fun h => by first | rfl | cases h⟩
theorem fg_X9_60 : g_f "ToolHouseModel" 60 9 29 := ⟨_, _, _, _, kc_9, by decide, _, tw_910, Or.inl rfl⟩
theorem fp_X9_60 : g_fp "ToolHouseModel" 60 9 29 (.array .int) true := ⟨_, _, _, _, kc_9, by decide, ⟨_, tw_910, Or.inl rfl⟩, rfl, rfl, fun h => by first | rfl | cases h⟩
theorem fg_X9_63 : g_f "ToolHouseModel" 63 9 30 := ⟨_, _, _, _, kc_9, by decide, _, tw_911, Or.inl rfl⟩
theorem fp_X9_63 : g_fp "ToolHouseModel" 63 9 30 (.array .int) true := ⟨_, _, _, _, kc_9, by decide, ⟨_, tw_911, Or.inl rfl⟩, rfl, rfl, fun h => by first | rfl | cases h⟩
theorem fg_X9_66 : g_f "ToolHouseModel" 66 9 31 := ⟨_, _, _, _, kc_9, by decide, _, tw_912, Or.inl rfl⟩
theorem fp_X9_66 : g_fp "ToolHouseModel" 66 9 31 (.array .int) true := ⟨_, _, _, _, kc_9, by decide, ⟨_, tw_912, Or.inl rfl⟩, rfl, rfl, fun h => by first | rfl | cases h⟩
theorem fg_X9_69 : g_f "ToolHouseModel" 69 9 32 := ⟨_, _, _, _, kc_9, by decide, _, tw_913, Or.inl rfl⟩
theorem fp_X9_69 : g_fp "ToolHouseModel" 69 9 32 (.array .int) true := ⟨_, _, _, _, kc_9, by decide, ⟨_, tw_913, Or.inl rfl⟩, rfl, rfl, fun h => by first | rfl | cases h⟩
theorem fg_X9_72 : g_f "ToolHouseModel" 72 9 33 := ⟨_, _, _, _, kc_9, by decide, _, tw_914, Or.inl rfl⟩
theorem fp_X9_72 : g_fp "ToolHouseModel" 72 9 33 (.array .int) true := ⟨_, _, _, _, kc_9, by decide, ⟨_, tw_914, Or.inl rfl⟩, rfl, rfl, fun h => by first | rfl | cases h⟩
theorem fg_X9_75 : g_f "ToolHouseModel" 75 9 34 := ⟨_, _, _, _, kc_9, by decide, _, tw_915, Or.inl rfl⟩
theorem fp_X9_75 : g_fp "ToolHouseModel" 75 9 34 (.array .int) true := ⟨_, _, _, _, kc_9, by decide, ⟨_, tw_915, Or.inl rfl⟩, rfl, rfl, fun h => by first | rfl | cases h⟩
theorem fg_X9_187 : g_f "ToolHouseModel" 187 9 35 := ⟨_, _, _, _, kc_9, by decide, _, tw_916, Or.inl rfl⟩
theorem fp_X9_187 : g_fp "ToolHouseModel" 187 9 35 (.int) false := ⟨_, _, _, _, kc_9, by decide, ⟨_, tw_916, Or.inl rfl⟩, rfl, rfl, fun h => by first | rfl | cases h⟩
theorem fg_X9_78 : g_f "ToolHouseModel" 78 9 36 := ⟨_, _, _, _, kc_9, by decide, _, tw_917, Or.inl rfl⟩
theorem fp_X9_78 : g_fp "ToolHouseModel" 78 9 36 (.array .int) true := ⟨_, _, _, _, kc_9, by decide, ⟨_, tw_917, Or.inl rfl⟩, rfl, rfl, fun h => by first | rfl | cases h⟩
theorem fg_X9_81 : g_f "ToolHouseModel" 81 9 37 := ⟨_, _, _, _, kc_9, by decide, _, tw_918, Or.inl rfl⟩
theorem fp_X9_81 : g_fp "ToolHouseModel" 81 9 37 (.array .int) true := ⟨_, _, _, _, kc_9, by decide, ⟨_, tw_918, Or.inl rfl⟩, rfl, rfl, fun h => by first | rfl | cases h⟩
theorem fg_X9_194 : g_f "ToolHouseModel" 194 9 38 := ⟨_, _, _, _, kc_9, by decide, _, tw_919, Or.inl rfl⟩
theorem fp_X9_194 : g_fp "ToolHouseModel" 194 9 38 (.int) false := ⟨_, _, _, _, kc_9, by decide, ⟨_, tw_919, Or.inl rfl⟩, rfl, rfl, fun h => by first | rfl | cases h⟩
theorem fg_X9_84 : g_f "ToolHouseModel" 84 9 39 := ⟨_, _, _, _, kc_9, by decide, _, tw_920, Or.inl rfl⟩
theorem fp_X9_84 : g_fp "ToolHouseModel" 84 9 39 (.array .boolean) true := ⟨_, _, _, _, kc_9, by decide, ⟨_, tw_920, Or.inl rfl⟩, rfl, rfl, fun h => by first | rfl | cases h⟩
theorem fg_X9_88 : g_f "ToolHouseModel" 88 9 40 := ⟨_, _, _, _, kc_9, by decide, _, tw_921, Or.inl rfl⟩
theorem fp_X9_88 : g_fp "ToolHouseModel" 88 9 40 (.array .boolean) true := ⟨_, _, _, _, kc_9, by decide, ⟨_, tw_921, Or.inl rfl⟩, rfl, rfl, fun h => by first | rfl | cases h⟩
theorem fg_X9_91 : g_f "ToolHouseModel" 91 9 41 := ⟨_, _, _, _, kc_9, by decide, _, tw_922, Or.inl rfl⟩
theorem fp_X9_91 : g_fp "ToolHouseModel" 91 9 41 (.array .int) true := ⟨_, _, _, _, kc_9, by decide, ⟨_, tw_922, Or.inl rfl⟩, rfl, rfl, fun h => by first | rfl | cases h⟩
theorem fg_X9_94 : g_f "ToolHouseModel" 94 9 42 := ⟨_, _, _, _, kc_9, by decide, _, tw_923, Or.inl rfl⟩
theorem fp_X9_94 : g_fp "ToolHouseModel" 94 9 42 (.array .int) true := ⟨_, _, _, _, kc_9, by decide, ⟨_, tw_923, Or.inl rfl⟩, rfl, rfl, fun h => by first | rfl | cases h⟩
theorem mc_L_99 {k : mM} (hk : k.1.cls = "ToolHouseLaw") : g_cm k kX9_thrown 99 0 := ⟨tw_1015, tw_62, by rw [hk]; exact tw_1012, by decide +kernel, by decide⟩
theorem mc_L_23 {k : mM} (hk : k.1.cls = "ToolHouseLaw") : g_cm k kX9_kind 23 3 := ⟨tw_1019, tw_62, by rw [hk]; exact tw_1016, by decide +kernel, by decide⟩
theorem mc_X9_100 {k : mM} (hk : k.1.cls = "ToolHouseModel") : g_cm k kX9_within 100 3 := ⟨tw_1022, tw_62, by rw [hk]; exact tw_1020, by decide +kernel, by decide⟩
theorem mc_L_28 {k : mM} (hk : k.1.cls = "ToolHouseLaw") : g_cm k kX9_thing 28 1 := ⟨tw_1026, tw_62, by rw [hk]; exact tw_1023, by decide +kernel, by decide⟩
theorem mc_X9_113 {k : mM} (hk : k.1.cls = "ToolHouseModel") : g_cm k kX9_isKind 113 1 := ⟨tw_1030, tw_62, by rw [hk]; exact tw_1027, by decide +kernel, by decide⟩
theorem mc_L_33 {k : mM} (hk : k.1.cls = "ToolHouseLaw") : g_cm k kX9_member 33 0 := ⟨tw_1034, tw_62, by rw [hk]; exact tw_1031, by decide +kernel, by decide⟩
theorem mc_L_38 {k : mM} (hk : k.1.cls = "ToolHouseLaw") : g_cm k kX9_feed 38 5 := ⟨tw_1038, tw_62, by rw [hk]; exact tw_1035, by decide +kernel, by decide⟩
theorem mc_L_42 {k : mM} (hk : k.1.cls = "ToolHouseLaw") : g_cm k kX9_end 42 1 := ⟨tw_1042, tw_62, by rw [hk]; exact tw_1039, by decide +kernel, by decide⟩
theorem mc_L_46 {k : mM} (hk : k.1.cls = "ToolHouseLaw") : g_cm k kX9_law 46 0 := ⟨tw_1046, tw_62, by rw [hk]; exact tw_1043, by decide +kernel, by decide⟩
theorem mc_X9_146 {k : mM} (hk : k.1.cls = "ToolHouseModel") : g_cm k kX9_token 146 0 := ⟨tw_1050, tw_62, by rw [hk]; exact tw_1047, by decide +kernel, by decide⟩
theorem mc_X9_126 {k : mM} (hk : k.1.cls = "ToolHouseModel") : g_cm k kX9_byteAt 126 1 := ⟨tw_1054, tw_62, by rw [hk]; exact tw_1051, by decide +kernel, by decide⟩
theorem mc_X9_152 {k : mM} (hk : k.1.cls = "ToolHouseModel") : g_cm k kX9_statement 152 0 := ⟨tw_1058, tw_62, by rw [hk]; exact tw_1055, by decide +kernel, by decide⟩
theorem mc_X9_139 {k : mM} (hk : k.1.cls = "ToolHouseModel") : g_cm k kX9_isEvery 139 0 := ⟨tw_1062, tw_62, by rw [hk]; exact tw_1059, by decide +kernel, by decide⟩
theorem mc_X9_143 {k : mM} (hk : k.1.cls = "ToolHouseModel") : g_cm k kX9_wrong 143 1 := ⟨tw_1066, tw_62, by rw [hk]; exact tw_1063, by decide +kernel, by decide⟩
theorem mc_L_50 {k : mM} (hk : k.1.cls = "ToolHouseLaw") : g_cm k kX9_place 50 0 := ⟨tw_1070, tw_62, by rw [hk]; exact tw_1067, by decide +kernel, by decide⟩
theorem mc_L_55 {k : mM} (hk : k.1.cls = "ToolHouseLaw") : g_cm k kX9_look 55 1 := ⟨tw_1074, tw_62, by rw [hk]; exact tw_1071, by decide +kernel, by decide⟩
theorem mc_X9_158 {k : mM} (hk : k.1.cls = "ToolHouseModel") : g_cm k kX9_isThing 158 1 := ⟨tw_1078, tw_62, by rw [hk]; exact tw_1075, by decide +kernel, by decide⟩
theorem mc_X9_161 {k : mM} (hk : k.1.cls = "ToolHouseModel") : g_cm k kX9_outWith 161 1 := ⟨tw_1082, tw_62, by rw [hk]; exact tw_1079, by decide +kernel, by decide⟩
theorem mc_L_59 {k : mM} (hk : k.1.cls = "ToolHouseLaw") : g_cm k kX9_lawful 59 2 := ⟨tw_1086, tw_62, by rw [hk]; exact tw_1083, by decide +kernel, by decide⟩
theorem mc_X9_167 {k : mM} (hk : k.1.cls = "ToolHouseModel") : g_cm k kX9_isLawful 167 2 := ⟨tw_1090, tw_62, by rw [hk]; exact tw_1087, by decide +kernel, by decide⟩
theorem mc_X9_155 {k : mM} (hk : k.1.cls = "ToolHouseModel") : g_cm k kX9_wanted 155 1 := ⟨tw_1094, tw_62, by rw [hk]; exact tw_1091, by decide +kernel, by decide⟩
theorem mc_L_64 {k : mM} (hk : k.1.cls = "ToolHouseLaw") : g_cm k kX9_ask 64 6 := ⟨tw_1098, tw_62, by rw [hk]; exact tw_1095, by decide +kernel, by decide⟩
theorem mc_X9_174 {k : mM} (hk : k.1.cls = "ToolHouseModel") : g_cm k kX9_isMember 174 1 := ⟨tw_1102, tw_62, by rw [hk]; exact tw_1099, by decide +kernel, by decide⟩
theorem mc_X9_177 {k : mM} (hk : k.1.cls = "ToolHouseModel") : g_cm k kX9_counted 177 1 := ⟨tw_1106, tw_62, by rw [hk]; exact tw_1103, by decide +kernel, by decide⟩
theorem mc_L_68 {k : mM} (hk : k.1.cls = "ToolHouseLaw") : g_cm k kX9_plan 68 0 := ⟨tw_1110, tw_62, by rw [hk]; exact tw_1107, by decide +kernel, by decide⟩
theorem mc_X9_204 {k : mM} (hk : k.1.cls = "ToolHouseModel") : g_cm k kX9_fits 204 2 := ⟨tw_1114, tw_62, by rw [hk]; exact tw_1111, by decide +kernel, by decide⟩
theorem mc_X9_207 {k : mM} (hk : k.1.cls = "ToolHouseModel") : g_cm k kX9_isFreeFor 207 4 := ⟨tw_1118, tw_62, by rw [hk]; exact tw_1115, by decide +kernel, by decide⟩
theorem mc_X9_180 {k : mM} (hk : k.1.cls = "ToolHouseModel") : g_cm k kX9_endOf 180 1 := ⟨tw_1122, tw_62, by rw [hk]; exact tw_1119, by decide +kernel, by decide⟩
theorem mc_X9_183 {k : mM} (hk : k.1.cls = "ToolHouseModel") : g_cm k kX9_areNear 183 5 := ⟨tw_1125, tw_62, by rw [hk]; exact tw_1123, by decide +kernel, by decide⟩
theorem mc_X9_200 {k : mM} (hk : k.1.cls = "ToolHouseModel") : g_cm k kX9_tries 200 1 := ⟨tw_1129, tw_62, by rw [hk]; exact tw_1126, by decide +kernel, by decide⟩
theorem mc_X9_190 {k : mM} (hk : k.1.cls = "ToolHouseModel") : g_cm k kX9_worth 190 0 := ⟨tw_1133, tw_62, by rw [hk]; exact tw_1130, by decide +kernel, by decide⟩
theorem mc_X9_197 {k : mM} (hk : k.1.cls = "ToolHouseModel") : g_cm k kX9_stands 197 2 := ⟨tw_1137, tw_62, by rw [hk]; exact tw_1134, by decide +kernel, by decide⟩
theorem mc_L_72 {k : mM} (hk : k.1.cls = "ToolHouseLaw") : g_cm k kX9_off 72 1 := ⟨tw_1141, tw_62, by rw [hk]; exact tw_1138, by decide +kernel, by decide⟩
theorem mc_L_76 {k : mM} (hk : k.1.cls = "ToolHouseLaw") : g_cm k kX9_out 76 1 := ⟨tw_1145, tw_62, by rw [hk]; exact tw_1142, by decide +kernel, by decide⟩
theorem mc_L_80 {k : mM} (hk : k.1.cls = "ToolHouseLaw") : g_cm k kX9_back 80 1 := ⟨tw_1149, tw_62, by rw [hk]; exact tw_1146, by decide +kernel, by decide⟩
theorem mc_L_84 {k : mM} (hk : k.1.cls = "ToolHouseLaw") : g_cm k kX9_work 84 2 := ⟨tw_1153, tw_62, by rw [hk]; exact tw_1150, by decide +kernel, by decide⟩
theorem mc_L_88 {k : mM} (hk : k.1.cls = "ToolHouseLaw") : g_cm k kX9_days 88 1 := ⟨tw_1157, tw_62, by rw [hk]; exact tw_1154, by decide +kernel, by decide⟩
theorem mc_X9_211 {k : mM} (hk : k.1.cls = "ToolHouseModel") : g_cm k kX9_moves 211 0 := ⟨tw_1161, tw_62, by rw [hk]; exact tw_1158, by decide +kernel, by decide⟩
theorem mc_X9_214 {k : mM} (hk : k.1.cls = "ToolHouseModel") : g_cm k kX9_isLate 214 1 := ⟨tw_1165, tw_62, by rw [hk]; exact tw_1162, by decide +kernel, by decide⟩
theorem mc_X9_217 {k : mM} (hk : k.1.cls = "ToolHouseModel") : g_cm k kX9_isAhead 217 2 := ⟨tw_1169, tw_62, by rw [hk]; exact tw_1166, by decide +kernel, by decide⟩
theorem mc_X9_220 {k : mM} (hk : k.1.cls = "ToolHouseModel") : g_cm k kX9_moves_ 220 1 := ⟨tw_1173, tw_62, by rw [hk]; exact tw_1170, by decide +kernel, by decide⟩
theorem mc_L_92 {k : mM} (hk : k.1.cls = "ToolHouseLaw") : g_cm k kX9_buy 92 1 := ⟨tw_1177, tw_62, by rw [hk]; exact tw_1174, by decide +kernel, by decide⟩
theorem mc_L_98 {k : mM} (hk : k.1.cls = "ToolHouseLaw") : g_cm k kX9_of 98 2 := ⟨tw_1181, tw_62, by rw [hk]; exact tw_1178, by decide +kernel, by decide⟩
theorem mc_L_105 {k : mM} (hk : k.1.cls = "ToolHouseLaw") : g_cm k kX9_thingOf 105 2 := ⟨tw_1185, tw_62, by rw [hk]; exact tw_1182, by decide +kernel, by decide⟩
theorem mc_L_109 {k : mM} (hk : k.1.cls = "ToolHouseLaw") : g_cm k kX9_isFree 109 3 := ⟨tw_1189, tw_62, by rw [hk]; exact tw_1186, by decide +kernel, by decide⟩
theorem mc_L_113 {k : mM} (hk : k.1.cls = "ToolHouseLaw") : g_cm k kX9_memberOf 113 2 := ⟨tw_1193, tw_62, by rw [hk]; exact tw_1190, by decide +kernel, by decide⟩
theorem mc_L_117 {k : mM} (hk : k.1.cls = "ToolHouseLaw") : g_cm k kX9_count 117 1 := ⟨tw_1197, tw_62, by rw [hk]; exact tw_1194, by decide +kernel, by decide⟩
theorem nk_L_8 : g_nk "ToolHouseLaw" 8 8 10 [.null, .null, .null, .null, .null, .null, .null, .null, .null, .int 0] := ⟨_, _, _, kc_8, tw_79, tw_80, tw_53, by decide +kernel, fun _ => rfl⟩
theorem nk_X8_7 : g_nk "ToolHouse" 7 10 3 [.int 0, .null, .int 0] := ⟨_, _, _, kc_10, tw_87, tw_88, tw_56, by decide +kernel, fun _ => rfl⟩
theorem nk_X8_28 : g_nk "ToolHouse" 28 6 2 [.null, .int 0] := ⟨_, _, _, kc_6, tw_113, tw_114, tw_57, by decide +kernel, fun _ => rfl⟩
theorem nk_X8_35 : g_nk "ToolHouse" 35 3 5 [.null, .int 0, .int 0, .int 0, .int 0] := ⟨_, _, _, kc_3, tw_129, tw_130, tw_58, by decide +kernel, fun _ => rfl⟩
theorem nk_X8_42 : g_nk "ToolHouse" 42 2 3 [.int 0, .int 0, .null] := ⟨_, _, _, kc_2, tw_154, tw_155, tw_59, by decide +kernel, fun _ => rfl⟩
theorem nk_X8_49 : g_nk "ToolHouse" 49 5 4 [.null, .int 0, .null, .null] := ⟨_, _, _, kc_5, tw_175, tw_176, tw_61, by decide +kernel, fun _ => rfl⟩
theorem nk_X5_11 : g_nk "ToolHouse$Planner" 11 0 11 [.int 0, .null, .null, .int 0, .int 0, .int 0, .int 0, .int 0, .null, .int 0, .int 0] := ⟨_, _, _, kc_0, tw_181, tw_559, tw_74, by decide +kernel, fun _ => rfl⟩
theorem nk_X8_68 : g_nk "ToolHouse" 68 1 4 [.int 0, .int 0, .int 0, .int 0] := ⟨_, _, _, kc_1, tw_238, tw_239, tw_63, by decide +kernel, fun _ => rfl⟩
theorem nk_X8_81 : g_nk "ToolHouse" 81 7 5 [.int 0, .null, .int 0, .int 0, .null] := ⟨_, _, _, kc_7, tw_344, tw_345, tw_69, by decide +kernel, fun _ => rfl⟩
theorem nk_X8_86 : g_nk "ToolHouse" 86 4 4 [.int 0, .int 0, .int 0, .int 0] := ⟨_, _, _, kc_4, tw_379, tw_380, tw_70, by decide +kernel, fun _ => rfl⟩
theorem nk_X8_150 : g_nk "ToolHouse" 150 0 11 [.int 0, .null, .null, .int 0, .int 0, .int 0, .int 0, .int 0, .null, .int 0, .int 0] := ⟨_, _, _, kc_0, tw_558, tw_559, tw_74, by decide +kernel, fun _ => rfl⟩
theorem nk_L_16 : g_nk "ToolHouseLaw" 16 9 43 [.int 0, .int 0, .null, .null, .null, .int 0, .null, .null, .int 0, .null, .null, .int 0, .null, .int 0, .int 0, .null, .null, .int 0, .int 0, .int 0, .int 0, .int 0, .int 0, .int 0, .null, .null, .null, .null, .null, .null, .null, .null, .null, .null, .null, .int 0, .null, .null, .int 0, .null, .null, .null, .null] := ⟨_, _, _, kc_9, tw_875, tw_876, tw_62, by decide +kernel, fun _ => rfl⟩
