theorem dX8_memberAt_5 : decode cX8_memberAt 5 = .ok (.aload_n 0, 1) := by decide +kernel
theorem dX8_memberAt_6 : decode cX8_memberAt 6 = .ok (.getfield 19, 3) := by decide +kernel
theorem dX8_memberAt_9 : decode cX8_memberAt 9 = .ok (.invokevirtual 60, 3) := by decide +kernel
theorem dX8_memberAt_12 : decode cX8_memberAt 12 = .ok (.if_icmp .ge 17, 3) := by decide +kernel
theorem dX8_memberAt_15 : decode cX8_memberAt 15 = .ok (.aload_n 0, 1) := by decide +kernel
theorem dX8_memberAt_16 : decode cX8_memberAt 16 = .ok (.getfield 19, 3) := by decide +kernel
theorem dX8_memberAt_19 : decode cX8_memberAt 19 = .ok (.iload_n 1, 1) := by decide +kernel
theorem dX8_memberAt_20 : decode cX8_memberAt 20 = .ok (.invokevirtual 158, 3) := by decide +kernel
theorem dX8_memberAt_23 : decode cX8_memberAt 23 = .ok (.checkcast 86, 3) := by decide +kernel
theorem dX8_memberAt_26 : decode cX8_memberAt 26 = .ok (.goto 4, 3) := by decide +kernel
theorem dX8_memberAt_29 : decode cX8_memberAt 29 = .ok (.aconst_null, 1) := by decide +kernel
theorem dX8_memberAt_30 : decode cX8_memberAt 30 = .ok (.areturn, 1) := by decide +kernel
theorem dX8_askAt_0 : decode cX8_askAt 0 = .ok (.iload_n 1, 1) := by decide +kernel
theorem dX8_askAt_1 : decode cX8_askAt 1 = .ok (.ifCond .lt 28, 3) := by decide +kernel
theorem dX8_askAt_4 : decode cX8_askAt 4 = .ok (.iload_n 1, 1) := by decide +kernel
theorem dX8_askAt_5 : decode cX8_askAt 5 = .ok (.aload_n 0, 1) := by decide +kernel
theorem dX8_askAt_6 : decode cX8_askAt 6 = .ok (.getfield 22, 3) := by decide +kernel
theorem dX8_askAt_9 : decode cX8_askAt 9 = .ok (.invokevirtual 60, 3) := by decide +kernel
theorem dX8_askAt_12 : decode cX8_askAt 12 = .ok (.if_icmp .ge 17, 3) := by decide +kernel
theorem dX8_askAt_15 : decode cX8_askAt 15 = .ok (.aload_n 0, 1) := by decide +kernel
theorem dX8_askAt_16 : decode cX8_askAt 16 = .ok (.getfield 22, 3) := by decide +kernel
theorem dX8_askAt_19 : decode cX8_askAt 19 = .ok (.iload_n 1, 1) := by decide +kernel
theorem dX8_askAt_20 : decode cX8_askAt 20 = .ok (.invokevirtual 158, 3) := by decide +kernel
theorem dX8_askAt_23 : decode cX8_askAt 23 = .ok (.checkcast 150, 3) := by decide +kernel
theorem dX8_askAt_26 : decode cX8_askAt 26 = .ok (.goto 4, 3) := by decide +kernel
theorem dX8_askAt_29 : decode cX8_askAt 29 = .ok (.aconst_null, 1) := by decide +kernel
theorem dX8_askAt_30 : decode cX8_askAt 30 = .ok (.areturn, 1) := by decide +kernel
theorem dX8_canBeAsked_0 : decode cX8_canBeAsked 0 = .ok (.iload_n 1, 1) := by decide +kernel
theorem dX8_canBeAsked_1 : decode cX8_canBeAsked 1 = .ok (.aload_n 0, 1) := by decide +kernel
theorem dX8_canBeAsked_2 : decode cX8_canBeAsked 2 = .ok (.getfield 56, 3) := by decide +kernel
theorem dX8_canBeAsked_5 : decode cX8_canBeAsked 5 = .ok (.if_icmp .lt 31, 3) := by decide +kernel
theorem dX8_canBeAsked_8 : decode cX8_canBeAsked 8 = .ok (.iload_n 2, 1) := by decide +kernel
theorem dX8_canBeAsked_9 : decode cX8_canBeAsked 9 = .ok (.aload_n 0, 1) := by decide +kernel
theorem dX8_canBeAsked_10 : decode cX8_canBeAsked 10 = .ok (.getfield 56, 3) := by decide +kernel
theorem dX8_canBeAsked_13 : decode cX8_canBeAsked 13 = .ok (.bipush 60, 2) := by decide +kernel
theorem dX8_canBeAsked_15 : decode cX8_canBeAsked 15 = .ok (.iadd, 1) := by decide +kernel
theorem dX8_canBeAsked_16 : decode cX8_canBeAsked 16 = .ok (.if_icmp .gt 20, 3) := by decide +kernel
theorem dX8_canBeAsked_19 : decode cX8_canBeAsked 19 = .ok (.iload_n 1, 1) := by decide +kernel
theorem dX8_canBeAsked_20 : decode cX8_canBeAsked 20 = .ok (.iload_n 2, 1) := by decide +kernel
theorem dX8_canBeAsked_21 : decode cX8_canBeAsked 21 = .ok (.if_icmp .gt 15, 3) := by decide +kernel
theorem dX8_canBeAsked_24 : decode cX8_canBeAsked 24 = .ok (.iload_n 2, 1) := by decide +kernel
theorem dX8_canBeAsked_25 : decode cX8_canBeAsked 25 = .ok (.iload_n 1, 1) := by decide +kernel
theorem dX8_canBeAsked_26 : decode cX8_canBeAsked 26 = .ok (.isub, 1) := by decide +kernel
theorem dX8_canBeAsked_27 : decode cX8_canBeAsked 27 = .ok (.bipush 15, 2) := by decide +kernel
theorem dX8_canBeAsked_29 : decode cX8_canBeAsked 29 = .ok (.if_icmp .ge 7, 3) := by decide +kernel
theorem dX8_canBeAsked_32 : decode cX8_canBeAsked 32 = .ok (.iconst 1, 1) := by decide +kernel
theorem dX8_canBeAsked_33 : decode cX8_canBeAsked 33 = .ok (.goto 4, 3) := by decide +kernel
theorem dX8_canBeAsked_36 : decode cX8_canBeAsked 36 = .ok (.iconst 0, 1) := by decide +kernel
theorem dX8_canBeAsked_37 : decode cX8_canBeAsked 37 = .ok (.ireturn, 1) := by decide +kernel
theorem dX8_howManyAre_0 : decode cX8_howManyAre 0 = .ok (.iconst 0, 1) := by decide +kernel
theorem dX8_howManyAre_1 : decode cX8_howManyAre 1 = .ok (.istore_n 2, 1) := by decide +kernel
theorem dX8_howManyAre_2 : decode cX8_howManyAre 2 = .ok (.iconst 0, 1) := by decide +kernel
theorem dX8_howManyAre_3 : decode cX8_howManyAre 3 = .ok (.istore_n 3, 1) := by decide +kernel
theorem dX8_howManyAre_4 : decode cX8_howManyAre 4 = .ok (.iload_n 3, 1) := by decide +kernel
theorem dX8_howManyAre_5 : decode cX8_howManyAre 5 = .ok (.aload_n 0, 1) := by decide +kernel
theorem dX8_howManyAre_6 : decode cX8_howManyAre 6 = .ok (.getfield 22, 3) := by decide +kernel
theorem dX8_howManyAre_9 : decode cX8_howManyAre 9 = .ok (.invokevirtual 60, 3) := by decide +kernel
theorem dX8_howManyAre_12 : decode cX8_howManyAre 12 = .ok (.if_icmp .ge 30, 3) := by decide +kernel
theorem dX8_howManyAre_15 : decode cX8_howManyAre 15 = .ok (.aload_n 0, 1) := by decide +kernel
theorem dX8_howManyAre_16 : decode cX8_howManyAre 16 = .ok (.getfield 22, 3) := by decide +kernel
theorem dX8_howManyAre_19 : decode cX8_howManyAre 19 = .ok (.iload_n 3, 1) := by decide +kernel
theorem dX8_howManyAre_20 : decode cX8_howManyAre 20 = .ok (.invokevirtual 158, 3) := by decide +kernel
theorem dX8_howManyAre_23 : decode cX8_howManyAre 23 = .ok (.checkcast 150, 3) := by decide +kernel
theorem dX8_howManyAre_26 : decode cX8_howManyAre 26 = .ok (.getfield 162, 3) := by decide +kernel
theorem dX8_howManyAre_29 : decode cX8_howManyAre 29 = .ok (.iload_n 1, 1) := by decide +kernel
theorem dX8_howManyAre_30 : decode cX8_howManyAre 30 = .ok (.if_icmp .ne 6, 3) := by decide +kernel
theorem dX8_howManyAre_33 : decode cX8_howManyAre 33 = .ok (.iinc 2 1, 3) := by decide +kernel
theorem dX8_howManyAre_36 : decode cX8_howManyAre 36 = .ok (.iinc 3 1, 3) := by decide +kernel
theorem dX8_howManyAre_39 : decode cX8_howManyAre 39 = .ok (.goto (-35), 3) := by decide +kernel
theorem dX8_howManyAre_42 : decode cX8_howManyAre 42 = .ok (.iload_n 2, 1) := by decide +kernel
theorem dX8_howManyAre_43 : decode cX8_howManyAre 43 = .ok (.ireturn, 1) := by decide +kernel
theorem dX8_howManyAreBookedOn_0 : decode cX8_howManyAreBookedOn 0 = .ok (.iconst 0, 1) := by decide +kernel
theorem dX8_howManyAreBookedOn_1 : decode cX8_howManyAreBookedOn 1 = .ok (.istore_n 2, 1) := by decide +kernel
theorem dX8_howManyAreBookedOn_2 : decode cX8_howManyAreBookedOn 2 = .ok (.iconst 0, 1) := by decide +kernel
theorem dX8_howManyAreBookedOn_3 : decode cX8_howManyAreBookedOn 3 = .ok (.istore_n 3, 1) := by decide +kernel
theorem dX8_howManyAreBookedOn_4 : decode cX8_howManyAreBookedOn 4 = .ok (.iload_n 3, 1) := by decide +kernel
theorem dX8_howManyAreBookedOn_5 : decode cX8_howManyAreBookedOn 5 = .ok (.aload_n 0, 1) := by decide +kernel
theorem dX8_howManyAreBookedOn_6 : decode cX8_howManyAreBookedOn 6 = .ok (.getfield 22, 3) := by decide +kernel
theorem dX8_howManyAreBookedOn_9 : decode cX8_howManyAreBookedOn 9 = .ok (.invokevirtual 60, 3) := by decide +kernel
theorem dX8_howManyAreBookedOn_12 : decode cX8_howManyAreBookedOn 12 = .ok (.if_icmp .ge 30, 3) := by decide +kernel
theorem dX8_howManyAreBookedOn_15 : decode cX8_howManyAreBookedOn 15 = .ok (.aload_n 0, 1) := by decide +kernel
theorem dX8_howManyAreBookedOn_16 : decode cX8_howManyAreBookedOn 16 = .ok (.getfield 22, 3) := by decide +kernel
theorem dX8_howManyAreBookedOn_19 : decode cX8_howManyAreBookedOn 19 = .ok (.iload_n 3, 1) := by decide +kernel
theorem dX8_howManyAreBookedOn_20 : decode cX8_howManyAreBookedOn 20 = .ok (.invokevirtual 158, 3) := by decide +kernel
theorem dX8_howManyAreBookedOn_23 : decode cX8_howManyAreBookedOn 23 = .ok (.checkcast 150, 3) := by decide +kernel
theorem dX8_howManyAreBookedOn_26 : decode cX8_howManyAreBookedOn 26 = .ok (.aload_n 1, 1) := by decide +kernel
theorem dX8_howManyAreBookedOn_27 : decode cX8_howManyAreBookedOn 27 = .ok (.invokevirtual 282, 3) := by decide +kernel
theorem dX8_howManyAreBookedOn_30 : decode cX8_howManyAreBookedOn 30 = .ok (.ifCond .eq 6, 3) := by decide +kernel
theorem dX8_howManyAreBookedOn_33 : decode cX8_howManyAreBookedOn 33 = .ok (.iinc 2 1, 3) := by decide +kernel
theorem dX8_howManyAreBookedOn_36 : decode cX8_howManyAreBookedOn 36 = .ok (.iinc 3 1, 3) := by decide +kernel
theorem dX8_howManyAreBookedOn_39 : decode cX8_howManyAreBookedOn 39 = .ok (.goto (-35), 3) := by decide +kernel
theorem dX8_howManyAreBookedOn_42 : decode cX8_howManyAreBookedOn 42 = .ok (.iload_n 2, 1) := by decide +kernel
theorem dX8_howManyAreBookedOn_43 : decode cX8_howManyAreBookedOn 43 = .ok (.ireturn, 1) := by decide +kernel
theorem dX8_isFreeBut_0 : decode cX8_isFreeBut 0 = .ok (.aload_n 2, 1) := by decide +kernel
theorem dX8_isFreeBut_1 : decode cX8_isFreeBut 1 = .ok (.getfield 210, 3) := by decide +kernel
theorem dX8_isFreeBut_4 : decode cX8_isFreeBut 4 = .ok (.getfield 240, 3) := by decide +kernel
theorem dX8_isFreeBut_7 : decode cX8_isFreeBut 7 = .ok (.istore 5, 2) := by decide +kernel
theorem dX8_isFreeBut_9 : decode cX8_isFreeBut 9 = .ok (.iconst 0, 1) := by decide +kernel
theorem dX8_isFreeBut_10 : decode cX8_isFreeBut 10 = .ok (.istore 6, 2) := by decide +kernel
theorem dX8_isFreeBut_12 : decode cX8_isFreeBut 12 = .ok (.iload 6, 2) := by decide +kernel
theorem dX8_isFreeBut_14 : decode cX8_isFreeBut 14 = .ok (.aload_n 0, 1) := by decide +kernel
theorem dX8_isFreeBut_15 : decode cX8_isFreeBut 15 = .ok (.getfield 22, 3) := by decide +kernel
theorem dX8_isFreeBut_18 : decode cX8_isFreeBut 18 = .ok (.invokevirtual 60, 3) := by decide +kernel
theorem dX8_isFreeBut_21 : decode cX8_isFreeBut 21 = .ok (.if_icmp .ge 65, 3) := by decide +kernel
theorem dX8_isFreeBut_24 : decode cX8_isFreeBut 24 = .ok (.aload_n 0, 1) := by decide +kernel
theorem dX8_isFreeBut_25 : decode cX8_isFreeBut 25 = .ok (.getfield 22, 3) := by decide +kernel
theorem dX8_isFreeBut_28 : decode cX8_isFreeBut 28 = .ok (.iload 6, 2) := by decide +kernel
theorem dX8_isFreeBut_30 : decode cX8_isFreeBut 30 = .ok (.invokevirtual 158, 3) := by decide +kernel
theorem dX8_isFreeBut_33 : decode cX8_isFreeBut 33 = .ok (.checkcast 150, 3) := by decide +kernel
theorem dX8_isFreeBut_36 : decode cX8_isFreeBut 36 = .ok (.astore 7, 2) := by decide +kernel
theorem dX8_isFreeBut_38 : decode cX8_isFreeBut 38 = .ok (.aload 7, 2) := by decide +kernel
theorem dX8_isFreeBut_40 : decode cX8_isFreeBut 40 = .ok (.aload_n 1, 1) := by decide +kernel
theorem dX8_isFreeBut_41 : decode cX8_isFreeBut 41 = .ok (.if_acmp .eq 39, 3) := by decide +kernel
theorem dX8_isFreeBut_44 : decode cX8_isFreeBut 44 = .ok (.aload 7, 2) := by decide +kernel
theorem dX8_isFreeBut_46 : decode cX8_isFreeBut 46 = .ok (.aload_n 2, 1) := by decide +kernel
theorem dX8_isFreeBut_47 : decode cX8_isFreeBut 47 = .ok (.invokevirtual 286, 3) := by decide +kernel
theorem dX8_isFreeBut_50 : decode cX8_isFreeBut 50 = .ok (.ifCond .eq 30, 3) := by decide +kernel
theorem dX8_isFreeBut_53 : decode cX8_isFreeBut 53 = .ok (.iload_n 3, 1) := by decide +kernel
theorem dX8_isFreeBut_54 : decode cX8_isFreeBut 54 = .ok (.iload 4, 2) := by decide +kernel
theorem dX8_isFreeBut_56 : decode cX8_isFreeBut 56 = .ok (.aload 7, 2) := by decide +kernel
theorem dX8_isFreeBut_58 : decode cX8_isFreeBut 58 = .ok (.getfield 207, 3) := by decide +kernel
theorem dX8_isFreeBut_61 : decode cX8_isFreeBut 61 = .ok (.aload 7, 2) := by decide +kernel
theorem dX8_isFreeBut_63 : decode cX8_isFreeBut 63 = .ok (.aload_n 0, 1) := by decide +kernel
theorem dX8_isFreeBut_64 : decode cX8_isFreeBut 64 = .ok (.getfield 56, 3) := by decide +kernel
theorem dX8_isFreeBut_67 : decode cX8_isFreeBut 67 = .ok (.invokevirtual 289, 3) := by decide +kernel
theorem dX8_isFreeBut_70 : decode cX8_isFreeBut 70 = .ok (.iload 5, 2) := by decide +kernel
theorem dX8_isFreeBut_72 : decode cX8_isFreeBut 72 = .ok (.invokestatic 292, 3) := by decide +kernel
theorem dX8_isFreeBut_75 : decode cX8_isFreeBut 75 = .ok (.ifCond .eq 5, 3) := by decide +kernel
theorem dX8_isFreeBut_78 : decode cX8_isFreeBut 78 = .ok (.iconst 0, 1) := by decide +kernel
theorem dX8_isFreeBut_79 : decode cX8_isFreeBut 79 = .ok (.ireturn, 1) := by decide +kernel
theorem dX8_isFreeBut_80 : decode cX8_isFreeBut 80 = .ok (.iinc 6 1, 3) := by decide +kernel
theorem dX8_isFreeBut_83 : decode cX8_isFreeBut 83 = .ok (.goto (-71), 3) := by decide +kernel
theorem dX8_isFreeBut_86 : decode cX8_isFreeBut 86 = .ok (.iconst 1, 1) := by decide +kernel
theorem dX8_isFreeBut_87 : decode cX8_isFreeBut 87 = .ok (.ireturn, 1) := by decide +kernel
theorem dX8_isFreeFor_0 : decode cX8_isFreeFor 0 = .ok (.aload_n 0, 1) := by decide +kernel
theorem dX8_isFreeFor_1 : decode cX8_isFreeFor 1 = .ok (.aload_n 1, 1) := by decide +kernel
theorem dX8_isFreeFor_2 : decode cX8_isFreeFor 2 = .ok (.aload_n 2, 1) := by decide +kernel
theorem dX8_isFreeFor_3 : decode cX8_isFreeFor 3 = .ok (.aload_n 1, 1) := by decide +kernel
theorem dX8_isFreeFor_4 : decode cX8_isFreeFor 4 = .ok (.getfield 207, 3) := by decide +kernel
theorem dX8_isFreeFor_7 : decode cX8_isFreeFor 7 = .ok (.aload_n 1, 1) := by decide +kernel
theorem dX8_isFreeFor_8 : decode cX8_isFreeFor 8 = .ok (.getfield 198, 3) := by decide +kernel
theorem dX8_isFreeFor_11 : decode cX8_isFreeFor 11 = .ok (.invokevirtual 272, 3) := by decide +kernel
theorem dX8_isFreeFor_14 : decode cX8_isFreeFor 14 = .ok (.ireturn, 1) := by decide +kernel
theorem dX8_rowThatMayHave_0 : decode cX8_rowThatMayHave 0 = .ok (.iconst 0, 1) := by decide +kernel
theorem dX8_rowThatMayHave_1 : decode cX8_rowThatMayHave 1 = .ok (.istore_n 2, 1) := by decide +kernel
theorem dX8_rowThatMayHave_2 : decode cX8_rowThatMayHave 2 = .ok (.iconst 0, 1) := by decide +kernel
theorem dX8_rowThatMayHave_3 : decode cX8_rowThatMayHave 3 = .ok (.istore_n 3, 1) := by decide +kernel
theorem dX8_rowThatMayHave_4 : decode cX8_rowThatMayHave 4 = .ok (.iload_n 3, 1) := by decide +kernel
theorem dX8_rowThatMayHave_5 : decode cX8_rowThatMayHave 5 = .ok (.iconst 5, 1) := by decide +kernel
theorem dX8_rowThatMayHave_6 : decode cX8_rowThatMayHave 6 = .ok (.if_icmp .ge 52, 3) := by decide +kernel
theorem dX8_rowThatMayHave_9 : decode cX8_rowThatMayHave 9 = .ok (.aload_n 0, 1) := by decide +kernel
theorem dX8_rowThatMayHave_10 : decode cX8_rowThatMayHave 10 = .ok (.getfield 52, 3) := by decide +kernel
theorem dX8_rowThatMayHave_13 : decode cX8_rowThatMayHave 13 = .ok (.iload_n 3, 1) := by decide +kernel
theorem dX8_rowThatMayHave_14 : decode cX8_rowThatMayHave 14 = .ok (.invokevirtual 296, 3) := by decide +kernel
theorem dX8_rowThatMayHave_17 : decode cX8_rowThatMayHave 17 = .ok (.astore 4, 2) := by decide +kernel
theorem dX8_rowThatMayHave_19 : decode cX8_rowThatMayHave 19 = .ok (.aload 4, 2) := by decide +kernel
theorem dX8_rowThatMayHave_21 : decode cX8_rowThatMayHave 21 = .ok (.ifnull 31, 3) := by decide +kernel
theorem dX8_rowThatMayHave_24 : decode cX8_rowThatMayHave 24 = .ok (.aload_n 1, 1) := by decide +kernel
theorem dX8_rowThatMayHave_25 : decode cX8_rowThatMayHave 25 = .ok (.getfield 210, 3) := by decide +kernel
theorem dX8_rowThatMayHave_28 : decode cX8_rowThatMayHave 28 = .ok (.aload 4, 2) := by decide +kernel
theorem dX8_rowThatMayHave_30 : decode cX8_rowThatMayHave 30 = .ok (.invokevirtual 236, 3) := by decide +kernel
theorem dX8_rowThatMayHave_33 : decode cX8_rowThatMayHave 33 = .ok (.ifCond .eq 19, 3) := by decide +kernel
theorem dX8_rowThatMayHave_36 : decode cX8_rowThatMayHave 36 = .ok (.aload_n 0, 1) := by decide +kernel
theorem dX8_rowThatMayHave_37 : decode cX8_rowThatMayHave 37 = .ok (.aload 4, 2) := by decide +kernel
theorem dX8_rowThatMayHave_39 : decode cX8_rowThatMayHave 39 = .ok (.aload_n 1, 1) := by decide +kernel
theorem dX8_rowThatMayHave_40 : decode cX8_rowThatMayHave 40 = .ok (.invokevirtual 299, 3) := by decide +kernel
theorem dX8_rowThatMayHave_43 : decode cX8_rowThatMayHave 43 = .ok (.ifCond .eq 9, 3) := by decide +kernel
theorem dX8_rowThatMayHave_46 : decode cX8_rowThatMayHave 46 = .ok (.iload_n 2, 1) := by decide +kernel
theorem dX8_rowThatMayHave_47 : decode cX8_rowThatMayHave 47 = .ok (.iconst 1, 1) := by decide +kernel
theorem dX8_rowThatMayHave_48 : decode cX8_rowThatMayHave 48 = .ok (.iload_n 3, 1) := by decide +kernel
theorem dX8_rowThatMayHave_49 : decode cX8_rowThatMayHave 49 = .ok (.ishl, 1) := by decide +kernel
theorem dX8_rowThatMayHave_50 : decode cX8_rowThatMayHave 50 = .ok (.ior, 1) := by decide +kernel
theorem dX8_rowThatMayHave_51 : decode cX8_rowThatMayHave 51 = .ok (.istore_n 2, 1) := by decide +kernel
theorem dX8_rowThatMayHave_52 : decode cX8_rowThatMayHave 52 = .ok (.iinc 3 1, 3) := by decide +kernel
theorem dX8_rowThatMayHave_55 : decode cX8_rowThatMayHave 55 = .ok (.goto (-51), 3) := by decide +kernel
theorem dX8_rowThatMayHave_58 : decode cX8_rowThatMayHave 58 = .ok (.iload_n 2, 1) := by decide +kernel
theorem dX8_rowThatMayHave_59 : decode cX8_rowThatMayHave 59 = .ok (.ireturn, 1) := by decide +kernel
theorem dX8_carryOutPlan_0 : decode cX8_carryOutPlan 0 = .ok (.iconst 0, 1) := by decide +kernel
theorem dX8_carryOutPlan_1 : decode cX8_carryOutPlan 1 = .ok (.istore_n 1, 1) := by decide +kernel
theorem dX8_carryOutPlan_2 : decode cX8_carryOutPlan 2 = .ok (.iconst 0, 1) := by decide +kernel
theorem dX8_carryOutPlan_3 : decode cX8_carryOutPlan 3 = .ok (.istore_n 2, 1) := by decide +kernel
theorem dX8_carryOutPlan_4 : decode cX8_carryOutPlan 4 = .ok (.iload_n 2, 1) := by decide +kernel
theorem dX8_carryOutPlan_5 : decode cX8_carryOutPlan 5 = .ok (.iconst 5, 1) := by decide +kernel
theorem dX8_carryOutPlan_6 : decode cX8_carryOutPlan 6 = .ok (.if_icmp .ge 61, 3) := by decide +kernel
theorem dX8_carryOutPlan_9 : decode cX8_carryOutPlan 9 = .ok (.aload_n 0, 1) := by decide +kernel
theorem dX8_carryOutPlan_10 : decode cX8_carryOutPlan 10 = .ok (.getfield 52, 3) := by decide +kernel
theorem dX8_carryOutPlan_13 : decode cX8_carryOutPlan 13 = .ok (.iload_n 2, 1) := by decide +kernel
theorem dX8_carryOutPlan_14 : decode cX8_carryOutPlan 14 = .ok (.invokevirtual 296, 3) := by decide +kernel
theorem dX8_carryOutPlan_17 : decode cX8_carryOutPlan 17 = .ok (.astore_n 3, 1) := by decide +kernel
theorem dX8_carryOutPlan_18 : decode cX8_carryOutPlan 18 = .ok (.aload_n 3, 1) := by decide +kernel
theorem dX8_carryOutPlan_19 : decode cX8_carryOutPlan 19 = .ok (.ifnull 42, 3) := by decide +kernel
theorem dX8_carryOutPlan_22 : decode cX8_carryOutPlan 22 = .ok (.aload_n 3, 1) := by decide +kernel
theorem dX8_carryOutPlan_23 : decode cX8_carryOutPlan 23 = .ok (.aload_n 0, 1) := by decide +kernel
theorem dX8_carryOutPlan_24 : decode cX8_carryOutPlan 24 = .ok (.aload_n 0, 1) := by decide +kernel
theorem dX8_carryOutPlan_25 : decode cX8_carryOutPlan 25 = .ok (.getfield 52, 3) := by decide +kernel
theorem dX8_carryOutPlan_28 : decode cX8_carryOutPlan 28 = .ok (.iload_n 2, 1) := by decide +kernel
theorem dX8_carryOutPlan_29 : decode cX8_carryOutPlan 29 = .ok (.invokevirtual 303, 3) := by decide +kernel
theorem dX8_carryOutPlan_32 : decode cX8_carryOutPlan 32 = .ok (.invokevirtual 123, 3) := by decide +kernel
theorem dX8_carryOutPlan_35 : decode cX8_carryOutPlan 35 = .ok (.putfield 183, 3) := by decide +kernel
theorem dX8_carryOutPlan_38 : decode cX8_carryOutPlan 38 = .ok (.aload_n 3, 1) := by decide +kernel
theorem dX8_carryOutPlan_39 : decode cX8_carryOutPlan 39 = .ok (.getfield 183, 3) := by decide +kernel
theorem dX8_carryOutPlan_42 : decode cX8_carryOutPlan 42 = .ok (.ifnonnull 11, 3) := by decide +kernel
theorem dX8_carryOutPlan_45 : decode cX8_carryOutPlan 45 = .ok (.aload_n 0, 1) := by decide +kernel
theorem dX8_carryOutPlan_46 : decode cX8_carryOutPlan 46 = .ok (.aload_n 3, 1) := by decide +kernel
theorem dX8_carryOutPlan_47 : decode cX8_carryOutPlan 47 = .ok (.invokevirtual 306, 3) := by decide +kernel
theorem dX8_carryOutPlan_50 : decode cX8_carryOutPlan 50 = .ok (.goto 11, 3) := by decide +kernel
theorem dX8_carryOutPlan_53 : decode cX8_carryOutPlan 53 = .ok (.aload_n 3, 1) := by decide +kernel
theorem dX8_carryOutPlan_54 : decode cX8_carryOutPlan 54 = .ok (.iconst 1, 1) := by decide +kernel
theorem dX8_carryOutPlan_55 : decode cX8_carryOutPlan 55 = .ok (.putfield 162, 3) := by decide +kernel
theorem dX8_carryOutPlan_58 : decode cX8_carryOutPlan 58 = .ok (.iinc 1 1, 3) := by decide +kernel
theorem dX8_carryOutPlan_61 : decode cX8_carryOutPlan 61 = .ok (.iinc 2 1, 3) := by decide +kernel
theorem dX8_carryOutPlan_64 : decode cX8_carryOutPlan 64 = .ok (.goto (-60), 3) := by decide +kernel
theorem dX8_carryOutPlan_67 : decode cX8_carryOutPlan 67 = .ok (.iload_n 1, 1) := by decide +kernel
theorem dX8_carryOutPlan_68 : decode cX8_carryOutPlan 68 = .ok (.ireturn, 1) := by decide +kernel
theorem dX8_refuse_0 : decode cX8_refuse 0 = .ok (.aload_n 1, 1) := by decide +kernel
theorem dX8_refuse_1 : decode cX8_refuse 1 = .ok (.iconst 2, 1) := by decide +kernel
theorem dX8_refuse_2 : decode cX8_refuse 2 = .ok (.putfield 162, 3) := by decide +kernel
theorem dX8_refuse_5 : decode cX8_refuse 5 = .ok (.iconst 0, 1) := by decide +kernel
theorem dX8_refuse_6 : decode cX8_refuse 6 = .ok (.istore_n 2, 1) := by decide +kernel
theorem dX8_refuse_7 : decode cX8_refuse 7 = .ok (.iload_n 2, 1) := by decide +kernel
theorem dX8_refuse_8 : decode cX8_refuse 8 = .ok (.aload_n 0, 1) := by decide +kernel
theorem dX8_refuse_9 : decode cX8_refuse 9 = .ok (.getfield 25, 3) := by decide +kernel
theorem dX8_refuse_12 : decode cX8_refuse 12 = .ok (.invokevirtual 60, 3) := by decide +kernel
theorem dX8_refuse_15 : decode cX8_refuse 15 = .ok (.if_icmp .ge 30, 3) := by decide +kernel
theorem dX8_refuse_18 : decode cX8_refuse 18 = .ok (.aload_n 0, 1) := by decide +kernel
theorem dX8_refuse_19 : decode cX8_refuse 19 = .ok (.getfield 25, 3) := by decide +kernel
theorem dX8_refuse_22 : decode cX8_refuse 22 = .ok (.iload_n 2, 1) := by decide +kernel
theorem dX8_refuse_23 : decode cX8_refuse 23 = .ok (.invokevirtual 158, 3) := by decide +kernel
theorem dX8_refuse_26 : decode cX8_refuse 26 = .ok (.checkcast 150, 3) := by decide +kernel
theorem dX8_refuse_29 : decode cX8_refuse 29 = .ok (.getfield 198, 3) := by decide +kernel
theorem dX8_refuse_32 : decode cX8_refuse 32 = .ok (.aload_n 1, 1) := by decide +kernel
theorem dX8_refuse_33 : decode cX8_refuse 33 = .ok (.getfield 198, 3) := by decide +kernel
theorem dX8_refuse_36 : decode cX8_refuse 36 = .ok (.if_icmp .gt 9, 3) := by decide +kernel
theorem dX8_refuse_39 : decode cX8_refuse 39 = .ok (.iinc 2 1, 3) := by decide +kernel
theorem dX8_refuse_42 : decode cX8_refuse 42 = .ok (.goto (-35), 3) := by decide +kernel
theorem dX8_refuse_45 : decode cX8_refuse 45 = .ok (.aload_n 0, 1) := by decide +kernel
theorem dX8_refuse_46 : decode cX8_refuse 46 = .ok (.getfield 25, 3) := by decide +kernel
theorem dX8_refuse_49 : decode cX8_refuse 49 = .ok (.iload_n 2, 1) := by decide +kernel
theorem dX8_refuse_50 : decode cX8_refuse 50 = .ok (.aload_n 1, 1) := by decide +kernel
theorem dX8_refuse_51 : decode cX8_refuse 51 = .ok (.invokevirtual 309, 3) := by decide +kernel
theorem dX8_refuse_54 : decode cX8_refuse 54 = .ok (.return_, 1) := by decide +kernel
theorem dX8_hindranceOf_0 : decode cX8_hindranceOf 0 = .ok (.aload_n 0, 1) := by decide +kernel
theorem dX8_hindranceOf_1 : decode cX8_hindranceOf 1 = .ok (.getfield 56, 3) := by decide +kernel
theorem dX8_hindranceOf_4 : decode cX8_hindranceOf 4 = .ok (.aload_n 1, 1) := by decide +kernel
theorem dX8_hindranceOf_5 : decode cX8_hindranceOf 5 = .ok (.getfield 207, 3) := by decide +kernel
theorem dX8_hindranceOf_8 : decode cX8_hindranceOf 8 = .ok (.if_icmp .ge 6, 3) := by decide +kernel
theorem dX8_hindranceOf_11 : decode cX8_hindranceOf 11 = .ok (.bipush (-2), 2) := by decide +kernel
theorem dX8_hindranceOf_13 : decode cX8_hindranceOf 13 = .ok (.ireturn, 1) := by decide +kernel
theorem dX8_hindranceOf_14 : decode cX8_hindranceOf 14 = .ok (.aload_n 1, 1) := by decide +kernel
theorem dX8_hindranceOf_15 : decode cX8_hindranceOf 15 = .ok (.getfield 191, 3) := by decide +kernel
theorem dX8_hindranceOf_18 : decode cX8_hindranceOf 18 = .ok (.getfield 227, 3) := by decide +kernel
theorem dX8_hindranceOf_21 : decode cX8_hindranceOf 21 = .ok (.bipush 40, 2) := by decide +kernel
theorem dX8_hindranceOf_23 : decode cX8_hindranceOf 23 = .ok (.if_icmp .le 6, 3) := by decide +kernel
theorem dX8_hindranceOf_26 : decode cX8_hindranceOf 26 = .ok (.bipush (-3), 2) := by decide +kernel
theorem dX8_hindranceOf_28 : decode cX8_hindranceOf 28 = .ok (.ireturn, 1) := by decide +kernel
theorem dX8_hindranceOf_29 : decode cX8_hindranceOf 29 = .ok (.aload_n 2, 1) := by decide +kernel
theorem dX8_hindranceOf_30 : decode cX8_hindranceOf 30 = .ok (.getfield 127, 3) := by decide +kernel
theorem dX8_hindranceOf_33 : decode cX8_hindranceOf 33 = .ok (.ifnull 6, 3) := by decide +kernel
theorem dX8_hindranceOf_36 : decode cX8_hindranceOf 36 = .ok (.bipush (-4), 2) := by decide +kernel
theorem dX8_hindranceOf_38 : decode cX8_hindranceOf 38 = .ok (.ireturn, 1) := by decide +kernel
theorem dX8_hindranceOf_39 : decode cX8_hindranceOf 39 = .ok (.aload_n 0, 1) := by decide +kernel
theorem dX8_hindranceOf_40 : decode cX8_hindranceOf 40 = .ok (.getfield 45, 3) := by decide +kernel
theorem dX8_hindranceOf_43 : decode cX8_hindranceOf 43 = .ok (.aload_n 2, 1) := by decide +kernel
theorem dX8_hindranceOf_44 : decode cX8_hindranceOf 44 = .ok (.aload_n 1, 1) := by decide +kernel
theorem dX8_hindranceOf_45 : decode cX8_hindranceOf 45 = .ok (.getfield 198, 3) := by decide +kernel
theorem dX8_hindranceOf_48 : decode cX8_hindranceOf 48 = .ok (.invokevirtual 134, 3) := by decide +kernel
theorem dX8_hindranceOf_51 : decode cX8_hindranceOf 51 = .ok (.ifCond .ne 6, 3) := by decide +kernel
theorem dX8_hindranceOf_54 : decode cX8_hindranceOf 54 = .ok (.bipush (-5), 2) := by decide +kernel
theorem dX8_hindranceOf_56 : decode cX8_hindranceOf 56 = .ok (.ireturn, 1) := by decide +kernel
theorem dX8_hindranceOf_57 : decode cX8_hindranceOf 57 = .ok (.aload_n 2, 1) := by decide +kernel
theorem dX8_hindranceOf_58 : decode cX8_hindranceOf 58 = .ok (.aload_n 0, 1) := by decide +kernel
theorem dX8_hindranceOf_59 : decode cX8_hindranceOf 59 = .ok (.getfield 56, 3) := by decide +kernel
theorem dX8_hindranceOf_62 : decode cX8_hindranceOf 62 = .ok (.invokevirtual 312, 3) := by decide +kernel
theorem dX8_hindranceOf_65 : decode cX8_hindranceOf 65 = .ok (.ifCond .eq 7, 3) := by decide +kernel
theorem dX8_hindranceOf_68 : decode cX8_hindranceOf 68 = .ok (.iconst 0, 1) := by decide +kernel
theorem dX8_hindranceOf_69 : decode cX8_hindranceOf 69 = .ok (.goto 5, 3) := by decide +kernel
theorem dX8_hindranceOf_72 : decode cX8_hindranceOf 72 = .ok (.bipush (-6), 2) := by decide +kernel
theorem dX8_hindranceOf_74 : decode cX8_hindranceOf 74 = .ok (.ireturn, 1) := by decide +kernel
theorem dX8_loseWhatIsOver_0 : decode cX8_loseWhatIsOver 0 = .ok (.iconst 0, 1) := by decide +kernel
theorem dX8_loseWhatIsOver_1 : decode cX8_loseWhatIsOver 1 = .ok (.istore_n 1, 1) := by decide +kernel
theorem dX8_loseWhatIsOver_2 : decode cX8_loseWhatIsOver 2 = .ok (.iload_n 1, 1) := by decide +kernel
theorem dX8_loseWhatIsOver_3 : decode cX8_loseWhatIsOver 3 = .ok (.aload_n 0, 1) := by decide +kernel
theorem dX8_loseWhatIsOver_4 : decode cX8_loseWhatIsOver 4 = .ok (.getfield 22, 3) := by decide +kernel
theorem dX8_loseWhatIsOver_7 : decode cX8_loseWhatIsOver 7 = .ok (.invokevirtual 60, 3) := by decide +kernel
theorem dX8_loseWhatIsOver_10 : decode cX8_loseWhatIsOver 10 = .ok (.if_icmp .ge 45, 3) := by decide +kernel
theorem dX8_loseWhatIsOver_13 : decode cX8_loseWhatIsOver 13 = .ok (.aload_n 0, 1) := by decide +kernel
theorem dX8_loseWhatIsOver_14 : decode cX8_loseWhatIsOver 14 = .ok (.getfield 22, 3) := by decide +kernel
theorem dX8_loseWhatIsOver_17 : decode cX8_loseWhatIsOver 17 = .ok (.iload_n 1, 1) := by decide +kernel
theorem dX8_loseWhatIsOver_18 : decode cX8_loseWhatIsOver 18 = .ok (.invokevirtual 158, 3) := by decide +kernel
theorem dX8_loseWhatIsOver_21 : decode cX8_loseWhatIsOver 21 = .ok (.checkcast 150, 3) := by decide +kernel
theorem dX8_loseWhatIsOver_24 : decode cX8_loseWhatIsOver 24 = .ok (.astore_n 2, 1) := by decide +kernel
theorem dX8_loseWhatIsOver_25 : decode cX8_loseWhatIsOver 25 = .ok (.aload_n 2, 1) := by decide +kernel
theorem dX8_loseWhatIsOver_26 : decode cX8_loseWhatIsOver 26 = .ok (.getfield 162, 3) := by decide +kernel
theorem dX8_loseWhatIsOver_29 : decode cX8_loseWhatIsOver 29 = .ok (.iconst 1, 1) := by decide +kernel
theorem dX8_loseWhatIsOver_30 : decode cX8_loseWhatIsOver 30 = .ok (.if_icmp .ne 19, 3) := by decide +kernel
theorem dX8_loseWhatIsOver_33 : decode cX8_loseWhatIsOver 33 = .ok (.aload_n 2, 1) := by decide +kernel
theorem dX8_loseWhatIsOver_34 : decode cX8_loseWhatIsOver 34 = .ok (.getfield 198, 3) := by decide +kernel
theorem dX8_loseWhatIsOver_37 : decode cX8_loseWhatIsOver 37 = .ok (.aload_n 0, 1) := by decide +kernel
theorem dX8_loseWhatIsOver_38 : decode cX8_loseWhatIsOver 38 = .ok (.getfield 56, 3) := by decide +kernel
theorem dX8_loseWhatIsOver_41 : decode cX8_loseWhatIsOver 41 = .ok (.if_icmp .ge 8, 3) := by decide +kernel
theorem dX8_loseWhatIsOver_44 : decode cX8_loseWhatIsOver 44 = .ok (.aload_n 2, 1) := by decide +kernel
theorem dX8_loseWhatIsOver_45 : decode cX8_loseWhatIsOver 45 = .ok (.iconst 5, 1) := by decide +kernel
theorem dX8_loseWhatIsOver_46 : decode cX8_loseWhatIsOver 46 = .ok (.putfield 162, 3) := by decide +kernel
theorem dX8_loseWhatIsOver_49 : decode cX8_loseWhatIsOver 49 = .ok (.iinc 1 1, 3) := by decide +kernel
theorem dX8_loseWhatIsOver_52 : decode cX8_loseWhatIsOver 52 = .ok (.goto (-50), 3) := by decide +kernel
theorem dX8_loseWhatIsOver_55 : decode cX8_loseWhatIsOver 55 = .ok (.return_, 1) := by decide +kernel
theorem dX8_moveFromLateThings_0 : decode cX8_moveFromLateThings 0 = .ok (.iconst 0, 1) := by decide +kernel
theorem dX8_moveFromLateThings_1 : decode cX8_moveFromLateThings 1 = .ok (.istore_n 1, 1) := by decide +kernel
theorem dX8_moveFromLateThings_2 : decode cX8_moveFromLateThings 2 = .ok (.iload_n 1, 1) := by decide +kernel
theorem dX8_moveFromLateThings_3 : decode cX8_moveFromLateThings 3 = .ok (.aload_n 0, 1) := by decide +kernel
theorem dX8_moveFromLateThings_4 : decode cX8_moveFromLateThings 4 = .ok (.getfield 22, 3) := by decide +kernel
theorem dX8_moveFromLateThings_7 : decode cX8_moveFromLateThings 7 = .ok (.invokevirtual 60, 3) := by decide +kernel
theorem dX8_moveFromLateThings_10 : decode cX8_moveFromLateThings 10 = .ok (.if_icmp .ge 52, 3) := by decide +kernel
theorem dX8_moveFromLateThings_13 : decode cX8_moveFromLateThings 13 = .ok (.aload_n 0, 1) := by decide +kernel
theorem dX8_moveFromLateThings_14 : decode cX8_moveFromLateThings 14 = .ok (.invokevirtual 315, 3) := by decide +kernel
theorem dX8_moveFromLateThings_17 : decode cX8_moveFromLateThings 17 = .ok (.astore_n 2, 1) := by decide +kernel
theorem dX8_moveFromLateThings_18 : decode cX8_moveFromLateThings 18 = .ok (.aload_n 2, 1) := by decide +kernel
theorem dX8_moveFromLateThings_19 : decode cX8_moveFromLateThings 19 = .ok (.ifnonnull 4, 3) := by decide +kernel
theorem dX8_moveFromLateThings_22 : decode cX8_moveFromLateThings 22 = .ok (.return_, 1) := by decide +kernel
theorem dX8_moveFromLateThings_23 : decode cX8_moveFromLateThings 23 = .ok (.aload_n 0, 1) := by decide +kernel
theorem dX8_moveFromLateThings_24 : decode cX8_moveFromLateThings 24 = .ok (.aload_n 2, 1) := by decide +kernel
theorem dX8_moveFromLateThings_25 : decode cX8_moveFromLateThings 25 = .ok (.invokevirtual 319, 3) := by decide +kernel
theorem dX8_moveFromLateThings_28 : decode cX8_moveFromLateThings 28 = .ok (.astore_n 3, 1) := by decide +kernel
theorem dX8_moveFromLateThings_29 : decode cX8_moveFromLateThings 29 = .ok (.aload_n 3, 1) := by decide +kernel
theorem dX8_moveFromLateThings_30 : decode cX8_moveFromLateThings 30 = .ok (.ifnonnull 11, 3) := by decide +kernel
theorem dX8_moveFromLateThings_33 : decode cX8_moveFromLateThings 33 = .ok (.aload_n 2, 1) := by decide +kernel
theorem dX8_moveFromLateThings_34 : decode cX8_moveFromLateThings 34 = .ok (.iconst 5, 1) := by decide +kernel
theorem dX8_moveFromLateThings_35 : decode cX8_moveFromLateThings 35 = .ok (.putfield 162, 3) := by decide +kernel
theorem dX8_moveFromLateThings_38 : decode cX8_moveFromLateThings 38 = .ok (.goto 18, 3) := by decide +kernel
theorem dX8_moveFromLateThings_41 : decode cX8_moveFromLateThings 41 = .ok (.aload_n 2, 1) := by decide +kernel
theorem dX8_moveFromLateThings_42 : decode cX8_moveFromLateThings 42 = .ok (.aload_n 3, 1) := by decide +kernel
theorem dX8_moveFromLateThings_43 : decode cX8_moveFromLateThings 43 = .ok (.putfield 183, 3) := by decide +kernel
theorem dX8_moveFromLateThings_46 : decode cX8_moveFromLateThings 46 = .ok (.aload_n 2, 1) := by decide +kernel
theorem dX8_moveFromLateThings_47 : decode cX8_moveFromLateThings 47 = .ok (.dup, 1) := by decide +kernel
theorem dX8_moveFromLateThings_48 : decode cX8_moveFromLateThings 48 = .ok (.getfield 253, 3) := by decide +kernel
theorem dX8_moveFromLateThings_51 : decode cX8_moveFromLateThings 51 = .ok (.iconst 1, 1) := by decide +kernel
theorem dX8_moveFromLateThings_52 : decode cX8_moveFromLateThings 52 = .ok (.iadd, 1) := by decide +kernel
theorem dX8_moveFromLateThings_53 : decode cX8_moveFromLateThings 53 = .ok (.putfield 253, 3) := by decide +kernel
theorem dX8_moveFromLateThings_56 : decode cX8_moveFromLateThings 56 = .ok (.iinc 1 1, 3) := by decide +kernel
theorem dX8_moveFromLateThings_59 : decode cX8_moveFromLateThings 59 = .ok (.goto (-57), 3) := by decide +kernel
theorem dX8_moveFromLateThings_62 : decode cX8_moveFromLateThings 62 = .ok (.return_, 1) := by decide +kernel
theorem dX8_nextToMove_0 : decode cX8_nextToMove 0 = .ok (.aconst_null, 1) := by decide +kernel
theorem dX8_nextToMove_1 : decode cX8_nextToMove 1 = .ok (.astore_n 1, 1) := by decide +kernel
theorem dX8_nextToMove_2 : decode cX8_nextToMove 2 = .ok (.iconst 0, 1) := by decide +kernel
theorem dX8_nextToMove_3 : decode cX8_nextToMove 3 = .ok (.istore_n 2, 1) := by decide +kernel
theorem dX8_nextToMove_4 : decode cX8_nextToMove 4 = .ok (.iload_n 2, 1) := by decide +kernel
theorem dX8_nextToMove_5 : decode cX8_nextToMove 5 = .ok (.aload_n 0, 1) := by decide +kernel
theorem dX8_nextToMove_6 : decode cX8_nextToMove 6 = .ok (.getfield 22, 3) := by decide +kernel
theorem dX8_nextToMove_9 : decode cX8_nextToMove 9 = .ok (.invokevirtual 60, 3) := by decide +kernel
theorem dX8_nextToMove_12 : decode cX8_nextToMove 12 = .ok (.if_icmp .ge 43, 3) := by decide +kernel
theorem dX8_nextToMove_15 : decode cX8_nextToMove 15 = .ok (.aload_n 0, 1) := by decide +kernel
theorem dX8_nextToMove_16 : decode cX8_nextToMove 16 = .ok (.getfield 22, 3) := by decide +kernel
theorem dX8_nextToMove_19 : decode cX8_nextToMove 19 = .ok (.iload_n 2, 1) := by decide +kernel
theorem dX8_nextToMove_20 : decode cX8_nextToMove 20 = .ok (.invokevirtual 158, 3) := by decide +kernel
theorem dX8_nextToMove_23 : decode cX8_nextToMove 23 = .ok (.checkcast 150, 3) := by decide +kernel
theorem dX8_nextToMove_26 : decode cX8_nextToMove 26 = .ok (.astore_n 3, 1) := by decide +kernel
theorem dX8_nextToMove_27 : decode cX8_nextToMove 27 = .ok (.aload_n 0, 1) := by decide +kernel
theorem dX8_nextToMove_28 : decode cX8_nextToMove 28 = .ok (.aload_n 3, 1) := by decide +kernel
theorem dX8_nextToMove_29 : decode cX8_nextToMove 29 = .ok (.invokevirtual 323, 3) := by decide +kernel
theorem dX8_nextToMove_32 : decode cX8_nextToMove 32 = .ok (.ifCond .eq 17, 3) := by decide +kernel
theorem dX8_nextToMove_35 : decode cX8_nextToMove 35 = .ok (.aload_n 1, 1) := by decide +kernel
theorem dX8_nextToMove_36 : decode cX8_nextToMove 36 = .ok (.ifnull 11, 3) := by decide +kernel
theorem dX8_nextToMove_39 : decode cX8_nextToMove 39 = .ok (.aload_n 3, 1) := by decide +kernel
theorem dX8_nextToMove_40 : decode cX8_nextToMove 40 = .ok (.aload_n 1, 1) := by decide +kernel
theorem dX8_nextToMove_41 : decode cX8_nextToMove 41 = .ok (.invokevirtual 326, 3) := by decide +kernel
theorem dX8_nextToMove_44 : decode cX8_nextToMove 44 = .ok (.ifCond .eq 5, 3) := by decide +kernel
theorem dX8_nextToMove_47 : decode cX8_nextToMove 47 = .ok (.aload_n 3, 1) := by decide +kernel
theorem dX8_nextToMove_48 : decode cX8_nextToMove 48 = .ok (.astore_n 1, 1) := by decide +kernel
theorem dX8_nextToMove_49 : decode cX8_nextToMove 49 = .ok (.iinc 2 1, 3) := by decide +kernel
theorem dX8_nextToMove_52 : decode cX8_nextToMove 52 = .ok (.goto (-48), 3) := by decide +kernel
theorem dX8_nextToMove_55 : decode cX8_nextToMove 55 = .ok (.aload_n 1, 1) := by decide +kernel
theorem dX8_nextToMove_56 : decode cX8_nextToMove 56 = .ok (.areturn, 1) := by decide +kernel
theorem dX8_mustMove_0 : decode cX8_mustMove 0 = .ok (.aload_n 1, 1) := by decide +kernel
theorem dX8_mustMove_1 : decode cX8_mustMove 1 = .ok (.getfield 162, 3) := by decide +kernel
theorem dX8_mustMove_4 : decode cX8_mustMove 4 = .ok (.iconst 1, 1) := by decide +kernel
theorem dX8_mustMove_5 : decode cX8_mustMove 5 = .ok (.if_icmp .ne 40, 3) := by decide +kernel
theorem dX8_mustMove_8 : decode cX8_mustMove 8 = .ok (.aload_n 1, 1) := by decide +kernel
theorem dX8_mustMove_9 : decode cX8_mustMove 9 = .ok (.getfield 183, 3) := by decide +kernel
theorem dX8_mustMove_12 : decode cX8_mustMove 12 = .ok (.ifnull 33, 3) := by decide +kernel
theorem dX8_mustMove_15 : decode cX8_mustMove 15 = .ok (.aload_n 1, 1) := by decide +kernel
theorem dX8_mustMove_16 : decode cX8_mustMove 16 = .ok (.getfield 183, 3) := by decide +kernel
theorem dX8_mustMove_19 : decode cX8_mustMove 19 = .ok (.aload_n 0, 1) := by decide +kernel
theorem dX8_mustMove_20 : decode cX8_mustMove 20 = .ok (.getfield 56, 3) := by decide +kernel
theorem dX8_mustMove_23 : decode cX8_mustMove 23 = .ok (.invokevirtual 265, 3) := by decide +kernel
theorem dX8_mustMove_26 : decode cX8_mustMove 26 = .ok (.ifCond .eq 19, 3) := by decide +kernel
theorem dX8_mustMove_29 : decode cX8_mustMove 29 = .ok (.aload_n 0, 1) := by decide +kernel
theorem dX8_mustMove_30 : decode cX8_mustMove 30 = .ok (.aload_n 1, 1) := by decide +kernel
theorem dX8_mustMove_31 : decode cX8_mustMove 31 = .ok (.aload_n 1, 1) := by decide +kernel
theorem dX8_mustMove_32 : decode cX8_mustMove 32 = .ok (.getfield 183, 3) := by decide +kernel
theorem dX8_mustMove_35 : decode cX8_mustMove 35 = .ok (.invokevirtual 299, 3) := by decide +kernel
theorem dX8_mustMove_38 : decode cX8_mustMove 38 = .ok (.ifCond .ne 7, 3) := by decide +kernel
theorem dX8_mustMove_41 : decode cX8_mustMove 41 = .ok (.iconst 1, 1) := by decide +kernel
theorem dX8_mustMove_42 : decode cX8_mustMove 42 = .ok (.goto 4, 3) := by decide +kernel
theorem dX8_mustMove_45 : decode cX8_mustMove 45 = .ok (.iconst 0, 1) := by decide +kernel
theorem dX8_mustMove_46 : decode cX8_mustMove 46 = .ok (.ireturn, 1) := by decide +kernel
theorem dX8_firstOtherThingFor_0 : decode cX8_firstOtherThingFor 0 = .ok (.iconst 0, 1) := by decide +kernel
theorem dX8_firstOtherThingFor_1 : decode cX8_firstOtherThingFor 1 = .ok (.istore_n 2, 1) := by decide +kernel
theorem dX8_firstOtherThingFor_2 : decode cX8_firstOtherThingFor 2 = .ok (.iload_n 2, 1) := by decide +kernel
theorem dX8_firstOtherThingFor_3 : decode cX8_firstOtherThingFor 3 = .ok (.aload_n 0, 1) := by decide +kernel
theorem dX8_firstOtherThingFor_4 : decode cX8_firstOtherThingFor 4 = .ok (.getfield 16, 3) := by decide +kernel
theorem dX8_firstOtherThingFor_7 : decode cX8_firstOtherThingFor 7 = .ok (.invokevirtual 60, 3) := by decide +kernel
theorem dX8_firstOtherThingFor_10 : decode cX8_firstOtherThingFor 10 = .ok (.if_icmp .ge 62, 3) := by decide +kernel
theorem dX8_firstOtherThingFor_13 : decode cX8_firstOtherThingFor 13 = .ok (.aload_n 0, 1) := by decide +kernel
theorem dX8_firstOtherThingFor_14 : decode cX8_firstOtherThingFor 14 = .ok (.getfield 16, 3) := by decide +kernel
theorem dX8_firstOtherThingFor_17 : decode cX8_firstOtherThingFor 17 = .ok (.iload_n 2, 1) := by decide +kernel
theorem dX8_firstOtherThingFor_18 : decode cX8_firstOtherThingFor 18 = .ok (.invokevirtual 158, 3) := by decide +kernel
theorem dX8_firstOtherThingFor_21 : decode cX8_firstOtherThingFor 21 = .ok (.checkcast 81, 3) := by decide +kernel
theorem dX8_firstOtherThingFor_24 : decode cX8_firstOtherThingFor 24 = .ok (.astore_n 3, 1) := by decide +kernel
theorem dX8_firstOtherThingFor_25 : decode cX8_firstOtherThingFor 25 = .ok (.aload_n 3, 1) := by decide +kernel
theorem dX8_firstOtherThingFor_26 : decode cX8_firstOtherThingFor 26 = .ok (.aload_n 1, 1) := by decide +kernel
theorem dX8_firstOtherThingFor_27 : decode cX8_firstOtherThingFor 27 = .ok (.getfield 183, 3) := by decide +kernel
theorem dX8_firstOtherThingFor_30 : decode cX8_firstOtherThingFor 30 = .ok (.if_acmp .eq 36, 3) := by decide +kernel
theorem dX8_firstOtherThingFor_33 : decode cX8_firstOtherThingFor 33 = .ok (.aload_n 3, 1) := by decide +kernel
theorem dX8_firstOtherThingFor_34 : decode cX8_firstOtherThingFor 34 = .ok (.aload_n 0, 1) := by decide +kernel
theorem dX8_firstOtherThingFor_35 : decode cX8_firstOtherThingFor 35 = .ok (.getfield 56, 3) := by decide +kernel
theorem dX8_firstOtherThingFor_38 : decode cX8_firstOtherThingFor 38 = .ok (.invokevirtual 265, 3) := by decide +kernel
theorem dX8_firstOtherThingFor_41 : decode cX8_firstOtherThingFor 41 = .ok (.ifCond .ne 25, 3) := by decide +kernel
theorem dX8_firstOtherThingFor_44 : decode cX8_firstOtherThingFor 44 = .ok (.aload_n 3, 1) := by decide +kernel
theorem dX8_firstOtherThingFor_45 : decode cX8_firstOtherThingFor 45 = .ok (.getfield 210, 3) := by decide +kernel
theorem dX8_firstOtherThingFor_48 : decode cX8_firstOtherThingFor 48 = .ok (.aload_n 1, 1) := by decide +kernel
theorem dX8_firstOtherThingFor_49 : decode cX8_firstOtherThingFor 49 = .ok (.invokevirtual 236, 3) := by decide +kernel
theorem dX8_firstOtherThingFor_52 : decode cX8_firstOtherThingFor 52 = .ok (.ifCond .eq 14, 3) := by decide +kernel
theorem dX8_firstOtherThingFor_55 : decode cX8_firstOtherThingFor 55 = .ok (.aload_n 0, 1) := by decide +kernel
theorem dX8_firstOtherThingFor_56 : decode cX8_firstOtherThingFor 56 = .ok (.aload_n 1, 1) := by decide +kernel
theorem dX8_firstOtherThingFor_57 : decode cX8_firstOtherThingFor 57 = .ok (.aload_n 3, 1) := by decide +kernel
theorem dX8_firstOtherThingFor_58 : decode cX8_firstOtherThingFor 58 = .ok (.invokevirtual 299, 3) := by decide +kernel
theorem dX8_firstOtherThingFor_61 : decode cX8_firstOtherThingFor 61 = .ok (.ifCond .eq 5, 3) := by decide +kernel
theorem dX8_firstOtherThingFor_64 : decode cX8_firstOtherThingFor 64 = .ok (.aload_n 3, 1) := by decide +kernel
theorem dX8_firstOtherThingFor_65 : decode cX8_firstOtherThingFor 65 = .ok (.areturn, 1) := by decide +kernel
theorem dX8_firstOtherThingFor_66 : decode cX8_firstOtherThingFor 66 = .ok (.iinc 2 1, 3) := by decide +kernel
theorem dX8_firstOtherThingFor_69 : decode cX8_firstOtherThingFor 69 = .ok (.goto (-67), 3) := by decide +kernel
theorem dX8_firstOtherThingFor_72 : decode cX8_firstOtherThingFor 72 = .ok (.aconst_null, 1) := by decide +kernel
theorem dX8_firstOtherThingFor_73 : decode cX8_firstOtherThingFor 73 = .ok (.areturn, 1) := by decide +kernel
theorem dX9_init_0 : decode cX9_init 0 = .ok (.aload_n 0, 1) := by decide +kernel
theorem dX9_init_1 : decode cX9_init 1 = .ok (.invokespecial 1, 3) := by decide +kernel
theorem dX9_init_4 : decode cX9_init 4 = .ok (.aload_n 0, 1) := by decide +kernel
theorem dX9_init_5 : decode cX9_init 5 = .ok (.bipush 8, 2) := by decide +kernel
theorem dX9_init_7 : decode cX9_init 7 = .ok (.newarray .int, 2) := by decide +kernel
theorem dX9_init_9 : decode cX9_init 9 = .ok (.putfield 7, 3) := by decide +kernel
theorem dX9_init_12 : decode cX9_init 12 = .ok (.aload_n 0, 1) := by decide +kernel
theorem dX9_init_13 : decode cX9_init 13 = .ok (.bipush 8, 2) := by decide +kernel
theorem dX9_init_15 : decode cX9_init 15 = .ok (.newarray .int, 2) := by decide +kernel
theorem dX9_init_17 : decode cX9_init 17 = .ok (.putfield 13, 3) := by decide +kernel
theorem dX9_init_20 : decode cX9_init 20 = .ok (.aload_n 0, 1) := by decide +kernel
theorem dX9_init_21 : decode cX9_init 21 = .ok (.bipush 8, 2) := by decide +kernel
theorem dX9_init_23 : decode cX9_init 23 = .ok (.newarray .int, 2) := by decide +kernel
theorem dX9_init_25 : decode cX9_init 25 = .ok (.putfield 16, 3) := by decide +kernel
theorem dX9_init_28 : decode cX9_init 28 = .ok (.aload_n 0, 1) := by decide +kernel
theorem dX9_init_29 : decode cX9_init 29 = .ok (.bipush 12, 2) := by decide +kernel
theorem dX9_init_31 : decode cX9_init 31 = .ok (.newarray .int, 2) := by decide +kernel
theorem dX9_init_33 : decode cX9_init 33 = .ok (.putfield 19, 3) := by decide +kernel
theorem dX9_init_36 : decode cX9_init 36 = .ok (.aload_n 0, 1) := by decide +kernel
theorem dX9_init_37 : decode cX9_init 37 = .ok (.bipush 12, 2) := by decide +kernel
theorem dX9_init_39 : decode cX9_init 39 = .ok (.newarray .int, 2) := by decide +kernel
theorem dX9_init_41 : decode cX9_init 41 = .ok (.putfield 22, 3) := by decide +kernel
theorem dX9_init_44 : decode cX9_init 44 = .ok (.aload_n 0, 1) := by decide +kernel
theorem dX9_init_45 : decode cX9_init 45 = .ok (.bipush 10, 2) := by decide +kernel
theorem dX9_init_47 : decode cX9_init 47 = .ok (.newarray .int, 2) := by decide +kernel
theorem dX9_init_49 : decode cX9_init 49 = .ok (.putfield 25, 3) := by decide +kernel
theorem dX9_init_52 : decode cX9_init 52 = .ok (.aload_n 0, 1) := by decide +kernel
theorem dX9_init_53 : decode cX9_init 53 = .ok (.bipush 10, 2) := by decide +kernel
theorem dX9_init_55 : decode cX9_init 55 = .ok (.newarray .int, 2) := by decide +kernel
theorem dX9_init_57 : decode cX9_init 57 = .ok (.putfield 28, 3) := by decide +kernel
theorem dX9_init_60 : decode cX9_init 60 = .ok (.aload_n 0, 1) := by decide +kernel
theorem dX9_init_61 : decode cX9_init 61 = .ok (.sipush 200, 3) := by decide +kernel
theorem dX9_init_64 : decode cX9_init 64 = .ok (.newarray .byte, 2) := by decide +kernel
theorem dX9_init_66 : decode cX9_init 66 = .ok (.putfield 31, 3) := by decide +kernel
theorem dX9_init_69 : decode cX9_init 69 = .ok (.aload_n 0, 1) := by decide +kernel
theorem dX9_init_70 : decode cX9_init 70 = .ok (.bipush 8, 2) := by decide +kernel
theorem dX9_init_72 : decode cX9_init 72 = .ok (.newarray .int, 2) := by decide +kernel
theorem dX9_init_74 : decode cX9_init 74 = .ok (.putfield 35, 3) := by decide +kernel
theorem dX9_init_77 : decode cX9_init 77 = .ok (.aload_n 0, 1) := by decide +kernel
theorem dX9_init_78 : decode cX9_init 78 = .ok (.bipush 8, 2) := by decide +kernel
theorem dX9_init_80 : decode cX9_init 80 = .ok (.newarray .int, 2) := by decide +kernel
theorem dX9_init_82 : decode cX9_init 82 = .ok (.putfield 38, 3) := by decide +kernel
theorem dX9_init_85 : decode cX9_init 85 = .ok (.aload_n 0, 1) := by decide +kernel
theorem dX9_init_86 : decode cX9_init 86 = .ok (.iconst (-1), 1) := by decide +kernel
theorem dX9_init_87 : decode cX9_init 87 = .ok (.putfield 41, 3) := by decide +kernel
theorem dX9_init_90 : decode cX9_init 90 = .ok (.aload_n 0, 1) := by decide +kernel
theorem dX9_init_91 : decode cX9_init 91 = .ok (.bipush 120, 2) := by decide +kernel
theorem dX9_init_93 : decode cX9_init 93 = .ok (.newarray .int, 2) := by decide +kernel
theorem dX9_init_95 : decode cX9_init 95 = .ok (.putfield 45, 3) := by decide +kernel
theorem dX9_init_98 : decode cX9_init 98 = .ok (.aload_n 0, 1) := by decide +kernel
theorem dX9_init_99 : decode cX9_init 99 = .ok (.bipush 120, 2) := by decide +kernel
theorem dX9_init_101 : decode cX9_init 101 = .ok (.newarray .int, 2) := by decide +kernel
theorem dX9_init_103 : decode cX9_init 103 = .ok (.putfield 48, 3) := by decide +kernel
theorem dX9_init_106 : decode cX9_init 106 = .ok (.aload_n 0, 1) := by decide +kernel
theorem dX9_init_107 : decode cX9_init 107 = .ok (.bipush 120, 2) := by decide +kernel
theorem dX9_init_109 : decode cX9_init 109 = .ok (.newarray .int, 2) := by decide +kernel
theorem dX9_init_111 : decode cX9_init 111 = .ok (.putfield 51, 3) := by decide +kernel
theorem dX9_init_114 : decode cX9_init 114 = .ok (.aload_n 0, 1) := by decide +kernel
theorem dX9_init_115 : decode cX9_init 115 = .ok (.bipush 120, 2) := by decide +kernel
theorem dX9_init_117 : decode cX9_init 117 = .ok (.newarray .int, 2) := by decide +kernel
theorem dX9_init_119 : decode cX9_init 119 = .ok (.putfield 54, 3) := by decide +kernel
theorem dX9_init_122 : decode cX9_init 122 = .ok (.aload_n 0, 1) := by decide +kernel
theorem dX9_init_123 : decode cX9_init 123 = .ok (.bipush 120, 2) := by decide +kernel
theorem dX9_init_125 : decode cX9_init 125 = .ok (.newarray .int, 2) := by decide +kernel
theorem dX9_init_127 : decode cX9_init 127 = .ok (.putfield 57, 3) := by decide +kernel
theorem dX9_init_130 : decode cX9_init 130 = .ok (.aload_n 0, 1) := by decide +kernel
theorem dX9_init_131 : decode cX9_init 131 = .ok (.bipush 120, 2) := by decide +kernel
theorem dX9_init_133 : decode cX9_init 133 = .ok (.newarray .int, 2) := by decide +kernel
theorem dX9_init_135 : decode cX9_init 135 = .ok (.putfield 60, 3) := by decide +kernel
theorem dX9_init_138 : decode cX9_init 138 = .ok (.aload_n 0, 1) := by decide +kernel
theorem dX9_init_139 : decode cX9_init 139 = .ok (.bipush 120, 2) := by decide +kernel
theorem dX9_init_141 : decode cX9_init 141 = .ok (.newarray .int, 2) := by decide +kernel
theorem dX9_init_143 : decode cX9_init 143 = .ok (.putfield 63, 3) := by decide +kernel
theorem dX9_init_146 : decode cX9_init 146 = .ok (.aload_n 0, 1) := by decide +kernel
theorem dX9_init_147 : decode cX9_init 147 = .ok (.bipush 120, 2) := by decide +kernel
theorem dX9_init_149 : decode cX9_init 149 = .ok (.newarray .int, 2) := by decide +kernel
theorem dX9_init_151 : decode cX9_init 151 = .ok (.putfield 66, 3) := by decide +kernel
theorem dX9_init_154 : decode cX9_init 154 = .ok (.aload_n 0, 1) := by decide +kernel
theorem dX9_init_155 : decode cX9_init 155 = .ok (.bipush 120, 2) := by decide +kernel
theorem dX9_init_157 : decode cX9_init 157 = .ok (.newarray .int, 2) := by decide +kernel
theorem dX9_init_159 : decode cX9_init 159 = .ok (.putfield 69, 3) := by decide +kernel
theorem dX9_init_162 : decode cX9_init 162 = .ok (.aload_n 0, 1) := by decide +kernel
theorem dX9_init_163 : decode cX9_init 163 = .ok (.bipush 120, 2) := by decide +kernel
theorem dX9_init_165 : decode cX9_init 165 = .ok (.newarray .int, 2) := by decide +kernel
theorem dX9_init_167 : decode cX9_init 167 = .ok (.putfield 72, 3) := by decide +kernel
theorem dX9_init_170 : decode cX9_init 170 = .ok (.aload_n 0, 1) := by decide +kernel
theorem dX9_init_171 : decode cX9_init 171 = .ok (.iconst 5, 1) := by decide +kernel
theorem dX9_init_172 : decode cX9_init 172 = .ok (.newarray .int, 2) := by decide +kernel
theorem dX9_init_174 : decode cX9_init 174 = .ok (.putfield 75, 3) := by decide +kernel
theorem dX9_init_177 : decode cX9_init 177 = .ok (.aload_n 0, 1) := by decide +kernel
theorem dX9_init_178 : decode cX9_init 178 = .ok (.iconst 5, 1) := by decide +kernel
theorem dX9_init_179 : decode cX9_init 179 = .ok (.newarray .int, 2) := by decide +kernel
theorem dX9_init_181 : decode cX9_init 181 = .ok (.putfield 78, 3) := by decide +kernel
theorem dX9_init_184 : decode cX9_init 184 = .ok (.aload_n 0, 1) := by decide +kernel
theorem dX9_init_185 : decode cX9_init 185 = .ok (.iconst 5, 1) := by decide +kernel
theorem dX9_init_186 : decode cX9_init 186 = .ok (.newarray .int, 2) := by decide +kernel
theorem dX9_init_188 : decode cX9_init 188 = .ok (.putfield 81, 3) := by decide +kernel
theorem dX9_init_191 : decode cX9_init 191 = .ok (.aload_n 0, 1) := by decide +kernel
theorem dX9_init_192 : decode cX9_init 192 = .ok (.bipush 60, 2) := by decide +kernel
theorem dX9_init_194 : decode cX9_init 194 = .ok (.newarray .boolean, 2) := by decide +kernel
theorem dX9_init_196 : decode cX9_init 196 = .ok (.putfield 84, 3) := by decide +kernel
theorem dX9_init_199 : decode cX9_init 199 = .ok (.aload_n 0, 1) := by decide +kernel
theorem dX9_init_200 : decode cX9_init 200 = .ok (.bipush 120, 2) := by decide +kernel
theorem dX9_init_202 : decode cX9_init 202 = .ok (.newarray .boolean, 2) := by decide +kernel
theorem dX9_init_204 : decode cX9_init 204 = .ok (.putfield 88, 3) := by decide +kernel
theorem dX9_init_207 : decode cX9_init 207 = .ok (.aload_n 0, 1) := by decide +kernel
theorem dX9_init_208 : decode cX9_init 208 = .ok (.bipush 120, 2) := by decide +kernel
theorem dX9_init_210 : decode cX9_init 210 = .ok (.newarray .int, 2) := by decide +kernel
theorem dX9_init_212 : decode cX9_init 212 = .ok (.putfield 91, 3) := by decide +kernel
theorem dX9_init_215 : decode cX9_init 215 = .ok (.aload_n 0, 1) := by decide +kernel
theorem dX9_init_216 : decode cX9_init 216 = .ok (.bipush 120, 2) := by decide +kernel
theorem dX9_init_218 : decode cX9_init 218 = .ok (.newarray .int, 2) := by decide +kernel
theorem dX9_init_220 : decode cX9_init 220 = .ok (.putfield 94, 3) := by decide +kernel
theorem dX9_init_223 : decode cX9_init 223 = .ok (.return_, 1) := by decide +kernel
theorem dX9_thrown_0 : decode cX9_thrown 0 = .ok (.aload_n 0, 1) := by decide +kernel
theorem dX9_thrown_1 : decode cX9_thrown 1 = .ok (.getfield 97, 3) := by decide +kernel
theorem dX9_thrown_4 : decode cX9_thrown 4 = .ok (.ireturn, 1) := by decide +kernel
theorem dX9_within_0 : decode cX9_within 0 = .ok (.iload_n 0, 1) := by decide +kernel
theorem dX9_within_1 : decode cX9_within 1 = .ok (.iload_n 1, 1) := by decide +kernel
theorem dX9_within_2 : decode cX9_within 2 = .ok (.if_icmp .lt 12, 3) := by decide +kernel
theorem dX9_within_5 : decode cX9_within 5 = .ok (.iload_n 0, 1) := by decide +kernel
theorem dX9_within_6 : decode cX9_within 6 = .ok (.iload_n 2, 1) := by decide +kernel
theorem dX9_within_7 : decode cX9_within 7 = .ok (.if_icmp .gt 7, 3) := by decide +kernel
theorem dX9_within_10 : decode cX9_within 10 = .ok (.iconst 1, 1) := by decide +kernel
theorem dX9_within_11 : decode cX9_within 11 = .ok (.goto 4, 3) := by decide +kernel
theorem dX9_within_14 : decode cX9_within 14 = .ok (.iconst 0, 1) := by decide +kernel
theorem dX9_within_15 : decode cX9_within 15 = .ok (.ireturn, 1) := by decide +kernel
theorem dX9_kind_0 : decode cX9_kind 0 = .ok (.aload_n 0, 1) := by decide +kernel
theorem dX9_kind_1 : decode cX9_kind 1 = .ok (.iconst 0, 1) := by decide +kernel
theorem dX9_kind_2 : decode cX9_kind 2 = .ok (.putfield 97, 3) := by decide +kernel
theorem dX9_kind_5 : decode cX9_kind 5 = .ok (.iload_n 1, 1) := by decide +kernel
theorem dX9_kind_6 : decode cX9_kind 6 = .ok (.iconst 0, 1) := by decide +kernel
theorem dX9_kind_7 : decode cX9_kind 7 = .ok (.iconst 5, 1) := by decide +kernel
theorem dX9_kind_8 : decode cX9_kind 8 = .ok (.invokestatic 100, 3) := by decide +kernel
theorem dX9_kind_11 : decode cX9_kind 11 = .ok (.ifCond .eq 33, 3) := by decide +kernel
theorem dX9_kind_14 : decode cX9_kind 14 = .ok (.iload_n 2, 1) := by decide +kernel
theorem dX9_kind_15 : decode cX9_kind 15 = .ok (.iconst 0, 1) := by decide +kernel
theorem dX9_kind_16 : decode cX9_kind 16 = .ok (.sipush 255, 3) := by decide +kernel
theorem dX9_kind_19 : decode cX9_kind 19 = .ok (.invokestatic 100, 3) := by decide +kernel
theorem dX9_kind_22 : decode cX9_kind 22 = .ok (.ifCond .eq 22, 3) := by decide +kernel
theorem dX9_kind_25 : decode cX9_kind 25 = .ok (.iload_n 3, 1) := by decide +kernel
theorem dX9_kind_26 : decode cX9_kind 26 = .ok (.iconst 0, 1) := by decide +kernel
theorem dX9_kind_27 : decode cX9_kind 27 = .ok (.bipush 100, 2) := by decide +kernel
theorem dX9_kind_29 : decode cX9_kind 29 = .ok (.invokestatic 100, 3) := by decide +kernel
theorem dX9_kind_32 : decode cX9_kind 32 = .ok (.ifCond .eq 12, 3) := by decide +kernel
theorem dX9_kind_35 : decode cX9_kind 35 = .ok (.aload_n 0, 1) := by decide +kernel
theorem dX9_kind_36 : decode cX9_kind 36 = .ok (.getfield 104, 3) := by decide +kernel
theorem dX9_kind_39 : decode cX9_kind 39 = .ok (.bipush 8, 2) := by decide +kernel
theorem dX9_kind_41 : decode cX9_kind 41 = .ok (.if_icmp .ne 5, 3) := by decide +kernel
theorem dX9_kind_44 : decode cX9_kind 44 = .ok (.iconst (-1), 1) := by decide +kernel
theorem dX9_kind_45 : decode cX9_kind 45 = .ok (.ireturn, 1) := by decide +kernel
theorem dX9_kind_46 : decode cX9_kind 46 = .ok (.aload_n 0, 1) := by decide +kernel
theorem dX9_kind_47 : decode cX9_kind 47 = .ok (.getfield 7, 3) := by decide +kernel
theorem dX9_kind_50 : decode cX9_kind 50 = .ok (.aload_n 0, 1) := by decide +kernel
theorem dX9_kind_51 : decode cX9_kind 51 = .ok (.getfield 104, 3) := by decide +kernel
theorem dX9_kind_54 : decode cX9_kind 54 = .ok (.iload_n 1, 1) := by decide +kernel
theorem dX9_kind_55 : decode cX9_kind 55 = .ok (.iastore, 1) := by decide +kernel
theorem dX9_kind_56 : decode cX9_kind 56 = .ok (.aload_n 0, 1) := by decide +kernel
theorem dX9_kind_57 : decode cX9_kind 57 = .ok (.getfield 13, 3) := by decide +kernel
theorem dX9_kind_60 : decode cX9_kind 60 = .ok (.aload_n 0, 1) := by decide +kernel
theorem dX9_kind_61 : decode cX9_kind 61 = .ok (.getfield 104, 3) := by decide +kernel
theorem dX9_kind_64 : decode cX9_kind 64 = .ok (.iload_n 2, 1) := by decide +kernel
theorem dX9_kind_65 : decode cX9_kind 65 = .ok (.iastore, 1) := by decide +kernel
theorem dX9_kind_66 : decode cX9_kind 66 = .ok (.aload_n 0, 1) := by decide +kernel
theorem dX9_kind_67 : decode cX9_kind 67 = .ok (.getfield 16, 3) := by decide +kernel
theorem dX9_kind_70 : decode cX9_kind 70 = .ok (.aload_n 0, 1) := by decide +kernel
theorem dX9_kind_71 : decode cX9_kind 71 = .ok (.getfield 104, 3) := by decide +kernel
theorem dX9_kind_74 : decode cX9_kind 74 = .ok (.iload_n 3, 1) := by decide +kernel
theorem dX9_kind_75 : decode cX9_kind 75 = .ok (.iastore, 1) := by decide +kernel
theorem dX9_kind_76 : decode cX9_kind 76 = .ok (.aload_n 0, 1) := by decide +kernel
theorem dX9_kind_77 : decode cX9_kind 77 = .ok (.dup, 1) := by decide +kernel
theorem dX9_kind_78 : decode cX9_kind 78 = .ok (.getfield 104, 3) := by decide +kernel
theorem dX9_kind_81 : decode cX9_kind 81 = .ok (.iconst 1, 1) := by decide +kernel
theorem dX9_kind_82 : decode cX9_kind 82 = .ok (.iadd, 1) := by decide +kernel
theorem dX9_kind_83 : decode cX9_kind 83 = .ok (.putfield 104, 3) := by decide +kernel
theorem dX9_kind_86 : decode cX9_kind 86 = .ok (.aload_n 0, 1) := by decide +kernel
theorem dX9_kind_87 : decode cX9_kind 87 = .ok (.getfield 104, 3) := by decide +kernel
theorem dX9_kind_90 : decode cX9_kind 90 = .ok (.iconst 1, 1) := by decide +kernel
theorem dX9_kind_91 : decode cX9_kind 91 = .ok (.isub, 1) := by decide +kernel
theorem dX9_kind_92 : decode cX9_kind 92 = .ok (.ireturn, 1) := by decide +kernel
theorem dX9_isKind_0 : decode cX9_isKind 0 = .ok (.iload_n 1, 1) := by decide +kernel
theorem dX9_isKind_1 : decode cX9_isKind 1 = .ok (.iconst 0, 1) := by decide +kernel
theorem dX9_isKind_2 : decode cX9_isKind 2 = .ok (.aload_n 0, 1) := by decide +kernel
theorem dX9_isKind_3 : decode cX9_isKind 3 = .ok (.getfield 104, 3) := by decide +kernel
theorem dX9_isKind_6 : decode cX9_isKind 6 = .ok (.iconst 1, 1) := by decide +kernel
theorem dX9_isKind_7 : decode cX9_isKind 7 = .ok (.isub, 1) := by decide +kernel
theorem dX9_isKind_8 : decode cX9_isKind 8 = .ok (.invokestatic 100, 3) := by decide +kernel
theorem dX9_isKind_11 : decode cX9_isKind 11 = .ok (.ireturn, 1) := by decide +kernel
theorem dX9_isThing_0 : decode cX9_isThing 0 = .ok (.iload_n 1, 1) := by decide +kernel
theorem dX9_isThing_1 : decode cX9_isThing 1 = .ok (.iconst 0, 1) := by decide +kernel
theorem dX9_isThing_2 : decode cX9_isThing 2 = .ok (.aload_n 0, 1) := by decide +kernel
theorem dX9_isThing_3 : decode cX9_isThing 3 = .ok (.getfield 107, 3) := by decide +kernel
theorem dX9_isThing_6 : decode cX9_isThing 6 = .ok (.iconst 1, 1) := by decide +kernel
theorem dX9_isThing_7 : decode cX9_isThing 7 = .ok (.isub, 1) := by decide +kernel
theorem dX9_isThing_8 : decode cX9_isThing 8 = .ok (.invokestatic 100, 3) := by decide +kernel
theorem dX9_isThing_11 : decode cX9_isThing 11 = .ok (.ireturn, 1) := by decide +kernel
theorem dX9_isMember_0 : decode cX9_isMember 0 = .ok (.iload_n 1, 1) := by decide +kernel
theorem dX9_isMember_1 : decode cX9_isMember 1 = .ok (.iconst 0, 1) := by decide +kernel
theorem dX9_isMember_2 : decode cX9_isMember 2 = .ok (.aload_n 0, 1) := by decide +kernel
theorem dX9_isMember_3 : decode cX9_isMember 3 = .ok (.getfield 110, 3) := by decide +kernel
theorem dX9_isMember_6 : decode cX9_isMember 6 = .ok (.iconst 1, 1) := by decide +kernel
theorem dX9_isMember_7 : decode cX9_isMember 7 = .ok (.isub, 1) := by decide +kernel
theorem dX9_isMember_8 : decode cX9_isMember 8 = .ok (.invokestatic 100, 3) := by decide +kernel
theorem dX9_isMember_11 : decode cX9_isMember 11 = .ok (.ireturn, 1) := by decide +kernel
theorem dX9_thing_0 : decode cX9_thing 0 = .ok (.aload_n 0, 1) := by decide +kernel
theorem dX9_thing_1 : decode cX9_thing 1 = .ok (.iconst 0, 1) := by decide +kernel
theorem dX9_thing_2 : decode cX9_thing 2 = .ok (.putfield 97, 3) := by decide +kernel
theorem dX9_thing_5 : decode cX9_thing 5 = .ok (.aload_n 0, 1) := by decide +kernel
theorem dX9_thing_6 : decode cX9_thing 6 = .ok (.iload_n 1, 1) := by decide +kernel
theorem dX9_thing_7 : decode cX9_thing 7 = .ok (.invokevirtual 113, 3) := by decide +kernel
theorem dX9_thing_10 : decode cX9_thing 10 = .ok (.ifCond .eq 12, 3) := by decide +kernel
theorem dX9_thing_13 : decode cX9_thing 13 = .ok (.aload_n 0, 1) := by decide +kernel
theorem dX9_thing_14 : decode cX9_thing 14 = .ok (.getfield 107, 3) := by decide +kernel
theorem dX9_thing_17 : decode cX9_thing 17 = .ok (.bipush 12, 2) := by decide +kernel
theorem dX9_thing_19 : decode cX9_thing 19 = .ok (.if_icmp .ne 5, 3) := by decide +kernel
theorem dX9_thing_22 : decode cX9_thing 22 = .ok (.iconst (-1), 1) := by decide +kernel
theorem dX9_thing_23 : decode cX9_thing 23 = .ok (.ireturn, 1) := by decide +kernel
theorem dX9_thing_24 : decode cX9_thing 24 = .ok (.aload_n 0, 1) := by decide +kernel
theorem dX9_thing_25 : decode cX9_thing 25 = .ok (.getfield 19, 3) := by decide +kernel
theorem dX9_thing_28 : decode cX9_thing 28 = .ok (.aload_n 0, 1) := by decide +kernel
theorem dX9_thing_29 : decode cX9_thing 29 = .ok (.getfield 107, 3) := by decide +kernel
theorem dX9_thing_32 : decode cX9_thing 32 = .ok (.iload_n 1, 1) := by decide +kernel
theorem dX9_thing_33 : decode cX9_thing 33 = .ok (.iastore, 1) := by decide +kernel
theorem dX9_thing_34 : decode cX9_thing 34 = .ok (.aload_n 0, 1) := by decide +kernel
theorem dX9_thing_35 : decode cX9_thing 35 = .ok (.getfield 22, 3) := by decide +kernel
theorem dX9_thing_38 : decode cX9_thing 38 = .ok (.aload_n 0, 1) := by decide +kernel
theorem dX9_thing_39 : decode cX9_thing 39 = .ok (.getfield 107, 3) := by decide +kernel
theorem dX9_thing_42 : decode cX9_thing 42 = .ok (.iconst (-1), 1) := by decide +kernel
theorem dX9_thing_43 : decode cX9_thing 43 = .ok (.iastore, 1) := by decide +kernel
theorem dX9_thing_44 : decode cX9_thing 44 = .ok (.aload_n 0, 1) := by decide +kernel
theorem dX9_thing_45 : decode cX9_thing 45 = .ok (.dup, 1) := by decide +kernel
theorem dX9_thing_46 : decode cX9_thing 46 = .ok (.getfield 107, 3) := by decide +kernel
theorem dX9_thing_49 : decode cX9_thing 49 = .ok (.iconst 1, 1) := by decide +kernel
theorem dX9_thing_50 : decode cX9_thing 50 = .ok (.iadd, 1) := by decide +kernel
theorem dX9_thing_51 : decode cX9_thing 51 = .ok (.putfield 107, 3) := by decide +kernel
theorem dX9_thing_54 : decode cX9_thing 54 = .ok (.aload_n 0, 1) := by decide +kernel
theorem dX9_thing_55 : decode cX9_thing 55 = .ok (.getfield 107, 3) := by decide +kernel
theorem dX9_thing_58 : decode cX9_thing 58 = .ok (.iconst 1, 1) := by decide +kernel
theorem dX9_thing_59 : decode cX9_thing 59 = .ok (.isub, 1) := by decide +kernel
theorem dX9_thing_60 : decode cX9_thing 60 = .ok (.ireturn, 1) := by decide +kernel
theorem dX9_member_0 : decode cX9_member 0 = .ok (.aload_n 0, 1) := by decide +kernel
theorem dX9_member_1 : decode cX9_member 1 = .ok (.iconst 0, 1) := by decide +kernel
theorem dX9_member_2 : decode cX9_member 2 = .ok (.putfield 97, 3) := by decide +kernel
theorem dX9_member_5 : decode cX9_member 5 = .ok (.aload_n 0, 1) := by decide +kernel
theorem dX9_member_6 : decode cX9_member 6 = .ok (.getfield 110, 3) := by decide +kernel
theorem dX9_member_9 : decode cX9_member 9 = .ok (.bipush 10, 2) := by decide +kernel
theorem dX9_member_11 : decode cX9_member 11 = .ok (.if_icmp .ne 5, 3) := by decide +kernel
theorem dX9_member_14 : decode cX9_member 14 = .ok (.iconst (-1), 1) := by decide +kernel
theorem dX9_member_15 : decode cX9_member 15 = .ok (.ireturn, 1) := by decide +kernel
theorem dX9_member_16 : decode cX9_member 16 = .ok (.aload_n 0, 1) := by decide +kernel
theorem dX9_member_17 : decode cX9_member 17 = .ok (.dup, 1) := by decide +kernel
theorem dX9_member_18 : decode cX9_member 18 = .ok (.getfield 110, 3) := by decide +kernel
theorem dX9_member_21 : decode cX9_member 21 = .ok (.iconst 1, 1) := by decide +kernel
theorem dX9_member_22 : decode cX9_member 22 = .ok (.iadd, 1) := by decide +kernel
theorem dX9_member_23 : decode cX9_member 23 = .ok (.putfield 110, 3) := by decide +kernel
theorem dX9_member_26 : decode cX9_member 26 = .ok (.aload_n 0, 1) := by decide +kernel
theorem dX9_member_27 : decode cX9_member 27 = .ok (.getfield 110, 3) := by decide +kernel
theorem dX9_member_30 : decode cX9_member 30 = .ok (.iconst 1, 1) := by decide +kernel
theorem dX9_member_31 : decode cX9_member 31 = .ok (.isub, 1) := by decide +kernel
theorem dX9_member_32 : decode cX9_member 32 = .ok (.ireturn, 1) := by decide +kernel
theorem dX9_feed_0 : decode cX9_feed 0 = .ok (.aload_n 0, 1) := by decide +kernel
theorem dX9_feed_1 : decode cX9_feed 1 = .ok (.iconst 0, 1) := by decide +kernel
theorem dX9_feed_2 : decode cX9_feed 2 = .ok (.putfield 97, 3) := by decide +kernel
theorem dX9_feed_5 : decode cX9_feed 5 = .ok (.aload_n 0, 1) := by decide +kernel
theorem dX9_feed_6 : decode cX9_feed 6 = .ok (.getfield 117, 3) := by decide +kernel
theorem dX9_feed_9 : decode cX9_feed 9 = .ok (.sipush 180, 3) := by decide +kernel
theorem dX9_feed_12 : decode cX9_feed 12 = .ok (.if_icmp .le 5, 3) := by decide +kernel
theorem dX9_feed_15 : decode cX9_feed 15 = .ok (.iconst (-1), 1) := by decide +kernel
theorem dX9_feed_16 : decode cX9_feed 16 = .ok (.ireturn, 1) := by decide +kernel
theorem dX9_feed_17 : decode cX9_feed 17 = .ok (.iconst 0, 1) := by decide +kernel
theorem dX9_feed_18 : decode cX9_feed 18 = .ok (.istore 6, 2) := by decide +kernel
theorem dX9_feed_20 : decode cX9_feed 20 = .ok (.iload 6, 2) := by decide +kernel
theorem dX9_feed_22 : decode cX9_feed 22 = .ok (.bipush 20, 2) := by decide +kernel
theorem dX9_feed_24 : decode cX9_feed 24 = .ok (.if_icmp .ge 90, 3) := by decide +kernel
theorem dX9_feed_27 : decode cX9_feed 27 = .ok (.iload 6, 2) := by decide +kernel
theorem dX9_feed_29 : decode cX9_feed 29 = .ok (.iconst 4, 1) := by decide +kernel
theorem dX9_feed_30 : decode cX9_feed 30 = .ok (.if_icmp .ge 7, 3) := by decide +kernel
theorem dX9_feed_33 : decode cX9_feed 33 = .ok (.iload_n 1, 1) := by decide +kernel
theorem dX9_feed_34 : decode cX9_feed 34 = .ok (.goto 39, 3) := by decide +kernel
theorem dX9_feed_37 : decode cX9_feed 37 = .ok (.iload 6, 2) := by decide +kernel
theorem dX9_feed_39 : decode cX9_feed 39 = .ok (.bipush 8, 2) := by decide +kernel
theorem dX9_feed_41 : decode cX9_feed 41 = .ok (.if_icmp .ge 7, 3) := by decide +kernel
theorem dX9_feed_44 : decode cX9_feed 44 = .ok (.iload_n 2, 1) := by decide +kernel
theorem dX9_feed_45 : decode cX9_feed 45 = .ok (.goto 28, 3) := by decide +kernel
theorem dX9_feed_48 : decode cX9_feed 48 = .ok (.iload 6, 2) := by decide +kernel
theorem dX9_feed_50 : decode cX9_feed 50 = .ok (.bipush 12, 2) := by decide +kernel
theorem dX9_feed_52 : decode cX9_feed 52 = .ok (.if_icmp .ge 7, 3) := by decide +kernel
theorem dX9_feed_55 : decode cX9_feed 55 = .ok (.iload_n 3, 1) := by decide +kernel
theorem dX9_feed_56 : decode cX9_feed 56 = .ok (.goto 17, 3) := by decide +kernel
theorem dX9_feed_59 : decode cX9_feed 59 = .ok (.iload 6, 2) := by decide +kernel
theorem dX9_feed_61 : decode cX9_feed 61 = .ok (.bipush 16, 2) := by decide +kernel
theorem dX9_feed_63 : decode cX9_feed 63 = .ok (.if_icmp .ge 8, 3) := by decide +kernel
theorem dX9_feed_66 : decode cX9_feed 66 = .ok (.iload 4, 2) := by decide +kernel
theorem dX9_feed_68 : decode cX9_feed 68 = .ok (.goto 5, 3) := by decide +kernel
theorem dX9_feed_71 : decode cX9_feed 71 = .ok (.iload 5, 2) := by decide +kernel
theorem dX9_feed_73 : decode cX9_feed 73 = .ok (.istore 7, 2) := by decide +kernel
theorem dX9_feed_75 : decode cX9_feed 75 = .ok (.aload_n 0, 1) := by decide +kernel
theorem dX9_feed_76 : decode cX9_feed 76 = .ok (.getfield 31, 3) := by decide +kernel
theorem dX9_feed_79 : decode cX9_feed 79 = .ok (.aload_n 0, 1) := by decide +kernel
theorem dX9_feed_80 : decode cX9_feed 80 = .ok (.getfield 117, 3) := by decide +kernel
theorem dX9_feed_83 : decode cX9_feed 83 = .ok (.iload 7, 2) := by decide +kernel
theorem dX9_feed_85 : decode cX9_feed 85 = .ok (.bipush 24, 2) := by decide +kernel
theorem dX9_feed_87 : decode cX9_feed 87 = .ok (.bipush 8, 2) := by decide +kernel
theorem dX9_feed_89 : decode cX9_feed 89 = .ok (.iload 6, 2) := by decide +kernel
theorem dX9_feed_91 : decode cX9_feed 91 = .ok (.iconst 4, 1) := by decide +kernel
theorem dX9_feed_92 : decode cX9_feed 92 = .ok (.irem, 1) := by decide +kernel
theorem dX9_feed_93 : decode cX9_feed 93 = .ok (.imul, 1) := by decide +kernel
theorem dX9_feed_94 : decode cX9_feed 94 = .ok (.isub, 1) := by decide +kernel
theorem dX9_feed_95 : decode cX9_feed 95 = .ok (.ishr, 1) := by decide +kernel
theorem dX9_feed_96 : decode cX9_feed 96 = .ok (.i2b, 1) := by decide +kernel
theorem dX9_feed_97 : decode cX9_feed 97 = .ok (.bastore, 1) := by decide +kernel
theorem dX9_feed_98 : decode cX9_feed 98 = .ok (.aload_n 0, 1) := by decide +kernel
theorem dX9_feed_99 : decode cX9_feed 99 = .ok (.dup, 1) := by decide +kernel
theorem dX9_feed_100 : decode cX9_feed 100 = .ok (.getfield 117, 3) := by decide +kernel
theorem dX9_feed_103 : decode cX9_feed 103 = .ok (.iconst 1, 1) := by decide +kernel
theorem dX9_feed_104 : decode cX9_feed 104 = .ok (.iadd, 1) := by decide +kernel
theorem dX9_feed_105 : decode cX9_feed 105 = .ok (.putfield 117, 3) := by decide +kernel
theorem dX9_feed_108 : decode cX9_feed 108 = .ok (.iinc 6 1, 3) := by decide +kernel
theorem dX9_feed_111 : decode cX9_feed 111 = .ok (.goto (-91), 3) := by decide +kernel
theorem dX9_feed_114 : decode cX9_feed 114 = .ok (.aload_n 0, 1) := by decide +kernel
theorem dX9_feed_115 : decode cX9_feed 115 = .ok (.getfield 117, 3) := by decide +kernel
theorem dX9_feed_118 : decode cX9_feed 118 = .ok (.ireturn, 1) := by decide +kernel
theorem dX9_end_0 : decode cX9_end 0 = .ok (.aload_n 0, 1) := by decide +kernel
theorem dX9_end_1 : decode cX9_end 1 = .ok (.iconst 0, 1) := by decide +kernel
theorem dX9_end_2 : decode cX9_end 2 = .ok (.putfield 97, 3) := by decide +kernel
theorem dX9_end_5 : decode cX9_end 5 = .ok (.iload_n 1, 1) := by decide +kernel
theorem dX9_end_6 : decode cX9_end 6 = .ok (.iconst 0, 1) := by decide +kernel
theorem dX9_end_7 : decode cX9_end 7 = .ok (.aload_n 0, 1) := by decide +kernel
theorem dX9_end_8 : decode cX9_end 8 = .ok (.getfield 117, 3) := by decide +kernel
theorem dX9_end_11 : decode cX9_end 11 = .ok (.invokestatic 100, 3) := by decide +kernel
theorem dX9_end_14 : decode cX9_end 14 = .ok (.ifCond .ne 5, 3) := by decide +kernel
theorem dX9_end_17 : decode cX9_end 17 = .ok (.iconst (-1), 1) := by decide +kernel
theorem dX9_end_18 : decode cX9_end 18 = .ok (.ireturn, 1) := by decide +kernel
theorem dX9_end_19 : decode cX9_end 19 = .ok (.aload_n 0, 1) := by decide +kernel
theorem dX9_end_20 : decode cX9_end 20 = .ok (.iload_n 1, 1) := by decide +kernel
theorem dX9_end_21 : decode cX9_end 21 = .ok (.putfield 117, 3) := by decide +kernel
theorem dX9_end_24 : decode cX9_end 24 = .ok (.iload_n 1, 1) := by decide +kernel
theorem dX9_end_25 : decode cX9_end 25 = .ok (.ireturn, 1) := by decide +kernel
theorem dX9_byteAt_0 : decode cX9_byteAt 0 = .ok (.iload_n 1, 1) := by decide +kernel
theorem dX9_byteAt_1 : decode cX9_byteAt 1 = .ok (.aload_n 0, 1) := by decide +kernel
theorem dX9_byteAt_2 : decode cX9_byteAt 2 = .ok (.getfield 117, 3) := by decide +kernel
theorem dX9_byteAt_5 : decode cX9_byteAt 5 = .ok (.if_icmp .ge 16, 3) := by decide +kernel
theorem dX9_byteAt_8 : decode cX9_byteAt 8 = .ok (.aload_n 0, 1) := by decide +kernel
theorem dX9_byteAt_9 : decode cX9_byteAt 9 = .ok (.getfield 31, 3) := by decide +kernel
theorem dX9_byteAt_12 : decode cX9_byteAt 12 = .ok (.iload_n 1, 1) := by decide +kernel
theorem dX9_byteAt_13 : decode cX9_byteAt 13 = .ok (.baload, 1) := by decide +kernel
theorem dX9_byteAt_14 : decode cX9_byteAt 14 = .ok (.sipush 255, 3) := by decide +kernel
theorem dX9_byteAt_17 : decode cX9_byteAt 17 = .ok (.iand, 1) := by decide +kernel
theorem dX9_byteAt_18 : decode cX9_byteAt 18 = .ok (.goto 4, 3) := by decide +kernel
theorem dX9_byteAt_21 : decode cX9_byteAt 21 = .ok (.iconst 0, 1) := by decide +kernel
theorem dX9_byteAt_22 : decode cX9_byteAt 22 = .ok (.ireturn, 1) := by decide +kernel
theorem dX9_token_0 : decode cX9_token 0 = .ok (.aload_n 0, 1) := by decide +kernel
theorem dX9_token_1 : decode cX9_token 1 = .ok (.aload_n 0, 1) := by decide +kernel
theorem dX9_token_2 : decode cX9_token 2 = .ok (.getfield 120, 3) := by decide +kernel
theorem dX9_token_5 : decode cX9_token 5 = .ok (.putfield 123, 3) := by decide +kernel
theorem dX9_token_8 : decode cX9_token 8 = .ok (.aload_n 0, 1) := by decide +kernel
theorem dX9_token_9 : decode cX9_token 9 = .ok (.aload_n 0, 1) := by decide +kernel
theorem dX9_token_10 : decode cX9_token 10 = .ok (.getfield 123, 3) := by decide +kernel
theorem dX9_token_13 : decode cX9_token 13 = .ok (.invokevirtual 126, 3) := by decide +kernel
theorem dX9_token_16 : decode cX9_token 16 = .ok (.bipush 32, 2) := by decide +kernel
theorem dX9_token_18 : decode cX9_token 18 = .ok (.if_icmp .eq 16, 3) := by decide +kernel
theorem dX9_token_21 : decode cX9_token 21 = .ok (.aload_n 0, 1) := by decide +kernel
theorem dX9_token_22 : decode cX9_token 22 = .ok (.aload_n 0, 1) := by decide +kernel
theorem dX9_token_23 : decode cX9_token 23 = .ok (.getfield 123, 3) := by decide +kernel
theorem dX9_token_26 : decode cX9_token 26 = .ok (.invokevirtual 126, 3) := by decide +kernel
theorem dX9_token_29 : decode cX9_token 29 = .ok (.bipush 10, 2) := by decide +kernel
theorem dX9_token_31 : decode cX9_token 31 = .ok (.if_icmp .ne 16, 3) := by decide +kernel
theorem dX9_token_34 : decode cX9_token 34 = .ok (.aload_n 0, 1) := by decide +kernel
theorem dX9_token_35 : decode cX9_token 35 = .ok (.dup, 1) := by decide +kernel
theorem dX9_token_36 : decode cX9_token 36 = .ok (.getfield 123, 3) := by decide +kernel
theorem dX9_token_39 : decode cX9_token 39 = .ok (.iconst 1, 1) := by decide +kernel
theorem dX9_token_40 : decode cX9_token 40 = .ok (.iadd, 1) := by decide +kernel
theorem dX9_token_41 : decode cX9_token 41 = .ok (.putfield 123, 3) := by decide +kernel
theorem dX9_token_44 : decode cX9_token 44 = .ok (.goto (-36), 3) := by decide +kernel
theorem dX9_token_47 : decode cX9_token 47 = .ok (.aload_n 0, 1) := by decide +kernel
theorem dX9_token_48 : decode cX9_token 48 = .ok (.aload_n 0, 1) := by decide +kernel
theorem dX9_token_49 : decode cX9_token 49 = .ok (.getfield 123, 3) := by decide +kernel
theorem dX9_token_52 : decode cX9_token 52 = .ok (.putfield 120, 3) := by decide +kernel
theorem dX9_token_55 : decode cX9_token 55 = .ok (.aload_n 0, 1) := by decide +kernel
theorem dX9_token_56 : decode cX9_token 56 = .ok (.aload_n 0, 1) := by decide +kernel
theorem dX9_token_57 : decode cX9_token 57 = .ok (.getfield 123, 3) := by decide +kernel
theorem dX9_token_60 : decode cX9_token 60 = .ok (.invokevirtual 126, 3) := by decide +kernel
theorem dX9_token_63 : decode cX9_token 63 = .ok (.istore_n 1, 1) := by decide +kernel
theorem dX9_token_64 : decode cX9_token 64 = .ok (.aload_n 0, 1) := by decide +kernel
theorem dX9_token_65 : decode cX9_token 65 = .ok (.getfield 123, 3) := by decide +kernel
theorem dX9_token_68 : decode cX9_token 68 = .ok (.aload_n 0, 1) := by decide +kernel
theorem dX9_token_69 : decode cX9_token 69 = .ok (.getfield 117, 3) := by decide +kernel
theorem dX9_token_72 : decode cX9_token 72 = .ok (.if_icmp .lt 11, 3) := by decide +kernel
theorem dX9_token_75 : decode cX9_token 75 = .ok (.aload_n 0, 1) := by decide +kernel
theorem dX9_token_76 : decode cX9_token 76 = .ok (.iconst 0, 1) := by decide +kernel
theorem dX9_token_77 : decode cX9_token 77 = .ok (.putfield 130, 3) := by decide +kernel
theorem dX9_token_80 : decode cX9_token 80 = .ok (.goto 186, 3) := by decide +kernel
theorem dX9_token_83 : decode cX9_token 83 = .ok (.iload_n 1, 1) := by decide +kernel
theorem dX9_token_84 : decode cX9_token 84 = .ok (.bipush 97, 2) := by decide +kernel
theorem dX9_token_86 : decode cX9_token 86 = .ok (.bipush 122, 2) := by decide +kernel
theorem dX9_token_88 : decode cX9_token 88 = .ok (.invokestatic 100, 3) := by decide +kernel
theorem dX9_token_91 : decode cX9_token 91 = .ok (.ifCond .eq 42, 3) := by decide +kernel
theorem dX9_token_94 : decode cX9_token 94 = .ok (.aload_n 0, 1) := by decide +kernel
theorem dX9_token_95 : decode cX9_token 95 = .ok (.aload_n 0, 1) := by decide +kernel
theorem dX9_token_96 : decode cX9_token 96 = .ok (.getfield 120, 3) := by decide +kernel
theorem dX9_token_99 : decode cX9_token 99 = .ok (.invokevirtual 126, 3) := by decide +kernel
theorem dX9_token_102 : decode cX9_token 102 = .ok (.bipush 97, 2) := by decide +kernel
theorem dX9_token_104 : decode cX9_token 104 = .ok (.bipush 122, 2) := by decide +kernel
theorem dX9_token_106 : decode cX9_token 106 = .ok (.invokestatic 100, 3) := by decide +kernel
theorem dX9_token_109 : decode cX9_token 109 = .ok (.ifCond .eq 16, 3) := by decide +kernel
theorem dX9_token_112 : decode cX9_token 112 = .ok (.aload_n 0, 1) := by decide +kernel
theorem dX9_token_113 : decode cX9_token 113 = .ok (.dup, 1) := by decide +kernel
theorem dX9_token_114 : decode cX9_token 114 = .ok (.getfield 120, 3) := by decide +kernel
theorem dX9_token_117 : decode cX9_token 117 = .ok (.iconst 1, 1) := by decide +kernel
theorem dX9_token_118 : decode cX9_token 118 = .ok (.iadd, 1) := by decide +kernel
theorem dX9_token_119 : decode cX9_token 119 = .ok (.putfield 120, 3) := by decide +kernel
theorem dX9_token_122 : decode cX9_token 122 = .ok (.goto (-28), 3) := by decide +kernel
theorem dX9_token_125 : decode cX9_token 125 = .ok (.aload_n 0, 1) := by decide +kernel
theorem dX9_token_126 : decode cX9_token 126 = .ok (.iconst 1, 1) := by decide +kernel
theorem dX9_token_127 : decode cX9_token 127 = .ok (.putfield 130, 3) := by decide +kernel
theorem dX9_token_130 : decode cX9_token 130 = .ok (.goto 136, 3) := by decide +kernel
theorem dX9_token_133 : decode cX9_token 133 = .ok (.iload_n 1, 1) := by decide +kernel
theorem dX9_token_134 : decode cX9_token 134 = .ok (.bipush 48, 2) := by decide +kernel
theorem dX9_token_136 : decode cX9_token 136 = .ok (.bipush 57, 2) := by decide +kernel
theorem dX9_token_138 : decode cX9_token 138 = .ok (.invokestatic 100, 3) := by decide +kernel
theorem dX9_token_141 : decode cX9_token 141 = .ok (.ifCond .eq 100, 3) := by decide +kernel
theorem dX9_token_144 : decode cX9_token 144 = .ok (.aload_n 0, 1) := by decide +kernel
theorem dX9_token_145 : decode cX9_token 145 = .ok (.iconst 0, 1) := by decide +kernel
theorem dX9_token_146 : decode cX9_token 146 = .ok (.putfield 133, 3) := by decide +kernel
theorem dX9_token_149 : decode cX9_token 149 = .ok (.aload_n 0, 1) := by decide +kernel
theorem dX9_token_150 : decode cX9_token 150 = .ok (.aload_n 0, 1) := by decide +kernel
theorem dX9_token_151 : decode cX9_token 151 = .ok (.getfield 120, 3) := by decide +kernel
theorem dX9_token_154 : decode cX9_token 154 = .ok (.invokevirtual 126, 3) := by decide +kernel
theorem dX9_token_157 : decode cX9_token 157 = .ok (.bipush 48, 2) := by decide +kernel
theorem dX9_token_159 : decode cX9_token 159 = .ok (.bipush 57, 2) := by decide +kernel
theorem dX9_token_161 : decode cX9_token 161 = .ok (.invokestatic 100, 3) := by decide +kernel
theorem dX9_token_164 : decode cX9_token 164 = .ok (.ifCond .eq 52, 3) := by decide +kernel
theorem dX9_token_167 : decode cX9_token 167 = .ok (.aload_n 0, 1) := by decide +kernel
theorem dX9_token_168 : decode cX9_token 168 = .ok (.getfield 120, 3) := by decide +kernel
theorem dX9_token_171 : decode cX9_token 171 = .ok (.aload_n 0, 1) := by decide +kernel
theorem dX9_token_172 : decode cX9_token 172 = .ok (.getfield 123, 3) := by decide +kernel
theorem dX9_token_175 : decode cX9_token 175 = .ok (.isub, 1) := by decide +kernel
theorem dX9_token_176 : decode cX9_token 176 = .ok (.iconst 3, 1) := by decide +kernel
theorem dX9_token_177 : decode cX9_token 177 = .ok (.if_icmp .ge 26, 3) := by decide +kernel
theorem dX9_token_180 : decode cX9_token 180 = .ok (.aload_n 0, 1) := by decide +kernel
theorem dX9_token_181 : decode cX9_token 181 = .ok (.bipush 10, 2) := by decide +kernel
theorem dX9_token_183 : decode cX9_token 183 = .ok (.aload_n 0, 1) := by decide +kernel
theorem dX9_token_184 : decode cX9_token 184 = .ok (.getfield 133, 3) := by decide +kernel
theorem dX9_token_187 : decode cX9_token 187 = .ok (.imul, 1) := by decide +kernel
theorem dX9_token_188 : decode cX9_token 188 = .ok (.aload_n 0, 1) := by decide +kernel
theorem dX9_token_189 : decode cX9_token 189 = .ok (.aload_n 0, 1) := by decide +kernel
theorem dX9_token_190 : decode cX9_token 190 = .ok (.getfield 120, 3) := by decide +kernel
theorem dX9_token_193 : decode cX9_token 193 = .ok (.invokevirtual 126, 3) := by decide +kernel
theorem dX9_token_196 : decode cX9_token 196 = .ok (.iadd, 1) := by decide +kernel
theorem dX9_token_197 : decode cX9_token 197 = .ok (.bipush 48, 2) := by decide +kernel
theorem dX9_token_199 : decode cX9_token 199 = .ok (.isub, 1) := by decide +kernel
theorem dX9_token_200 : decode cX9_token 200 = .ok (.putfield 133, 3) := by decide +kernel
theorem dX9_token_203 : decode cX9_token 203 = .ok (.aload_n 0, 1) := by decide +kernel
theorem dX9_token_204 : decode cX9_token 204 = .ok (.dup, 1) := by decide +kernel
theorem dX9_token_205 : decode cX9_token 205 = .ok (.getfield 120, 3) := by decide +kernel
theorem dX9_token_208 : decode cX9_token 208 = .ok (.iconst 1, 1) := by decide +kernel
theorem dX9_token_209 : decode cX9_token 209 = .ok (.iadd, 1) := by decide +kernel
theorem dX9_token_210 : decode cX9_token 210 = .ok (.putfield 120, 3) := by decide +kernel
theorem dX9_token_213 : decode cX9_token 213 = .ok (.goto (-64), 3) := by decide +kernel
theorem dX9_token_216 : decode cX9_token 216 = .ok (.aload_n 0, 1) := by decide +kernel
theorem dX9_token_217 : decode cX9_token 217 = .ok (.aload_n 0, 1) := by decide +kernel
theorem dX9_token_218 : decode cX9_token 218 = .ok (.getfield 120, 3) := by decide +kernel
theorem dX9_token_221 : decode cX9_token 221 = .ok (.aload_n 0, 1) := by decide +kernel
theorem dX9_token_222 : decode cX9_token 222 = .ok (.getfield 123, 3) := by decide +kernel
theorem dX9_token_225 : decode cX9_token 225 = .ok (.isub, 1) := by decide +kernel
theorem dX9_token_226 : decode cX9_token 226 = .ok (.iconst 3, 1) := by decide +kernel
theorem dX9_token_227 : decode cX9_token 227 = .ok (.if_icmp .le 7, 3) := by decide +kernel
theorem dX9_token_230 : decode cX9_token 230 = .ok (.iconst 4, 1) := by decide +kernel
theorem dX9_token_231 : decode cX9_token 231 = .ok (.goto 4, 3) := by decide +kernel
theorem dX9_token_234 : decode cX9_token 234 = .ok (.iconst 2, 1) := by decide +kernel
theorem dX9_token_235 : decode cX9_token 235 = .ok (.putfield 130, 3) := by decide +kernel
theorem dX9_token_238 : decode cX9_token 238 = .ok (.goto 28, 3) := by decide +kernel
theorem dX9_token_241 : decode cX9_token 241 = .ok (.aload_n 0, 1) := by decide +kernel
theorem dX9_token_242 : decode cX9_token 242 = .ok (.dup, 1) := by decide +kernel
theorem dX9_token_243 : decode cX9_token 243 = .ok (.getfield 120, 3) := by decide +kernel
theorem dX9_token_246 : decode cX9_token 246 = .ok (.iconst 1, 1) := by decide +kernel
theorem dX9_token_247 : decode cX9_token 247 = .ok (.iadd, 1) := by decide +kernel
theorem dX9_token_248 : decode cX9_token 248 = .ok (.putfield 120, 3) := by decide +kernel
theorem dX9_token_251 : decode cX9_token 251 = .ok (.aload_n 0, 1) := by decide +kernel
theorem dX9_token_252 : decode cX9_token 252 = .ok (.iload_n 1, 1) := by decide +kernel
theorem dX9_token_253 : decode cX9_token 253 = .ok (.bipush 59, 2) := by decide +kernel
theorem dX9_token_255 : decode cX9_token 255 = .ok (.if_icmp .ne 7, 3) := by decide +kernel
theorem dX9_token_258 : decode cX9_token 258 = .ok (.iconst 3, 1) := by decide +kernel
theorem dX9_token_259 : decode cX9_token 259 = .ok (.goto 4, 3) := by decide +kernel
theorem dX9_token_262 : decode cX9_token 262 = .ok (.iconst 4, 1) := by decide +kernel
theorem dX9_token_263 : decode cX9_token 263 = .ok (.putfield 130, 3) := by decide +kernel
theorem dX9_token_266 : decode cX9_token 266 = .ok (.return_, 1) := by decide +kernel
theorem dX9_wrong_0 : decode cX9_wrong 0 = .ok (.aload_n 0, 1) := by decide +kernel
theorem dX9_wrong_1 : decode cX9_wrong 1 = .ok (.iload_n 1, 1) := by decide +kernel
theorem dX9_wrong_2 : decode cX9_wrong 2 = .ok (.putfield 136, 3) := by decide +kernel
theorem dX9_wrong_5 : decode cX9_wrong 5 = .ok (.aload_n 0, 1) := by decide +kernel
theorem dX9_wrong_6 : decode cX9_wrong 6 = .ok (.aload_n 0, 1) := by decide +kernel
theorem dX9_wrong_7 : decode cX9_wrong 7 = .ok (.getfield 123, 3) := by decide +kernel
theorem dX9_wrong_10 : decode cX9_wrong 10 = .ok (.putfield 41, 3) := by decide +kernel
theorem dX9_wrong_13 : decode cX9_wrong 13 = .ok (.iconst 0, 1) := by decide +kernel
theorem dX9_wrong_14 : decode cX9_wrong 14 = .ok (.ireturn, 1) := by decide +kernel
theorem dX9_isEvery_0 : decode cX9_isEvery 0 = .ok (.aload_n 0, 1) := by decide +kernel
theorem dX9_isEvery_1 : decode cX9_isEvery 1 = .ok (.getfield 130, 3) := by decide +kernel
theorem dX9_isEvery_4 : decode cX9_isEvery 4 = .ok (.iconst 1, 1) := by decide +kernel
theorem dX9_isEvery_5 : decode cX9_isEvery 5 = .ok (.if_icmp .ne 93, 3) := by decide +kernel
theorem dX9_isEvery_8 : decode cX9_isEvery 8 = .ok (.aload_n 0, 1) := by decide +kernel
theorem dX9_isEvery_9 : decode cX9_isEvery 9 = .ok (.getfield 120, 3) := by decide +kernel
theorem dX9_isEvery_12 : decode cX9_isEvery 12 = .ok (.aload_n 0, 1) := by decide +kernel
theorem dX9_isEvery_13 : decode cX9_isEvery 13 = .ok (.getfield 123, 3) := by decide +kernel
theorem dX9_isEvery_16 : decode cX9_isEvery 16 = .ok (.isub, 1) := by decide +kernel
theorem dX9_isEvery_17 : decode cX9_isEvery 17 = .ok (.iconst 5, 1) := by decide +kernel
theorem dX9_isEvery_18 : decode cX9_isEvery 18 = .ok (.if_icmp .ne 80, 3) := by decide +kernel
theorem dX9_isEvery_21 : decode cX9_isEvery 21 = .ok (.aload_n 0, 1) := by decide +kernel
theorem dX9_isEvery_22 : decode cX9_isEvery 22 = .ok (.aload_n 0, 1) := by decide +kernel
theorem dX9_isEvery_23 : decode cX9_isEvery 23 = .ok (.getfield 123, 3) := by decide +kernel
theorem dX9_isEvery_26 : decode cX9_isEvery 26 = .ok (.invokevirtual 126, 3) := by decide +kernel
theorem dX9_isEvery_29 : decode cX9_isEvery 29 = .ok (.bipush 101, 2) := by decide +kernel
theorem dX9_isEvery_31 : decode cX9_isEvery 31 = .ok (.if_icmp .ne 67, 3) := by decide +kernel
theorem dX9_isEvery_34 : decode cX9_isEvery 34 = .ok (.aload_n 0, 1) := by decide +kernel
theorem dX9_isEvery_35 : decode cX9_isEvery 35 = .ok (.aload_n 0, 1) := by decide +kernel
theorem dX9_isEvery_36 : decode cX9_isEvery 36 = .ok (.getfield 123, 3) := by decide +kernel
theorem dX9_isEvery_39 : decode cX9_isEvery 39 = .ok (.iconst 1, 1) := by decide +kernel
theorem dX9_isEvery_40 : decode cX9_isEvery 40 = .ok (.iadd, 1) := by decide +kernel
theorem dX9_isEvery_41 : decode cX9_isEvery 41 = .ok (.invokevirtual 126, 3) := by decide +kernel
theorem dX9_isEvery_44 : decode cX9_isEvery 44 = .ok (.bipush 118, 2) := by decide +kernel
theorem dX9_isEvery_46 : decode cX9_isEvery 46 = .ok (.if_icmp .ne 52, 3) := by decide +kernel
theorem dX9_isEvery_49 : decode cX9_isEvery 49 = .ok (.aload_n 0, 1) := by decide +kernel
theorem dX9_isEvery_50 : decode cX9_isEvery 50 = .ok (.aload_n 0, 1) := by decide +kernel
theorem dX9_isEvery_51 : decode cX9_isEvery 51 = .ok (.getfield 123, 3) := by decide +kernel
theorem dX9_isEvery_54 : decode cX9_isEvery 54 = .ok (.iconst 2, 1) := by decide +kernel
theorem dX9_isEvery_55 : decode cX9_isEvery 55 = .ok (.iadd, 1) := by decide +kernel
theorem dX9_isEvery_56 : decode cX9_isEvery 56 = .ok (.invokevirtual 126, 3) := by decide +kernel
theorem dX9_isEvery_59 : decode cX9_isEvery 59 = .ok (.bipush 101, 2) := by decide +kernel
theorem dX9_isEvery_61 : decode cX9_isEvery 61 = .ok (.if_icmp .ne 37, 3) := by decide +kernel
theorem dX9_isEvery_64 : decode cX9_isEvery 64 = .ok (.aload_n 0, 1) := by decide +kernel
theorem dX9_isEvery_65 : decode cX9_isEvery 65 = .ok (.aload_n 0, 1) := by decide +kernel
theorem dX9_isEvery_66 : decode cX9_isEvery 66 = .ok (.getfield 123, 3) := by decide +kernel
theorem dX9_isEvery_69 : decode cX9_isEvery 69 = .ok (.iconst 3, 1) := by decide +kernel
theorem dX9_isEvery_70 : decode cX9_isEvery 70 = .ok (.iadd, 1) := by decide +kernel
theorem dX9_isEvery_71 : decode cX9_isEvery 71 = .ok (.invokevirtual 126, 3) := by decide +kernel
theorem dX9_isEvery_74 : decode cX9_isEvery 74 = .ok (.bipush 114, 2) := by decide +kernel
theorem dX9_isEvery_76 : decode cX9_isEvery 76 = .ok (.if_icmp .ne 22, 3) := by decide +kernel
theorem dX9_isEvery_79 : decode cX9_isEvery 79 = .ok (.aload_n 0, 1) := by decide +kernel
theorem dX9_isEvery_80 : decode cX9_isEvery 80 = .ok (.aload_n 0, 1) := by decide +kernel
theorem dX9_isEvery_81 : decode cX9_isEvery 81 = .ok (.getfield 123, 3) := by decide +kernel
theorem dX9_isEvery_84 : decode cX9_isEvery 84 = .ok (.iconst 4, 1) := by decide +kernel
theorem dX9_isEvery_85 : decode cX9_isEvery 85 = .ok (.iadd, 1) := by decide +kernel
theorem dX9_isEvery_86 : decode cX9_isEvery 86 = .ok (.invokevirtual 126, 3) := by decide +kernel
theorem dX9_isEvery_89 : decode cX9_isEvery 89 = .ok (.bipush 121, 2) := by decide +kernel
theorem dX9_isEvery_91 : decode cX9_isEvery 91 = .ok (.if_icmp .ne 7, 3) := by decide +kernel
theorem dX9_isEvery_94 : decode cX9_isEvery 94 = .ok (.iconst 1, 1) := by decide +kernel
theorem dX9_isEvery_95 : decode cX9_isEvery 95 = .ok (.goto 4, 3) := by decide +kernel
theorem dX9_isEvery_98 : decode cX9_isEvery 98 = .ok (.iconst 0, 1) := by decide +kernel
theorem dX9_isEvery_99 : decode cX9_isEvery 99 = .ok (.ireturn, 1) := by decide +kernel
theorem dX9_statement_0 : decode cX9_statement 0 = .ok (.aload_n 0, 1) := by decide +kernel
theorem dX9_statement_1 : decode cX9_statement 1 = .ok (.invokevirtual 139, 3) := by decide +kernel
theorem dX9_statement_4 : decode cX9_statement 4 = .ok (.ifCond .ne 9, 3) := by decide +kernel
theorem dX9_statement_7 : decode cX9_statement 7 = .ok (.aload_n 0, 1) := by decide +kernel
theorem dX9_statement_8 : decode cX9_statement 8 = .ok (.iconst 1, 1) := by decide +kernel
theorem dX9_statement_9 : decode cX9_statement 9 = .ok (.invokevirtual 143, 3) := by decide +kernel
theorem dX9_statement_12 : decode cX9_statement 12 = .ok (.ireturn, 1) := by decide +kernel
theorem dX9_statement_13 : decode cX9_statement 13 = .ok (.aload_n 0, 1) := by decide +kernel
theorem dX9_statement_14 : decode cX9_statement 14 = .ok (.invokevirtual 146, 3) := by decide +kernel
theorem dX9_statement_17 : decode cX9_statement 17 = .ok (.aload_n 0, 1) := by decide +kernel
theorem dX9_statement_18 : decode cX9_statement 18 = .ok (.getfield 130, 3) := by decide +kernel
theorem dX9_statement_21 : decode cX9_statement 21 = .ok (.iconst 2, 1) := by decide +kernel
theorem dX9_statement_22 : decode cX9_statement 22 = .ok (.if_icmp .eq 9, 3) := by decide +kernel
theorem dX9_statement_25 : decode cX9_statement 25 = .ok (.aload_n 0, 1) := by decide +kernel
theorem dX9_statement_26 : decode cX9_statement 26 = .ok (.iconst 1, 1) := by decide +kernel
theorem dX9_statement_27 : decode cX9_statement 27 = .ok (.invokevirtual 143, 3) := by decide +kernel
theorem dX9_statement_30 : decode cX9_statement 30 = .ok (.ireturn, 1) := by decide +kernel
theorem dX9_statement_31 : decode cX9_statement 31 = .ok (.aload_n 0, 1) := by decide +kernel
theorem dX9_statement_32 : decode cX9_statement 32 = .ok (.aload_n 0, 1) := by decide +kernel
theorem dX9_statement_33 : decode cX9_statement 33 = .ok (.getfield 133, 3) := by decide +kernel
theorem dX9_statement_36 : decode cX9_statement 36 = .ok (.invokevirtual 113, 3) := by decide +kernel
theorem dX9_statement_39 : decode cX9_statement 39 = .ok (.ifCond .ne 9, 3) := by decide +kernel
theorem dX9_statement_42 : decode cX9_statement 42 = .ok (.aload_n 0, 1) := by decide +kernel
theorem dX9_statement_43 : decode cX9_statement 43 = .ok (.iconst 2, 1) := by decide +kernel
theorem dX9_statement_44 : decode cX9_statement 44 = .ok (.invokevirtual 143, 3) := by decide +kernel
theorem dX9_statement_47 : decode cX9_statement 47 = .ok (.ireturn, 1) := by decide +kernel
theorem dX9_statement_48 : decode cX9_statement 48 = .ok (.aload_n 0, 1) := by decide +kernel
theorem dX9_statement_49 : decode cX9_statement 49 = .ok (.getfield 133, 3) := by decide +kernel
theorem dX9_statement_52 : decode cX9_statement 52 = .ok (.istore_n 1, 1) := by decide +kernel
theorem dX9_statement_53 : decode cX9_statement 53 = .ok (.aload_n 0, 1) := by decide +kernel
theorem dX9_statement_54 : decode cX9_statement 54 = .ok (.invokevirtual 146, 3) := by decide +kernel
theorem dX9_statement_57 : decode cX9_statement 57 = .ok (.aload_n 0, 1) := by decide +kernel
theorem dX9_statement_58 : decode cX9_statement 58 = .ok (.getfield 130, 3) := by decide +kernel
theorem dX9_statement_61 : decode cX9_statement 61 = .ok (.iconst 2, 1) := by decide +kernel
theorem dX9_statement_62 : decode cX9_statement 62 = .ok (.if_icmp .eq 9, 3) := by decide +kernel
theorem dX9_statement_65 : decode cX9_statement 65 = .ok (.aload_n 0, 1) := by decide +kernel
theorem dX9_statement_66 : decode cX9_statement 66 = .ok (.iconst 1, 1) := by decide +kernel
theorem dX9_statement_67 : decode cX9_statement 67 = .ok (.invokevirtual 143, 3) := by decide +kernel
theorem dX9_statement_70 : decode cX9_statement 70 = .ok (.ireturn, 1) := by decide +kernel
theorem dX9_statement_71 : decode cX9_statement 71 = .ok (.aload_n 0, 1) := by decide +kernel
theorem dX9_statement_72 : decode cX9_statement 72 = .ok (.getfield 133, 3) := by decide +kernel
theorem dX9_statement_75 : decode cX9_statement 75 = .ok (.istore_n 2, 1) := by decide +kernel
theorem dX9_statement_76 : decode cX9_statement 76 = .ok (.aload_n 0, 1) := by decide +kernel
theorem dX9_statement_77 : decode cX9_statement 77 = .ok (.invokevirtual 146, 3) := by decide +kernel
theorem dX9_statement_80 : decode cX9_statement 80 = .ok (.aload_n 0, 1) := by decide +kernel
theorem dX9_statement_81 : decode cX9_statement 81 = .ok (.getfield 130, 3) := by decide +kernel
theorem dX9_statement_84 : decode cX9_statement 84 = .ok (.iconst 3, 1) := by decide +kernel
theorem dX9_statement_85 : decode cX9_statement 85 = .ok (.if_icmp .eq 9, 3) := by decide +kernel
theorem dX9_statement_88 : decode cX9_statement 88 = .ok (.aload_n 0, 1) := by decide +kernel
theorem dX9_statement_89 : decode cX9_statement 89 = .ok (.iconst 1, 1) := by decide +kernel
theorem dX9_statement_90 : decode cX9_statement 90 = .ok (.invokevirtual 143, 3) := by decide +kernel
theorem dX9_statement_93 : decode cX9_statement 93 = .ok (.ireturn, 1) := by decide +kernel
theorem dX9_statement_94 : decode cX9_statement 94 = .ok (.aload_n 0, 1) := by decide +kernel
theorem dX9_statement_95 : decode cX9_statement 95 = .ok (.getfield 38, 3) := by decide +kernel
theorem dX9_statement_98 : decode cX9_statement 98 = .ok (.iload_n 1, 1) := by decide +kernel
theorem dX9_statement_99 : decode cX9_statement 99 = .ok (.iload_n 2, 1) := by decide +kernel
theorem dX9_statement_100 : decode cX9_statement 100 = .ok (.iastore, 1) := by decide +kernel
theorem dX9_statement_101 : decode cX9_statement 101 = .ok (.aload_n 0, 1) := by decide +kernel
theorem dX9_statement_102 : decode cX9_statement 102 = .ok (.invokevirtual 146, 3) := by decide +kernel
theorem dX9_statement_105 : decode cX9_statement 105 = .ok (.iconst 1, 1) := by decide +kernel
theorem dX9_statement_106 : decode cX9_statement 106 = .ok (.ireturn, 1) := by decide +kernel
theorem dX9_law_0 : decode cX9_law 0 = .ok (.aload_n 0, 1) := by decide +kernel
theorem dX9_law_1 : decode cX9_law 1 = .ok (.iconst 0, 1) := by decide +kernel
theorem dX9_law_2 : decode cX9_law 2 = .ok (.putfield 97, 3) := by decide +kernel
theorem dX9_law_5 : decode cX9_law 5 = .ok (.aload_n 0, 1) := by decide +kernel
theorem dX9_law_6 : decode cX9_law 6 = .ok (.getfield 149, 3) := by decide +kernel
theorem dX9_law_9 : decode cX9_law 9 = .ok (.bipush 20, 2) := by decide +kernel
theorem dX9_law_11 : decode cX9_law 11 = .ok (.if_icmp .ne 5, 3) := by decide +kernel
theorem dX9_law_14 : decode cX9_law 14 = .ok (.iconst (-1), 1) := by decide +kernel
theorem dX9_law_15 : decode cX9_law 15 = .ok (.ireturn, 1) := by decide +kernel
theorem dX9_law_16 : decode cX9_law 16 = .ok (.aload_n 0, 1) := by decide +kernel
theorem dX9_law_17 : decode cX9_law 17 = .ok (.iconst 0, 1) := by decide +kernel
theorem dX9_law_18 : decode cX9_law 18 = .ok (.putfield 136, 3) := by decide +kernel
theorem dX9_law_21 : decode cX9_law 21 = .ok (.aload_n 0, 1) := by decide +kernel
theorem dX9_law_22 : decode cX9_law 22 = .ok (.iconst (-1), 1) := by decide +kernel
theorem dX9_law_23 : decode cX9_law 23 = .ok (.putfield 41, 3) := by decide +kernel
theorem dX9_law_26 : decode cX9_law 26 = .ok (.iconst 0, 1) := by decide +kernel
theorem dX9_law_27 : decode cX9_law 27 = .ok (.istore_n 1, 1) := by decide +kernel
theorem dX9_law_28 : decode cX9_law 28 = .ok (.iload_n 1, 1) := by decide +kernel
theorem dX9_law_29 : decode cX9_law 29 = .ok (.bipush 8, 2) := by decide +kernel
theorem dX9_law_31 : decode cX9_law 31 = .ok (.if_icmp .ge 16, 3) := by decide +kernel
theorem dX9_law_34 : decode cX9_law 34 = .ok (.aload_n 0, 1) := by decide +kernel
theorem dX9_law_35 : decode cX9_law 35 = .ok (.getfield 38, 3) := by decide +kernel
theorem dX9_law_38 : decode cX9_law 38 = .ok (.iload_n 1, 1) := by decide +kernel
theorem dX9_law_39 : decode cX9_law 39 = .ok (.iconst (-1), 1) := by decide +kernel
theorem dX9_law_40 : decode cX9_law 40 = .ok (.iastore, 1) := by decide +kernel
theorem dX9_law_41 : decode cX9_law 41 = .ok (.iinc 1 1, 3) := by decide +kernel
theorem dX9_law_44 : decode cX9_law 44 = .ok (.goto (-16), 3) := by decide +kernel
theorem dX9_law_47 : decode cX9_law 47 = .ok (.aload_n 0, 1) := by decide +kernel
theorem dX9_law_48 : decode cX9_law 48 = .ok (.iconst 0, 1) := by decide +kernel
theorem dX9_law_49 : decode cX9_law 49 = .ok (.putfield 120, 3) := by decide +kernel
theorem dX9_law_52 : decode cX9_law 52 = .ok (.aload_n 0, 1) := by decide +kernel
theorem dX9_law_53 : decode cX9_law 53 = .ok (.invokevirtual 146, 3) := by decide +kernel
theorem dX9_law_56 : decode cX9_law 56 = .ok (.iconst 1, 1) := by decide +kernel
theorem dX9_law_57 : decode cX9_law 57 = .ok (.istore_n 1, 1) := by decide +kernel
theorem dX9_law_58 : decode cX9_law 58 = .ok (.iload_n 1, 1) := by decide +kernel
theorem dX9_law_59 : decode cX9_law 59 = .ok (.ifCond .eq 18, 3) := by decide +kernel
theorem dX9_law_62 : decode cX9_law 62 = .ok (.aload_n 0, 1) := by decide +kernel
theorem dX9_law_63 : decode cX9_law 63 = .ok (.getfield 130, 3) := by decide +kernel
theorem dX9_law_66 : decode cX9_law 66 = .ok (.ifCond .eq 11, 3) := by decide +kernel
theorem dX9_law_69 : decode cX9_law 69 = .ok (.aload_n 0, 1) := by decide +kernel
theorem dX9_law_70 : decode cX9_law 70 = .ok (.invokevirtual 152, 3) := by decide +kernel
theorem dX9_law_73 : decode cX9_law 73 = .ok (.istore_n 1, 1) := by decide +kernel
theorem dX9_law_74 : decode cX9_law 74 = .ok (.goto (-16), 3) := by decide +kernel
theorem dX9_law_77 : decode cX9_law 77 = .ok (.aload_n 0, 1) := by decide +kernel
theorem dX9_law_78 : decode cX9_law 78 = .ok (.iconst 0, 1) := by decide +kernel
theorem dX9_law_79 : decode cX9_law 79 = .ok (.putfield 117, 3) := by decide +kernel
theorem dX9_law_82 : decode cX9_law 82 = .ok (.aload_n 0, 1) := by decide +kernel
theorem dX9_law_83 : decode cX9_law 83 = .ok (.getfield 136, 3) := by decide +kernel
theorem dX9_law_86 : decode cX9_law 86 = .ok (.ifCond .le 10, 3) := by decide +kernel
theorem dX9_law_89 : decode cX9_law 89 = .ok (.iconst (-1), 1) := by decide +kernel
theorem dX9_law_90 : decode cX9_law 90 = .ok (.aload_n 0, 1) := by decide +kernel
theorem dX9_law_91 : decode cX9_law 91 = .ok (.getfield 136, 3) := by decide +kernel
theorem dX9_law_94 : decode cX9_law 94 = .ok (.isub, 1) := by decide +kernel
theorem dX9_law_95 : decode cX9_law 95 = .ok (.ireturn, 1) := by decide +kernel
theorem dX9_law_96 : decode cX9_law 96 = .ok (.iconst 0, 1) := by decide +kernel
theorem dX9_law_97 : decode cX9_law 97 = .ok (.istore_n 2, 1) := by decide +kernel
theorem dX9_law_98 : decode cX9_law 98 = .ok (.iload_n 2, 1) := by decide +kernel
theorem dX9_law_99 : decode cX9_law 99 = .ok (.bipush 8, 2) := by decide +kernel
theorem dX9_law_101 : decode cX9_law 101 = .ok (.if_icmp .ge 21, 3) := by decide +kernel
theorem dX9_law_104 : decode cX9_law 104 = .ok (.aload_n 0, 1) := by decide +kernel
theorem dX9_law_105 : decode cX9_law 105 = .ok (.getfield 35, 3) := by decide +kernel
theorem dX9_law_108 : decode cX9_law 108 = .ok (.iload_n 2, 1) := by decide +kernel
theorem dX9_law_109 : decode cX9_law 109 = .ok (.aload_n 0, 1) := by decide +kernel
theorem dX9_law_110 : decode cX9_law 110 = .ok (.getfield 38, 3) := by decide +kernel
theorem dX9_law_113 : decode cX9_law 113 = .ok (.iload_n 2, 1) := by decide +kernel
theorem dX9_law_114 : decode cX9_law 114 = .ok (.iaload, 1) := by decide +kernel
theorem dX9_law_115 : decode cX9_law 115 = .ok (.iastore, 1) := by decide +kernel
theorem dX9_law_116 : decode cX9_law 116 = .ok (.iinc 2 1, 3) := by decide +kernel
theorem dX9_law_119 : decode cX9_law 119 = .ok (.goto (-21), 3) := by decide +kernel
theorem dX9_law_122 : decode cX9_law 122 = .ok (.aload_n 0, 1) := by decide +kernel
theorem dX9_law_123 : decode cX9_law 123 = .ok (.dup, 1) := by decide +kernel
theorem dX9_law_124 : decode cX9_law 124 = .ok (.getfield 149, 3) := by decide +kernel
theorem dX9_law_127 : decode cX9_law 127 = .ok (.iconst 1, 1) := by decide +kernel
theorem dX9_law_128 : decode cX9_law 128 = .ok (.iadd, 1) := by decide +kernel
theorem dX9_law_129 : decode cX9_law 129 = .ok (.putfield 149, 3) := by decide +kernel
theorem dX9_law_132 : decode cX9_law 132 = .ok (.aload_n 0, 1) := by decide +kernel
theorem dX9_law_133 : decode cX9_law 133 = .ok (.getfield 149, 3) := by decide +kernel
theorem dX9_law_136 : decode cX9_law 136 = .ok (.iconst 1, 1) := by decide +kernel
theorem dX9_law_137 : decode cX9_law 137 = .ok (.isub, 1) := by decide +kernel
theorem dX9_law_138 : decode cX9_law 138 = .ok (.ireturn, 1) := by decide +kernel
theorem dX9_place_0 : decode cX9_place 0 = .ok (.aload_n 0, 1) := by decide +kernel
theorem dX9_place_1 : decode cX9_place 1 = .ok (.iconst 0, 1) := by decide +kernel
theorem dX9_place_2 : decode cX9_place 2 = .ok (.putfield 97, 3) := by decide +kernel
theorem dX9_place_5 : decode cX9_place 5 = .ok (.aload_n 0, 1) := by decide +kernel
theorem dX9_place_6 : decode cX9_place 6 = .ok (.getfield 41, 3) := by decide +kernel
theorem dX9_place_9 : decode cX9_place 9 = .ok (.ireturn, 1) := by decide +kernel
theorem dX9_wanted_0 : decode cX9_wanted 0 = .ok (.aload_n 0, 1) := by decide +kernel
theorem dX9_wanted_1 : decode cX9_wanted 1 = .ok (.getfield 149, 3) := by decide +kernel
theorem dX9_wanted_4 : decode cX9_wanted 4 = .ok (.ifCond .ne 7, 3) := by decide +kernel
theorem dX9_wanted_7 : decode cX9_wanted 7 = .ok (.iconst (-1), 1) := by decide +kernel
theorem dX9_wanted_8 : decode cX9_wanted 8 = .ok (.goto 9, 3) := by decide +kernel
theorem dX9_wanted_11 : decode cX9_wanted 11 = .ok (.aload_n 0, 1) := by decide +kernel
theorem dX9_wanted_12 : decode cX9_wanted 12 = .ok (.getfield 35, 3) := by decide +kernel
theorem dX9_wanted_15 : decode cX9_wanted 15 = .ok (.iload_n 1, 1) := by decide +kernel
theorem dX9_wanted_16 : decode cX9_wanted 16 = .ok (.iaload, 1) := by decide +kernel
theorem dX9_wanted_17 : decode cX9_wanted 17 = .ok (.ireturn, 1) := by decide +kernel
theorem dX9_isLawful_0 : decode cX9_isLawful 0 = .ok (.aload_n 0, 1) := by decide +kernel
theorem dX9_isLawful_1 : decode cX9_isLawful 1 = .ok (.aload_n 0, 1) := by decide +kernel
theorem dX9_isLawful_2 : decode cX9_isLawful 2 = .ok (.getfield 19, 3) := by decide +kernel
theorem dX9_isLawful_5 : decode cX9_isLawful 5 = .ok (.iload_n 1, 1) := by decide +kernel
theorem dX9_isLawful_6 : decode cX9_isLawful 6 = .ok (.iaload, 1) := by decide +kernel
theorem dX9_isLawful_7 : decode cX9_isLawful 7 = .ok (.invokevirtual 155, 3) := by decide +kernel
theorem dX9_isLawful_10 : decode cX9_isLawful 10 = .ok (.istore_n 3, 1) := by decide +kernel
theorem dX9_isLawful_11 : decode cX9_isLawful 11 = .ok (.iload_n 3, 1) := by decide +kernel
theorem dX9_isLawful_12 : decode cX9_isLawful 12 = .ok (.iconst (-1), 1) := by decide +kernel
theorem dX9_isLawful_13 : decode cX9_isLawful 13 = .ok (.if_icmp .eq 29, 3) := by decide +kernel
theorem dX9_isLawful_16 : decode cX9_isLawful 16 = .ok (.aload_n 0, 1) := by decide +kernel
theorem dX9_isLawful_17 : decode cX9_isLawful 17 = .ok (.getfield 22, 3) := by decide +kernel
theorem dX9_isLawful_20 : decode cX9_isLawful 20 = .ok (.iload_n 1, 1) := by decide +kernel
theorem dX9_isLawful_21 : decode cX9_isLawful 21 = .ok (.iaload, 1) := by decide +kernel
theorem dX9_isLawful_22 : decode cX9_isLawful 22 = .ok (.iconst (-1), 1) := by decide +kernel
theorem dX9_isLawful_23 : decode cX9_isLawful 23 = .ok (.if_icmp .eq 23, 3) := by decide +kernel
theorem dX9_isLawful_26 : decode cX9_isLawful 26 = .ok (.iload_n 2, 1) := by decide +kernel
theorem dX9_isLawful_27 : decode cX9_isLawful 27 = .ok (.i2l, 1) := by decide +kernel
theorem dX9_isLawful_28 : decode cX9_isLawful 28 = .ok (.aload_n 0, 1) := by decide +kernel
theorem dX9_isLawful_29 : decode cX9_isLawful 29 = .ok (.getfield 22, 3) := by decide +kernel
theorem dX9_isLawful_32 : decode cX9_isLawful 32 = .ok (.iload_n 1, 1) := by decide +kernel
theorem dX9_isLawful_33 : decode cX9_isLawful 33 = .ok (.iaload, 1) := by decide +kernel
theorem dX9_isLawful_34 : decode cX9_isLawful 34 = .ok (.i2l, 1) := by decide +kernel
theorem dX9_isLawful_35 : decode cX9_isLawful 35 = .ok (.lsub, 1) := by decide +kernel
theorem dX9_isLawful_36 : decode cX9_isLawful 36 = .ok (.iload_n 3, 1) := by decide +kernel
theorem dX9_isLawful_37 : decode cX9_isLawful 37 = .ok (.i2l, 1) := by decide +kernel
theorem dX9_isLawful_38 : decode cX9_isLawful 38 = .ok (.lcmp, 1) := by decide +kernel
theorem dX9_isLawful_39 : decode cX9_isLawful 39 = .ok (.ifCond .gt 7, 3) := by decide +kernel
theorem dX9_isLawful_42 : decode cX9_isLawful 42 = .ok (.iconst 1, 1) := by decide +kernel
theorem dX9_isLawful_43 : decode cX9_isLawful 43 = .ok (.goto 4, 3) := by decide +kernel
theorem dX9_isLawful_46 : decode cX9_isLawful 46 = .ok (.iconst 0, 1) := by decide +kernel
theorem dX9_isLawful_47 : decode cX9_isLawful 47 = .ok (.ireturn, 1) := by decide +kernel
theorem dX9_look_0 : decode cX9_look 0 = .ok (.aload_n 0, 1) := by decide +kernel
theorem dX9_look_1 : decode cX9_look 1 = .ok (.iconst 0, 1) := by decide +kernel
theorem dX9_look_2 : decode cX9_look 2 = .ok (.putfield 97, 3) := by decide +kernel
theorem dX9_look_5 : decode cX9_look 5 = .ok (.aload_n 0, 1) := by decide +kernel
theorem dX9_look_6 : decode cX9_look 6 = .ok (.iload_n 1, 1) := by decide +kernel
theorem dX9_look_7 : decode cX9_look 7 = .ok (.invokevirtual 158, 3) := by decide +kernel
theorem dX9_look_10 : decode cX9_look 10 = .ok (.ifCond .eq 12, 3) := by decide +kernel
theorem dX9_look_13 : decode cX9_look 13 = .ok (.aload_n 0, 1) := by decide +kernel
theorem dX9_look_14 : decode cX9_look 14 = .ok (.iload_n 1, 1) := by decide +kernel
theorem dX9_look_15 : decode cX9_look 15 = .ok (.invokevirtual 161, 3) := by decide +kernel
theorem dX9_look_18 : decode cX9_look 18 = .ok (.iconst (-1), 1) := by decide +kernel
theorem dX9_look_19 : decode cX9_look 19 = .ok (.if_icmp .eq 5, 3) := by decide +kernel
theorem dX9_look_22 : decode cX9_look 22 = .ok (.iconst 0, 1) := by decide +kernel
theorem dX9_look_23 : decode cX9_look 23 = .ok (.ireturn, 1) := by decide +kernel
theorem dX9_look_24 : decode cX9_look 24 = .ok (.aload_n 0, 1) := by decide +kernel
theorem dX9_look_25 : decode cX9_look 25 = .ok (.getfield 22, 3) := by decide +kernel
theorem dX9_look_28 : decode cX9_look 28 = .ok (.iload_n 1, 1) := by decide +kernel
theorem dX9_look_29 : decode cX9_look 29 = .ok (.aload_n 0, 1) := by decide +kernel
theorem dX9_look_30 : decode cX9_look 30 = .ok (.getfield 164, 3) := by decide +kernel
theorem dX9_look_33 : decode cX9_look 33 = .ok (.iastore, 1) := by decide +kernel
theorem dX9_look_34 : decode cX9_look 34 = .ok (.iconst 1, 1) := by decide +kernel
theorem dX9_look_35 : decode cX9_look 35 = .ok (.ireturn, 1) := by decide +kernel
theorem dX9_lawful_0 : decode cX9_lawful 0 = .ok (.aload_n 0, 1) := by decide +kernel
theorem dX9_lawful_1 : decode cX9_lawful 1 = .ok (.iconst 0, 1) := by decide +kernel
theorem dX9_lawful_2 : decode cX9_lawful 2 = .ok (.putfield 97, 3) := by decide +kernel
theorem dX9_lawful_5 : decode cX9_lawful 5 = .ok (.aload_n 0, 1) := by decide +kernel
theorem dX9_lawful_6 : decode cX9_lawful 6 = .ok (.iload_n 1, 1) := by decide +kernel
theorem dX9_lawful_7 : decode cX9_lawful 7 = .ok (.invokevirtual 158, 3) := by decide +kernel
theorem dX9_lawful_10 : decode cX9_lawful 10 = .ok (.ifCond .eq 11, 3) := by decide +kernel
theorem dX9_lawful_13 : decode cX9_lawful 13 = .ok (.iload_n 2, 1) := by decide +kernel
theorem dX9_lawful_14 : decode cX9_lawful 14 = .ok (.aload_n 0, 1) := by decide +kernel
theorem dX9_lawful_15 : decode cX9_lawful 15 = .ok (.getfield 164, 3) := by decide +kernel
theorem dX9_lawful_18 : decode cX9_lawful 18 = .ok (.if_icmp .ge 5, 3) := by decide +kernel
theorem dX9_lawful_21 : decode cX9_lawful 21 = .ok (.iconst (-1), 1) := by decide +kernel
theorem dX9_lawful_22 : decode cX9_lawful 22 = .ok (.ireturn, 1) := by decide +kernel
theorem dX9_lawful_23 : decode cX9_lawful 23 = .ok (.aload_n 0, 1) := by decide +kernel
theorem dX9_lawful_24 : decode cX9_lawful 24 = .ok (.iload_n 1, 1) := by decide +kernel
theorem dX9_lawful_25 : decode cX9_lawful 25 = .ok (.iload_n 2, 1) := by decide +kernel
theorem dX9_lawful_26 : decode cX9_lawful 26 = .ok (.invokevirtual 167, 3) := by decide +kernel
theorem dX9_lawful_29 : decode cX9_lawful 29 = .ok (.ifCond .eq 7, 3) := by decide +kernel
theorem dX9_lawful_32 : decode cX9_lawful 32 = .ok (.iconst 1, 1) := by decide +kernel
theorem dX9_lawful_33 : decode cX9_lawful 33 = .ok (.goto 4, 3) := by decide +kernel
theorem dX9_lawful_36 : decode cX9_lawful 36 = .ok (.iconst 0, 1) := by decide +kernel
theorem dX9_lawful_37 : decode cX9_lawful 37 = .ok (.ireturn, 1) := by decide +kernel
theorem dX9_counted_0 : decode cX9_counted 0 = .ok (.iconst 0, 1) := by decide +kernel
theorem dX9_counted_1 : decode cX9_counted 1 = .ok (.istore_n 2, 1) := by decide +kernel
theorem dX9_counted_2 : decode cX9_counted 2 = .ok (.iconst 0, 1) := by decide +kernel
theorem dX9_counted_3 : decode cX9_counted 3 = .ok (.istore_n 3, 1) := by decide +kernel
theorem dX9_counted_4 : decode cX9_counted 4 = .ok (.iload_n 3, 1) := by decide +kernel
theorem dX9_counted_5 : decode cX9_counted 5 = .ok (.aload_n 0, 1) := by decide +kernel
theorem dX9_counted_6 : decode cX9_counted 6 = .ok (.getfield 171, 3) := by decide +kernel
theorem dX9_counted_9 : decode cX9_counted 9 = .ok (.if_icmp .ge 27, 3) := by decide +kernel
theorem dX9_counted_12 : decode cX9_counted 12 = .ok (.iload_n 2, 1) := by decide +kernel
theorem dX9_counted_13 : decode cX9_counted 13 = .ok (.aload_n 0, 1) := by decide +kernel
theorem dX9_counted_14 : decode cX9_counted 14 = .ok (.getfield 45, 3) := by decide +kernel
theorem dX9_counted_17 : decode cX9_counted 17 = .ok (.iload_n 3, 1) := by decide +kernel
theorem dX9_counted_18 : decode cX9_counted 18 = .ok (.iaload, 1) := by decide +kernel
theorem dX9_counted_19 : decode cX9_counted 19 = .ok (.iload_n 1, 1) := by decide +kernel
theorem dX9_counted_20 : decode cX9_counted 20 = .ok (.if_icmp .ne 7, 3) := by decide +kernel
theorem dX9_counted_23 : decode cX9_counted 23 = .ok (.iconst 1, 1) := by decide +kernel
theorem dX9_counted_24 : decode cX9_counted 24 = .ok (.goto 4, 3) := by decide +kernel
theorem dX9_counted_27 : decode cX9_counted 27 = .ok (.iconst 0, 1) := by decide +kernel
theorem dX9_counted_28 : decode cX9_counted 28 = .ok (.iadd, 1) := by decide +kernel
theorem dX9_counted_29 : decode cX9_counted 29 = .ok (.istore_n 2, 1) := by decide +kernel
theorem dX9_counted_30 : decode cX9_counted 30 = .ok (.iinc 3 1, 3) := by decide +kernel
theorem dX9_counted_33 : decode cX9_counted 33 = .ok (.goto (-29), 3) := by decide +kernel
theorem dX9_counted_36 : decode cX9_counted 36 = .ok (.iload_n 2, 1) := by decide +kernel
theorem dX9_counted_37 : decode cX9_counted 37 = .ok (.ireturn, 1) := by decide +kernel
theorem dX9_ask_0 : decode cX9_ask 0 = .ok (.aload_n 0, 1) := by decide +kernel
theorem dX9_ask_1 : decode cX9_ask 1 = .ok (.iconst 0, 1) := by decide +kernel
theorem dX9_ask_2 : decode cX9_ask 2 = .ok (.putfield 97, 3) := by decide +kernel
theorem dX9_ask_5 : decode cX9_ask 5 = .ok (.aload_n 0, 1) := by decide +kernel
theorem dX9_ask_6 : decode cX9_ask 6 = .ok (.iload_n 1, 1) := by decide +kernel
theorem dX9_ask_7 : decode cX9_ask 7 = .ok (.invokevirtual 174, 3) := by decide +kernel
theorem dX9_ask_10 : decode cX9_ask 10 = .ok (.ifCond .eq 78, 3) := by decide +kernel
theorem dX9_ask_13 : decode cX9_ask 13 = .ok (.aload_n 0, 1) := by decide +kernel
theorem dX9_ask_14 : decode cX9_ask 14 = .ok (.iload_n 2, 1) := by decide +kernel
theorem dX9_ask_15 : decode cX9_ask 15 = .ok (.invokevirtual 113, 3) := by decide +kernel
theorem dX9_ask_18 : decode cX9_ask 18 = .ok (.ifCond .eq 70, 3) := by decide +kernel
theorem dX9_ask_21 : decode cX9_ask 21 = .ok (.iload_n 3, 1) := by decide +kernel
theorem dX9_ask_22 : decode cX9_ask 22 = .ok (.iconst 0, 1) := by decide +kernel
theorem dX9_ask_23 : decode cX9_ask 23 = .ok (.sipush 255, 3) := by decide +kernel
theorem dX9_ask_26 : decode cX9_ask 26 = .ok (.invokestatic 100, 3) := by decide +kernel
theorem dX9_ask_29 : decode cX9_ask 29 = .ok (.ifCond .eq 59, 3) := by decide +kernel
theorem dX9_ask_32 : decode cX9_ask 32 = .ok (.iload 4, 2) := by decide +kernel
theorem dX9_ask_34 : decode cX9_ask 34 = .ok (.aload_n 0, 1) := by decide +kernel
theorem dX9_ask_35 : decode cX9_ask 35 = .ok (.getfield 164, 3) := by decide +kernel
theorem dX9_ask_38 : decode cX9_ask 38 = .ok (.aload_n 0, 1) := by decide +kernel
theorem dX9_ask_39 : decode cX9_ask 39 = .ok (.getfield 164, 3) := by decide +kernel
theorem dX9_ask_42 : decode cX9_ask 42 = .ok (.bipush 60, 2) := by decide +kernel
theorem dX9_ask_44 : decode cX9_ask 44 = .ok (.iadd, 1) := by decide +kernel
theorem dX9_ask_45 : decode cX9_ask 45 = .ok (.invokestatic 100, 3) := by decide +kernel
theorem dX9_ask_48 : decode cX9_ask 48 = .ok (.ifCond .eq 40, 3) := by decide +kernel
theorem dX9_ask_51 : decode cX9_ask 51 = .ok (.iload 5, 2) := by decide +kernel
theorem dX9_ask_53 : decode cX9_ask 53 = .ok (.iload 4, 2) := by decide +kernel
theorem dX9_ask_55 : decode cX9_ask 55 = .ok (.aload_n 0, 1) := by decide +kernel
theorem dX9_ask_56 : decode cX9_ask 56 = .ok (.getfield 164, 3) := by decide +kernel
theorem dX9_ask_59 : decode cX9_ask 59 = .ok (.bipush 60, 2) := by decide +kernel
theorem dX9_ask_61 : decode cX9_ask 61 = .ok (.iadd, 1) := by decide +kernel
theorem dX9_ask_62 : decode cX9_ask 62 = .ok (.invokestatic 100, 3) := by decide +kernel
theorem dX9_ask_65 : decode cX9_ask 65 = .ok (.ifCond .eq 23, 3) := by decide +kernel
theorem dX9_ask_68 : decode cX9_ask 68 = .ok (.iload 5, 2) := by decide +kernel
theorem dX9_ask_70 : decode cX9_ask 70 = .ok (.iload 4, 2) := by decide +kernel
theorem dX9_ask_72 : decode cX9_ask 72 = .ok (.isub, 1) := by decide +kernel
theorem dX9_ask_73 : decode cX9_ask 73 = .ok (.bipush 14, 2) := by decide +kernel
theorem dX9_ask_75 : decode cX9_ask 75 = .ok (.if_icmp .gt 13, 3) := by decide +kernel
theorem dX9_ask_78 : decode cX9_ask 78 = .ok (.iload 6, 2) := by decide +kernel
theorem dX9_ask_80 : decode cX9_ask 80 = .ok (.iconst 0, 1) := by decide +kernel
theorem dX9_ask_81 : decode cX9_ask 81 = .ok (.iconst 2, 1) := by decide +kernel
theorem dX9_ask_82 : decode cX9_ask 82 = .ok (.invokestatic 100, 3) := by decide +kernel
theorem dX9_ask_85 : decode cX9_ask 85 = .ok (.ifCond .ne 5, 3) := by decide +kernel
theorem dX9_ask_88 : decode cX9_ask 88 = .ok (.iconst (-1), 1) := by decide +kernel
theorem dX9_ask_89 : decode cX9_ask 89 = .ok (.ireturn, 1) := by decide +kernel
theorem dX9_ask_90 : decode cX9_ask 90 = .ok (.aload_n 0, 1) := by decide +kernel
theorem dX9_ask_91 : decode cX9_ask 91 = .ok (.iconst 0, 1) := by decide +kernel
theorem dX9_ask_92 : decode cX9_ask 92 = .ok (.invokevirtual 177, 3) := by decide +kernel
theorem dX9_ask_95 : decode cX9_ask 95 = .ok (.iconst 5, 1) := by decide +kernel
theorem dX9_ask_96 : decode cX9_ask 96 = .ok (.if_icmp .eq 12, 3) := by decide +kernel
theorem dX9_ask_99 : decode cX9_ask 99 = .ok (.aload_n 0, 1) := by decide +kernel
theorem dX9_ask_100 : decode cX9_ask 100 = .ok (.getfield 171, 3) := by decide +kernel
theorem dX9_ask_103 : decode cX9_ask 103 = .ok (.bipush 120, 2) := by decide +kernel
theorem dX9_ask_105 : decode cX9_ask 105 = .ok (.if_icmp .ne 5, 3) := by decide +kernel
theorem dX9_ask_108 : decode cX9_ask 108 = .ok (.iconst (-1), 1) := by decide +kernel
theorem dX9_ask_109 : decode cX9_ask 109 = .ok (.ireturn, 1) := by decide +kernel
theorem dX9_ask_110 : decode cX9_ask 110 = .ok (.aload_n 0, 1) := by decide +kernel
theorem dX9_ask_111 : decode cX9_ask 111 = .ok (.getfield 45, 3) := by decide +kernel
theorem dX9_ask_114 : decode cX9_ask 114 = .ok (.aload_n 0, 1) := by decide +kernel
theorem dX9_ask_115 : decode cX9_ask 115 = .ok (.getfield 171, 3) := by decide +kernel
theorem dX9_ask_118 : decode cX9_ask 118 = .ok (.iconst 0, 1) := by decide +kernel
theorem dX9_ask_119 : decode cX9_ask 119 = .ok (.iastore, 1) := by decide +kernel
theorem dX9_ask_120 : decode cX9_ask 120 = .ok (.aload_n 0, 1) := by decide +kernel
theorem dX9_ask_121 : decode cX9_ask 121 = .ok (.getfield 48, 3) := by decide +kernel
theorem dX9_ask_124 : decode cX9_ask 124 = .ok (.aload_n 0, 1) := by decide +kernel
theorem dX9_ask_125 : decode cX9_ask 125 = .ok (.getfield 171, 3) := by decide +kernel
theorem dX9_ask_128 : decode cX9_ask 128 = .ok (.iconst (-1), 1) := by decide +kernel
theorem dX9_ask_129 : decode cX9_ask 129 = .ok (.iastore, 1) := by decide +kernel
theorem dX9_ask_130 : decode cX9_ask 130 = .ok (.aload_n 0, 1) := by decide +kernel
theorem dX9_ask_131 : decode cX9_ask 131 = .ok (.getfield 54, 3) := by decide +kernel
theorem dX9_ask_134 : decode cX9_ask 134 = .ok (.aload_n 0, 1) := by decide +kernel
theorem dX9_ask_135 : decode cX9_ask 135 = .ok (.getfield 171, 3) := by decide +kernel
theorem dX9_ask_138 : decode cX9_ask 138 = .ok (.iload_n 1, 1) := by decide +kernel
theorem dX9_ask_139 : decode cX9_ask 139 = .ok (.iastore, 1) := by decide +kernel
theorem dX9_ask_140 : decode cX9_ask 140 = .ok (.aload_n 0, 1) := by decide +kernel
theorem dX9_ask_141 : decode cX9_ask 141 = .ok (.getfield 57, 3) := by decide +kernel
theorem dX9_ask_144 : decode cX9_ask 144 = .ok (.aload_n 0, 1) := by decide +kernel
theorem dX9_ask_145 : decode cX9_ask 145 = .ok (.getfield 171, 3) := by decide +kernel
theorem dX9_ask_148 : decode cX9_ask 148 = .ok (.iload_n 2, 1) := by decide +kernel
theorem dX9_ask_149 : decode cX9_ask 149 = .ok (.iastore, 1) := by decide +kernel
theorem dX9_ask_150 : decode cX9_ask 150 = .ok (.aload_n 0, 1) := by decide +kernel
theorem dX9_ask_151 : decode cX9_ask 151 = .ok (.getfield 60, 3) := by decide +kernel
theorem dX9_ask_154 : decode cX9_ask 154 = .ok (.aload_n 0, 1) := by decide +kernel
theorem dX9_ask_155 : decode cX9_ask 155 = .ok (.getfield 171, 3) := by decide +kernel
theorem dX9_ask_158 : decode cX9_ask 158 = .ok (.iload_n 3, 1) := by decide +kernel
theorem dX9_ask_159 : decode cX9_ask 159 = .ok (.iastore, 1) := by decide +kernel
theorem dX9_ask_160 : decode cX9_ask 160 = .ok (.aload_n 0, 1) := by decide +kernel
theorem dX9_ask_161 : decode cX9_ask 161 = .ok (.getfield 63, 3) := by decide +kernel
theorem dX9_ask_164 : decode cX9_ask 164 = .ok (.aload_n 0, 1) := by decide +kernel
theorem dX9_ask_165 : decode cX9_ask 165 = .ok (.getfield 171, 3) := by decide +kernel
theorem dX9_ask_168 : decode cX9_ask 168 = .ok (.iload 4, 2) := by decide +kernel
theorem dX9_ask_170 : decode cX9_ask 170 = .ok (.iastore, 1) := by decide +kernel
theorem dX9_ask_171 : decode cX9_ask 171 = .ok (.aload_n 0, 1) := by decide +kernel
theorem dX9_ask_172 : decode cX9_ask 172 = .ok (.getfield 66, 3) := by decide +kernel
theorem dX9_ask_175 : decode cX9_ask 175 = .ok (.aload_n 0, 1) := by decide +kernel
theorem dX9_ask_176 : decode cX9_ask 176 = .ok (.getfield 171, 3) := by decide +kernel
theorem dX9_ask_179 : decode cX9_ask 179 = .ok (.iload 5, 2) := by decide +kernel
theorem dX9_ask_181 : decode cX9_ask 181 = .ok (.iastore, 1) := by decide +kernel
theorem dX9_ask_182 : decode cX9_ask 182 = .ok (.aload_n 0, 1) := by decide +kernel
theorem dX9_ask_183 : decode cX9_ask 183 = .ok (.getfield 69, 3) := by decide +kernel
theorem dX9_ask_186 : decode cX9_ask 186 = .ok (.aload_n 0, 1) := by decide +kernel
theorem dX9_ask_187 : decode cX9_ask 187 = .ok (.getfield 171, 3) := by decide +kernel
theorem dX9_ask_190 : decode cX9_ask 190 = .ok (.iload 6, 2) := by decide +kernel
theorem dX9_ask_192 : decode cX9_ask 192 = .ok (.iastore, 1) := by decide +kernel
theorem dX9_ask_193 : decode cX9_ask 193 = .ok (.aload_n 0, 1) := by decide +kernel
theorem dX9_ask_194 : decode cX9_ask 194 = .ok (.dup, 1) := by decide +kernel
theorem dX9_ask_195 : decode cX9_ask 195 = .ok (.getfield 171, 3) := by decide +kernel
theorem dX9_ask_198 : decode cX9_ask 198 = .ok (.iconst 1, 1) := by decide +kernel
theorem dX9_ask_199 : decode cX9_ask 199 = .ok (.iadd, 1) := by decide +kernel
theorem dX9_ask_200 : decode cX9_ask 200 = .ok (.putfield 171, 3) := by decide +kernel
theorem dX9_ask_203 : decode cX9_ask 203 = .ok (.aload_n 0, 1) := by decide +kernel
theorem dX9_ask_204 : decode cX9_ask 204 = .ok (.getfield 171, 3) := by decide +kernel
theorem dX9_ask_207 : decode cX9_ask 207 = .ok (.iconst 1, 1) := by decide +kernel
theorem dX9_ask_208 : decode cX9_ask 208 = .ok (.isub, 1) := by decide +kernel
theorem dX9_ask_209 : decode cX9_ask 209 = .ok (.ireturn, 1) := by decide +kernel
theorem dX9_fits_0 : decode cX9_fits 0 = .ok (.iload_n 1, 1) := by decide +kernel
theorem dX9_fits_1 : decode cX9_fits 1 = .ok (.aload_n 0, 1) := by decide +kernel
theorem dX9_fits_2 : decode cX9_fits 2 = .ok (.getfield 57, 3) := by decide +kernel
theorem dX9_fits_5 : decode cX9_fits 5 = .ok (.iload_n 2, 1) := by decide +kernel
theorem dX9_fits_6 : decode cX9_fits 6 = .ok (.iaload, 1) := by decide +kernel
theorem dX9_fits_7 : decode cX9_fits 7 = .ok (.if_icmp .eq 34, 3) := by decide +kernel
theorem dX9_fits_10 : decode cX9_fits 10 = .ok (.aload_n 0, 1) := by decide +kernel
theorem dX9_fits_11 : decode cX9_fits 11 = .ok (.getfield 60, 3) := by decide +kernel
theorem dX9_fits_14 : decode cX9_fits 14 = .ok (.iload_n 2, 1) := by decide +kernel
theorem dX9_fits_15 : decode cX9_fits 15 = .ok (.iaload, 1) := by decide +kernel
theorem dX9_fits_16 : decode cX9_fits 16 = .ok (.ifCond .eq 29, 3) := by decide +kernel
theorem dX9_fits_19 : decode cX9_fits 19 = .ok (.aload_n 0, 1) := by decide +kernel
theorem dX9_fits_20 : decode cX9_fits 20 = .ok (.getfield 13, 3) := by decide +kernel
theorem dX9_fits_23 : decode cX9_fits 23 = .ok (.iload_n 1, 1) := by decide +kernel
theorem dX9_fits_24 : decode cX9_fits 24 = .ok (.iaload, 1) := by decide +kernel
theorem dX9_fits_25 : decode cX9_fits 25 = .ok (.aload_n 0, 1) := by decide +kernel
theorem dX9_fits_26 : decode cX9_fits 26 = .ok (.getfield 60, 3) := by decide +kernel
theorem dX9_fits_29 : decode cX9_fits 29 = .ok (.iload_n 2, 1) := by decide +kernel
theorem dX9_fits_30 : decode cX9_fits 30 = .ok (.iaload, 1) := by decide +kernel
theorem dX9_fits_31 : decode cX9_fits 31 = .ok (.iand, 1) := by decide +kernel
theorem dX9_fits_32 : decode cX9_fits 32 = .ok (.aload_n 0, 1) := by decide +kernel
theorem dX9_fits_33 : decode cX9_fits 33 = .ok (.getfield 60, 3) := by decide +kernel
theorem dX9_fits_36 : decode cX9_fits 36 = .ok (.iload_n 2, 1) := by decide +kernel
theorem dX9_fits_37 : decode cX9_fits 37 = .ok (.iaload, 1) := by decide +kernel
theorem dX9_fits_38 : decode cX9_fits 38 = .ok (.if_icmp .ne 7, 3) := by decide +kernel
theorem dX9_fits_41 : decode cX9_fits 41 = .ok (.iconst 1, 1) := by decide +kernel
theorem dX9_fits_42 : decode cX9_fits 42 = .ok (.goto 4, 3) := by decide +kernel
theorem dX9_fits_45 : decode cX9_fits 45 = .ok (.iconst 0, 1) := by decide +kernel
theorem dX9_fits_46 : decode cX9_fits 46 = .ok (.ireturn, 1) := by decide +kernel
theorem dX9_outWith_0 : decode cX9_outWith 0 = .ok (.iconst 0, 1) := by decide +kernel
theorem dX9_outWith_1 : decode cX9_outWith 1 = .ok (.istore_n 2, 1) := by decide +kernel
theorem dX9_outWith_2 : decode cX9_outWith 2 = .ok (.iload_n 2, 1) := by decide +kernel
theorem dX9_outWith_3 : decode cX9_outWith 3 = .ok (.aload_n 0, 1) := by decide +kernel
theorem dX9_outWith_4 : decode cX9_outWith 4 = .ok (.getfield 171, 3) := by decide +kernel
theorem dX9_outWith_7 : decode cX9_outWith 7 = .ok (.if_icmp .ge 31, 3) := by decide +kernel
theorem dX9_outWith_10 : decode cX9_outWith 10 = .ok (.aload_n 0, 1) := by decide +kernel
theorem dX9_outWith_11 : decode cX9_outWith 11 = .ok (.getfield 45, 3) := by decide +kernel
theorem dX9_outWith_14 : decode cX9_outWith 14 = .ok (.iload_n 2, 1) := by decide +kernel
theorem dX9_outWith_15 : decode cX9_outWith 15 = .ok (.iaload, 1) := by decide +kernel
theorem dX9_outWith_16 : decode cX9_outWith 16 = .ok (.iconst 3, 1) := by decide +kernel
theorem dX9_outWith_17 : decode cX9_outWith 17 = .ok (.if_icmp .ne 15, 3) := by decide +kernel
theorem dX9_outWith_20 : decode cX9_outWith 20 = .ok (.aload_n 0, 1) := by decide +kernel
theorem dX9_outWith_21 : decode cX9_outWith 21 = .ok (.getfield 48, 3) := by decide +kernel
theorem dX9_outWith_24 : decode cX9_outWith 24 = .ok (.iload_n 2, 1) := by decide +kernel
theorem dX9_outWith_25 : decode cX9_outWith 25 = .ok (.iaload, 1) := by decide +kernel
theorem dX9_outWith_26 : decode cX9_outWith 26 = .ok (.iload_n 1, 1) := by decide +kernel
theorem dX9_outWith_27 : decode cX9_outWith 27 = .ok (.if_icmp .ne 5, 3) := by decide +kernel
theorem dX9_outWith_30 : decode cX9_outWith 30 = .ok (.iload_n 2, 1) := by decide +kernel
theorem dX9_outWith_31 : decode cX9_outWith 31 = .ok (.ireturn, 1) := by decide +kernel
theorem dX9_outWith_32 : decode cX9_outWith 32 = .ok (.iinc 2 1, 3) := by decide +kernel
theorem dX9_outWith_35 : decode cX9_outWith 35 = .ok (.goto (-33), 3) := by decide +kernel
theorem dX9_outWith_38 : decode cX9_outWith 38 = .ok (.iconst (-1), 1) := by decide +kernel
theorem dX9_outWith_39 : decode cX9_outWith 39 = .ok (.ireturn, 1) := by decide +kernel
theorem dX9_endOf_0 : decode cX9_endOf 0 = .ok (.aload_n 0, 1) := by decide +kernel
theorem dX9_endOf_1 : decode cX9_endOf 1 = .ok (.getfield 45, 3) := by decide +kernel
theorem dX9_endOf_4 : decode cX9_endOf 4 = .ok (.iload_n 1, 1) := by decide +kernel
theorem dX9_endOf_5 : decode cX9_endOf 5 = .ok (.iaload, 1) := by decide +kernel
theorem dX9_endOf_6 : decode cX9_endOf 6 = .ok (.iconst 4, 1) := by decide +kernel
theorem dX9_endOf_7 : decode cX9_endOf 7 = .ok (.if_icmp .ne 12, 3) := by decide +kernel
theorem dX9_endOf_10 : decode cX9_endOf 10 = .ok (.aload_n 0, 1) := by decide +kernel
theorem dX9_endOf_11 : decode cX9_endOf 11 = .ok (.getfield 72, 3) := by decide +kernel
theorem dX9_endOf_14 : decode cX9_endOf 14 = .ok (.iload_n 1, 1) := by decide +kernel
theorem dX9_endOf_15 : decode cX9_endOf 15 = .ok (.iaload, 1) := by decide +kernel
theorem dX9_endOf_16 : decode cX9_endOf 16 = .ok (.goto 39, 3) := by decide +kernel
theorem dX9_endOf_19 : decode cX9_endOf 19 = .ok (.aload_n 0, 1) := by decide +kernel
theorem dX9_endOf_20 : decode cX9_endOf 20 = .ok (.getfield 45, 3) := by decide +kernel
theorem dX9_endOf_23 : decode cX9_endOf 23 = .ok (.iload_n 1, 1) := by decide +kernel
theorem dX9_endOf_24 : decode cX9_endOf 24 = .ok (.iaload, 1) := by decide +kernel
theorem dX9_endOf_25 : decode cX9_endOf 25 = .ok (.iconst 3, 1) := by decide +kernel
theorem dX9_endOf_26 : decode cX9_endOf 26 = .ok (.if_icmp .ne 23, 3) := by decide +kernel
theorem dX9_endOf_29 : decode cX9_endOf 29 = .ok (.aload_n 0, 1) := by decide +kernel
theorem dX9_endOf_30 : decode cX9_endOf 30 = .ok (.getfield 164, 3) := by decide +kernel
theorem dX9_endOf_33 : decode cX9_endOf 33 = .ok (.aload_n 0, 1) := by decide +kernel
theorem dX9_endOf_34 : decode cX9_endOf 34 = .ok (.getfield 66, 3) := by decide +kernel
theorem dX9_endOf_37 : decode cX9_endOf 37 = .ok (.iload_n 1, 1) := by decide +kernel
theorem dX9_endOf_38 : decode cX9_endOf 38 = .ok (.iaload, 1) := by decide +kernel
theorem dX9_endOf_39 : decode cX9_endOf 39 = .ok (.if_icmp .le 10, 3) := by decide +kernel
theorem dX9_endOf_42 : decode cX9_endOf 42 = .ok (.aload_n 0, 1) := by decide +kernel
theorem dX9_endOf_43 : decode cX9_endOf 43 = .ok (.getfield 164, 3) := by decide +kernel
theorem dX9_endOf_46 : decode cX9_endOf 46 = .ok (.goto 9, 3) := by decide +kernel
theorem dX9_endOf_49 : decode cX9_endOf 49 = .ok (.aload_n 0, 1) := by decide +kernel
theorem dX9_endOf_50 : decode cX9_endOf 50 = .ok (.getfield 66, 3) := by decide +kernel
theorem dX9_endOf_53 : decode cX9_endOf 53 = .ok (.iload_n 1, 1) := by decide +kernel
theorem dX9_endOf_54 : decode cX9_endOf 54 = .ok (.iaload, 1) := by decide +kernel
theorem dX9_endOf_55 : decode cX9_endOf 55 = .ok (.ireturn, 1) := by decide +kernel
theorem dX9_areNear_0 : decode cX9_areNear 0 = .ok (.lload_n 0, 1) := by decide +kernel
theorem dX9_areNear_1 : decode cX9_areNear 1 = .ok (.lload 6, 2) := by decide +kernel
theorem dX9_areNear_3 : decode cX9_areNear 3 = .ok (.iload 8, 2) := by decide +kernel
theorem dX9_areNear_5 : decode cX9_areNear 5 = .ok (.i2l, 1) := by decide +kernel
theorem dX9_areNear_6 : decode cX9_areNear 6 = .ok (.ladd, 1) := by decide +kernel
theorem dX9_areNear_7 : decode cX9_areNear 7 = .ok (.lcmp, 1) := by decide +kernel
theorem dX9_areNear_8 : decode cX9_areNear 8 = .ok (.ifCond .gt 18, 3) := by decide +kernel
theorem dX9_areNear_11 : decode cX9_areNear 11 = .ok (.lload 4, 2) := by decide +kernel
theorem dX9_areNear_13 : decode cX9_areNear 13 = .ok (.lload_n 2, 1) := by decide +kernel
theorem dX9_areNear_14 : decode cX9_areNear 14 = .ok (.iload 8, 2) := by decide +kernel
theorem dX9_areNear_16 : decode cX9_areNear 16 = .ok (.i2l, 1) := by decide +kernel
theorem dX9_areNear_17 : decode cX9_areNear 17 = .ok (.ladd, 1) := by decide +kernel
theorem dX9_areNear_18 : decode cX9_areNear 18 = .ok (.lcmp, 1) := by decide +kernel
theorem dX9_areNear_19 : decode cX9_areNear 19 = .ok (.ifCond .gt 7, 3) := by decide +kernel
theorem dX9_areNear_22 : decode cX9_areNear 22 = .ok (.iconst 1, 1) := by decide +kernel
theorem dX9_areNear_23 : decode cX9_areNear 23 = .ok (.goto 4, 3) := by decide +kernel
theorem dX9_areNear_26 : decode cX9_areNear 26 = .ok (.iconst 0, 1) := by decide +kernel
theorem dX9_areNear_27 : decode cX9_areNear 27 = .ok (.ireturn, 1) := by decide +kernel
theorem dX9_isFreeFor_0 : decode cX9_isFreeFor 0 = .ok (.iconst 0, 1) := by decide +kernel
theorem dX9_isFreeFor_1 : decode cX9_isFreeFor 1 = .ok (.istore 5, 2) := by decide +kernel
theorem dX9_isFreeFor_3 : decode cX9_isFreeFor 3 = .ok (.iload 5, 2) := by decide +kernel
theorem dX9_isFreeFor_5 : decode cX9_isFreeFor 5 = .ok (.aload_n 0, 1) := by decide +kernel
theorem dX9_isFreeFor_6 : decode cX9_isFreeFor 6 = .ok (.getfield 171, 3) := by decide +kernel
theorem dX9_isFreeFor_9 : decode cX9_isFreeFor 9 = .ok (.if_icmp .ge 101, 3) := by decide +kernel
theorem dX9_isFreeFor_12 : decode cX9_isFreeFor 12 = .ok (.iload 5, 2) := by decide +kernel
theorem dX9_isFreeFor_14 : decode cX9_isFreeFor 14 = .ok (.iload 4, 2) := by decide +kernel
theorem dX9_isFreeFor_16 : decode cX9_isFreeFor 16 = .ok (.if_icmp .eq 88, 3) := by decide +kernel
theorem dX9_isFreeFor_19 : decode cX9_isFreeFor 19 = .ok (.aload_n 0, 1) := by decide +kernel
theorem dX9_isFreeFor_20 : decode cX9_isFreeFor 20 = .ok (.getfield 48, 3) := by decide +kernel
theorem dX9_isFreeFor_23 : decode cX9_isFreeFor 23 = .ok (.iload 5, 2) := by decide +kernel
theorem dX9_isFreeFor_25 : decode cX9_isFreeFor 25 = .ok (.iaload, 1) := by decide +kernel
theorem dX9_isFreeFor_26 : decode cX9_isFreeFor 26 = .ok (.iload_n 1, 1) := by decide +kernel
theorem dX9_isFreeFor_27 : decode cX9_isFreeFor 27 = .ok (.if_icmp .ne 77, 3) := by decide +kernel
theorem dX9_isFreeFor_30 : decode cX9_isFreeFor 30 = .ok (.aload_n 0, 1) := by decide +kernel
theorem dX9_isFreeFor_31 : decode cX9_isFreeFor 31 = .ok (.getfield 45, 3) := by decide +kernel
theorem dX9_isFreeFor_34 : decode cX9_isFreeFor 34 = .ok (.iload 5, 2) := by decide +kernel
theorem dX9_isFreeFor_36 : decode cX9_isFreeFor 36 = .ok (.iaload, 1) := by decide +kernel
theorem dX9_isFreeFor_37 : decode cX9_isFreeFor 37 = .ok (.iconst 1, 1) := by decide +kernel
theorem dX9_isFreeFor_38 : decode cX9_isFreeFor 38 = .ok (.if_icmp .eq 28, 3) := by decide +kernel
theorem dX9_isFreeFor_41 : decode cX9_isFreeFor 41 = .ok (.aload_n 0, 1) := by decide +kernel
theorem dX9_isFreeFor_42 : decode cX9_isFreeFor 42 = .ok (.getfield 45, 3) := by decide +kernel
theorem dX9_isFreeFor_45 : decode cX9_isFreeFor 45 = .ok (.iload 5, 2) := by decide +kernel
theorem dX9_isFreeFor_47 : decode cX9_isFreeFor 47 = .ok (.iaload, 1) := by decide +kernel
theorem dX9_isFreeFor_48 : decode cX9_isFreeFor 48 = .ok (.iconst 3, 1) := by decide +kernel
theorem dX9_isFreeFor_49 : decode cX9_isFreeFor 49 = .ok (.if_icmp .eq 17, 3) := by decide +kernel
theorem dX9_isFreeFor_52 : decode cX9_isFreeFor 52 = .ok (.aload_n 0, 1) := by decide +kernel
theorem dX9_isFreeFor_53 : decode cX9_isFreeFor 53 = .ok (.getfield 45, 3) := by decide +kernel
theorem dX9_isFreeFor_56 : decode cX9_isFreeFor 56 = .ok (.iload 5, 2) := by decide +kernel
theorem dX9_isFreeFor_58 : decode cX9_isFreeFor 58 = .ok (.iaload, 1) := by decide +kernel
theorem dX9_isFreeFor_59 : decode cX9_isFreeFor 59 = .ok (.iconst 4, 1) := by decide +kernel
theorem dX9_isFreeFor_60 : decode cX9_isFreeFor 60 = .ok (.if_icmp .eq 6, 3) := by decide +kernel
theorem dX9_isFreeFor_63 : decode cX9_isFreeFor 63 = .ok (.goto 41, 3) := by decide +kernel
theorem dX9_isFreeFor_66 : decode cX9_isFreeFor 66 = .ok (.iload_n 2, 1) := by decide +kernel
theorem dX9_isFreeFor_67 : decode cX9_isFreeFor 67 = .ok (.i2l, 1) := by decide +kernel
theorem dX9_isFreeFor_68 : decode cX9_isFreeFor 68 = .ok (.iload_n 3, 1) := by decide +kernel
theorem dX9_isFreeFor_69 : decode cX9_isFreeFor 69 = .ok (.i2l, 1) := by decide +kernel
theorem dX9_isFreeFor_70 : decode cX9_isFreeFor 70 = .ok (.aload_n 0, 1) := by decide +kernel
theorem dX9_isFreeFor_71 : decode cX9_isFreeFor 71 = .ok (.getfield 63, 3) := by decide +kernel
theorem dX9_isFreeFor_74 : decode cX9_isFreeFor 74 = .ok (.iload 5, 2) := by decide +kernel
theorem dX9_isFreeFor_76 : decode cX9_isFreeFor 76 = .ok (.iaload, 1) := by decide +kernel
theorem dX9_isFreeFor_77 : decode cX9_isFreeFor 77 = .ok (.i2l, 1) := by decide +kernel
theorem dX9_isFreeFor_78 : decode cX9_isFreeFor 78 = .ok (.aload_n 0, 1) := by decide +kernel
theorem dX9_isFreeFor_79 : decode cX9_isFreeFor 79 = .ok (.iload 5, 2) := by decide +kernel
theorem dX9_isFreeFor_81 : decode cX9_isFreeFor 81 = .ok (.invokevirtual 180, 3) := by decide +kernel
theorem dX9_isFreeFor_84 : decode cX9_isFreeFor 84 = .ok (.i2l, 1) := by decide +kernel
theorem dX9_isFreeFor_85 : decode cX9_isFreeFor 85 = .ok (.aload_n 0, 1) := by decide +kernel
theorem dX9_isFreeFor_86 : decode cX9_isFreeFor 86 = .ok (.getfield 7, 3) := by decide +kernel
theorem dX9_isFreeFor_89 : decode cX9_isFreeFor 89 = .ok (.aload_n 0, 1) := by decide +kernel
theorem dX9_isFreeFor_90 : decode cX9_isFreeFor 90 = .ok (.getfield 19, 3) := by decide +kernel
theorem dX9_isFreeFor_93 : decode cX9_isFreeFor 93 = .ok (.iload_n 1, 1) := by decide +kernel
theorem dX9_isFreeFor_94 : decode cX9_isFreeFor 94 = .ok (.iaload, 1) := by decide +kernel
theorem dX9_isFreeFor_95 : decode cX9_isFreeFor 95 = .ok (.iaload, 1) := by decide +kernel
theorem dX9_isFreeFor_96 : decode cX9_isFreeFor 96 = .ok (.invokestatic 183, 3) := by decide +kernel
theorem dX9_isFreeFor_99 : decode cX9_isFreeFor 99 = .ok (.ifCond .eq 5, 3) := by decide +kernel
theorem dX9_isFreeFor_102 : decode cX9_isFreeFor 102 = .ok (.iconst 0, 1) := by decide +kernel
theorem dX9_isFreeFor_103 : decode cX9_isFreeFor 103 = .ok (.ireturn, 1) := by decide +kernel
theorem dX9_isFreeFor_104 : decode cX9_isFreeFor 104 = .ok (.iinc 5 1, 3) := by decide +kernel
theorem dX9_isFreeFor_107 : decode cX9_isFreeFor 107 = .ok (.goto (-104), 3) := by decide +kernel
theorem dX9_isFreeFor_110 : decode cX9_isFreeFor 110 = .ok (.iconst 1, 1) := by decide +kernel
theorem dX9_isFreeFor_111 : decode cX9_isFreeFor 111 = .ok (.ireturn, 1) := by decide +kernel
theorem dX9_worth_0 : decode cX9_worth 0 = .ok (.iconst 0, 1) := by decide +kernel
theorem dX9_worth_1 : decode cX9_worth 1 = .ok (.istore_n 1, 1) := by decide +kernel
theorem dX9_worth_2 : decode cX9_worth 2 = .ok (.iconst 0, 1) := by decide +kernel
theorem dX9_worth_3 : decode cX9_worth 3 = .ok (.istore_n 2, 1) := by decide +kernel
theorem dX9_worth_4 : decode cX9_worth 4 = .ok (.iload_n 2, 1) := by decide +kernel
theorem dX9_worth_5 : decode cX9_worth 5 = .ok (.aload_n 0, 1) := by decide +kernel
theorem dX9_worth_6 : decode cX9_worth 6 = .ok (.getfield 187, 3) := by decide +kernel
theorem dX9_worth_9 : decode cX9_worth 9 = .ok (.if_icmp .ge 102, 3) := by decide +kernel
theorem dX9_worth_12 : decode cX9_worth 12 = .ok (.aload_n 0, 1) := by decide +kernel
theorem dX9_worth_13 : decode cX9_worth 13 = .ok (.getfield 78, 3) := by decide +kernel
theorem dX9_worth_16 : decode cX9_worth 16 = .ok (.iload_n 2, 1) := by decide +kernel
theorem dX9_worth_17 : decode cX9_worth 17 = .ok (.iaload, 1) := by decide +kernel
theorem dX9_worth_18 : decode cX9_worth 18 = .ok (.iconst (-1), 1) := by decide +kernel
theorem dX9_worth_19 : decode cX9_worth 19 = .ok (.if_icmp .ne 6, 3) := by decide +kernel
theorem dX9_worth_22 : decode cX9_worth 22 = .ok (.goto 83, 3) := by decide +kernel
theorem dX9_worth_25 : decode cX9_worth 25 = .ok (.iload_n 1, 1) := by decide +kernel
theorem dX9_worth_26 : decode cX9_worth 26 = .ok (.aload_n 0, 1) := by decide +kernel
theorem dX9_worth_27 : decode cX9_worth 27 = .ok (.getfield 69, 3) := by decide +kernel
theorem dX9_worth_30 : decode cX9_worth 30 = .ok (.aload_n 0, 1) := by decide +kernel
theorem dX9_worth_31 : decode cX9_worth 31 = .ok (.getfield 75, 3) := by decide +kernel
theorem dX9_worth_34 : decode cX9_worth 34 = .ok (.iload_n 2, 1) := by decide +kernel
theorem dX9_worth_35 : decode cX9_worth 35 = .ok (.iaload, 1) := by decide +kernel
theorem dX9_worth_36 : decode cX9_worth 36 = .ok (.iaload, 1) := by decide +kernel
theorem dX9_worth_37 : decode cX9_worth 37 = .ok (.iconst 2, 1) := by decide +kernel
theorem dX9_worth_38 : decode cX9_worth 38 = .ok (.if_icmp .ne 9, 3) := by decide +kernel
theorem dX9_worth_41 : decode cX9_worth 41 = .ok (.sipush 10000, 3) := by decide +kernel
theorem dX9_worth_44 : decode cX9_worth 44 = .ok (.goto 26, 3) := by decide +kernel
theorem dX9_worth_47 : decode cX9_worth 47 = .ok (.aload_n 0, 1) := by decide +kernel
theorem dX9_worth_48 : decode cX9_worth 48 = .ok (.getfield 69, 3) := by decide +kernel
theorem dX9_worth_51 : decode cX9_worth 51 = .ok (.aload_n 0, 1) := by decide +kernel
theorem dX9_worth_52 : decode cX9_worth 52 = .ok (.getfield 75, 3) := by decide +kernel
theorem dX9_worth_55 : decode cX9_worth 55 = .ok (.iload_n 2, 1) := by decide +kernel
theorem dX9_worth_56 : decode cX9_worth 56 = .ok (.iaload, 1) := by decide +kernel
theorem dX9_worth_57 : decode cX9_worth 57 = .ok (.iaload, 1) := by decide +kernel
theorem dX9_worth_58 : decode cX9_worth 58 = .ok (.iconst 1, 1) := by decide +kernel
theorem dX9_worth_59 : decode cX9_worth 59 = .ok (.if_icmp .ne 9, 3) := by decide +kernel
theorem dX9_worth_62 : decode cX9_worth 62 = .ok (.sipush 1000, 3) := by decide +kernel
theorem dX9_worth_65 : decode cX9_worth 65 = .ok (.goto 5, 3) := by decide +kernel
theorem dX9_worth_68 : decode cX9_worth 68 = .ok (.bipush 100, 2) := by decide +kernel
theorem dX9_worth_70 : decode cX9_worth 70 = .ok (.iadd, 1) := by decide +kernel
theorem dX9_worth_71 : decode cX9_worth 71 = .ok (.istore_n 1, 1) := by decide +kernel
theorem dX9_worth_72 : decode cX9_worth 72 = .ok (.iload_n 1, 1) := by decide +kernel
theorem dX9_worth_73 : decode cX9_worth 73 = .ok (.aload_n 0, 1) := by decide +kernel
theorem dX9_worth_74 : decode cX9_worth 74 = .ok (.getfield 19, 3) := by decide +kernel
theorem dX9_worth_77 : decode cX9_worth 77 = .ok (.aload_n 0, 1) := by decide +kernel
theorem dX9_worth_78 : decode cX9_worth 78 = .ok (.getfield 78, 3) := by decide +kernel
theorem dX9_worth_81 : decode cX9_worth 81 = .ok (.iload_n 2, 1) := by decide +kernel
theorem dX9_worth_82 : decode cX9_worth 82 = .ok (.iaload, 1) := by decide +kernel
theorem dX9_worth_83 : decode cX9_worth 83 = .ok (.iaload, 1) := by decide +kernel
theorem dX9_worth_84 : decode cX9_worth 84 = .ok (.aload_n 0, 1) := by decide +kernel
theorem dX9_worth_85 : decode cX9_worth 85 = .ok (.getfield 57, 3) := by decide +kernel
theorem dX9_worth_88 : decode cX9_worth 88 = .ok (.aload_n 0, 1) := by decide +kernel
theorem dX9_worth_89 : decode cX9_worth 89 = .ok (.getfield 75, 3) := by decide +kernel
theorem dX9_worth_92 : decode cX9_worth 92 = .ok (.iload_n 2, 1) := by decide +kernel
theorem dX9_worth_93 : decode cX9_worth 93 = .ok (.iaload, 1) := by decide +kernel
theorem dX9_worth_94 : decode cX9_worth 94 = .ok (.iaload, 1) := by decide +kernel
theorem dX9_worth_95 : decode cX9_worth 95 = .ok (.if_icmp .ne 7, 3) := by decide +kernel
theorem dX9_worth_98 : decode cX9_worth 98 = .ok (.iconst 0, 1) := by decide +kernel
theorem dX9_worth_99 : decode cX9_worth 99 = .ok (.goto 4, 3) := by decide +kernel
theorem dX9_worth_102 : decode cX9_worth 102 = .ok (.iconst 1, 1) := by decide +kernel
theorem dX9_worth_103 : decode cX9_worth 103 = .ok (.isub, 1) := by decide +kernel
theorem dX9_worth_104 : decode cX9_worth 104 = .ok (.istore_n 1, 1) := by decide +kernel
theorem dX9_worth_105 : decode cX9_worth 105 = .ok (.iinc 2 1, 3) := by decide +kernel
theorem dX9_worth_108 : decode cX9_worth 108 = .ok (.goto (-104), 3) := by decide +kernel
theorem dX9_worth_111 : decode cX9_worth 111 = .ok (.iload_n 1, 1) := by decide +kernel
theorem dX9_worth_112 : decode cX9_worth 112 = .ok (.ireturn, 1) := by decide +kernel
theorem dX9_stands_0 : decode cX9_stands 0 = .ok (.aload_n 0, 1) := by decide +kernel
theorem dX9_stands_1 : decode cX9_stands 1 = .ok (.getfield 84, 3) := by decide +kernel
theorem dX9_stands_4 : decode cX9_stands 4 = .ok (.bipush 12, 2) := by decide +kernel
theorem dX9_stands_6 : decode cX9_stands 6 = .ok (.iload_n 1, 1) := by decide +kernel
theorem dX9_stands_7 : decode cX9_stands 7 = .ok (.imul, 1) := by decide +kernel
theorem dX9_stands_8 : decode cX9_stands 8 = .ok (.iload_n 2, 1) := by decide +kernel
theorem dX9_stands_9 : decode cX9_stands 9 = .ok (.iadd, 1) := by decide +kernel
theorem dX9_stands_10 : decode cX9_stands 10 = .ok (.baload, 1) := by decide +kernel
theorem dX9_stands_11 : decode cX9_stands 11 = .ok (.ifCond .ne 5, 3) := by decide +kernel
theorem dX9_stands_14 : decode cX9_stands 14 = .ok (.iconst 0, 1) := by decide +kernel
theorem dX9_stands_15 : decode cX9_stands 15 = .ok (.ireturn, 1) := by decide +kernel
theorem dX9_stands_16 : decode cX9_stands 16 = .ok (.iconst 0, 1) := by decide +kernel
theorem dX9_stands_17 : decode cX9_stands 17 = .ok (.istore_n 3, 1) := by decide +kernel
theorem dX9_stands_18 : decode cX9_stands 18 = .ok (.iload_n 3, 1) := by decide +kernel
theorem dX9_stands_19 : decode cX9_stands 19 = .ok (.iload_n 1, 1) := by decide +kernel
theorem dX9_stands_20 : decode cX9_stands 20 = .ok (.if_icmp .ge 86, 3) := by decide +kernel
theorem dX9_stands_23 : decode cX9_stands 23 = .ok (.aload_n 0, 1) := by decide +kernel
theorem dX9_stands_24 : decode cX9_stands 24 = .ok (.getfield 78, 3) := by decide +kernel
theorem dX9_stands_27 : decode cX9_stands 27 = .ok (.iload_n 3, 1) := by decide +kernel
theorem dX9_stands_28 : decode cX9_stands 28 = .ok (.iaload, 1) := by decide +kernel
theorem dX9_stands_29 : decode cX9_stands 29 = .ok (.iload_n 2, 1) := by decide +kernel
theorem dX9_stands_30 : decode cX9_stands 30 = .ok (.if_icmp .ne 70, 3) := by decide +kernel
theorem dX9_stands_33 : decode cX9_stands 33 = .ok (.aload_n 0, 1) := by decide +kernel
theorem dX9_stands_34 : decode cX9_stands 34 = .ok (.getfield 63, 3) := by decide +kernel
theorem dX9_stands_37 : decode cX9_stands 37 = .ok (.aload_n 0, 1) := by decide +kernel
theorem dX9_stands_38 : decode cX9_stands 38 = .ok (.getfield 75, 3) := by decide +kernel
theorem dX9_stands_41 : decode cX9_stands 41 = .ok (.iload_n 1, 1) := by decide +kernel
theorem dX9_stands_42 : decode cX9_stands 42 = .ok (.iaload, 1) := by decide +kernel
theorem dX9_stands_43 : decode cX9_stands 43 = .ok (.iaload, 1) := by decide +kernel
theorem dX9_stands_44 : decode cX9_stands 44 = .ok (.i2l, 1) := by decide +kernel
theorem dX9_stands_45 : decode cX9_stands 45 = .ok (.aload_n 0, 1) := by decide +kernel
theorem dX9_stands_46 : decode cX9_stands 46 = .ok (.getfield 66, 3) := by decide +kernel
theorem dX9_stands_49 : decode cX9_stands 49 = .ok (.aload_n 0, 1) := by decide +kernel
theorem dX9_stands_50 : decode cX9_stands 50 = .ok (.getfield 75, 3) := by decide +kernel
theorem dX9_stands_53 : decode cX9_stands 53 = .ok (.iload_n 1, 1) := by decide +kernel
theorem dX9_stands_54 : decode cX9_stands 54 = .ok (.iaload, 1) := by decide +kernel
theorem dX9_stands_55 : decode cX9_stands 55 = .ok (.iaload, 1) := by decide +kernel
theorem dX9_stands_56 : decode cX9_stands 56 = .ok (.i2l, 1) := by decide +kernel
theorem dX9_stands_57 : decode cX9_stands 57 = .ok (.aload_n 0, 1) := by decide +kernel
theorem dX9_stands_58 : decode cX9_stands 58 = .ok (.getfield 63, 3) := by decide +kernel
theorem dX9_stands_61 : decode cX9_stands 61 = .ok (.aload_n 0, 1) := by decide +kernel
theorem dX9_stands_62 : decode cX9_stands 62 = .ok (.getfield 75, 3) := by decide +kernel
theorem dX9_stands_65 : decode cX9_stands 65 = .ok (.iload_n 3, 1) := by decide +kernel
theorem dX9_stands_66 : decode cX9_stands 66 = .ok (.iaload, 1) := by decide +kernel
theorem dX9_stands_67 : decode cX9_stands 67 = .ok (.iaload, 1) := by decide +kernel
theorem dX9_stands_68 : decode cX9_stands 68 = .ok (.i2l, 1) := by decide +kernel
theorem dX9_stands_69 : decode cX9_stands 69 = .ok (.aload_n 0, 1) := by decide +kernel
theorem dX9_stands_70 : decode cX9_stands 70 = .ok (.getfield 66, 3) := by decide +kernel
theorem dX9_stands_73 : decode cX9_stands 73 = .ok (.aload_n 0, 1) := by decide +kernel
theorem dX9_stands_74 : decode cX9_stands 74 = .ok (.getfield 75, 3) := by decide +kernel
theorem dX9_stands_77 : decode cX9_stands 77 = .ok (.iload_n 3, 1) := by decide +kernel
theorem dX9_stands_78 : decode cX9_stands 78 = .ok (.iaload, 1) := by decide +kernel
theorem dX9_stands_79 : decode cX9_stands 79 = .ok (.iaload, 1) := by decide +kernel
theorem dX9_stands_80 : decode cX9_stands 80 = .ok (.i2l, 1) := by decide +kernel
theorem dX9_stands_81 : decode cX9_stands 81 = .ok (.aload_n 0, 1) := by decide +kernel
theorem dX9_stands_82 : decode cX9_stands 82 = .ok (.getfield 7, 3) := by decide +kernel
theorem dX9_stands_85 : decode cX9_stands 85 = .ok (.aload_n 0, 1) := by decide +kernel
theorem dX9_stands_86 : decode cX9_stands 86 = .ok (.getfield 19, 3) := by decide +kernel
theorem dX9_stands_89 : decode cX9_stands 89 = .ok (.iload_n 2, 1) := by decide +kernel
theorem dX9_stands_90 : decode cX9_stands 90 = .ok (.iaload, 1) := by decide +kernel
theorem dX9_stands_91 : decode cX9_stands 91 = .ok (.iaload, 1) := by decide +kernel
theorem dX9_stands_92 : decode cX9_stands 92 = .ok (.invokestatic 183, 3) := by decide +kernel
theorem dX9_stands_95 : decode cX9_stands 95 = .ok (.ifCond .eq 5, 3) := by decide +kernel
theorem dX9_stands_98 : decode cX9_stands 98 = .ok (.iconst 0, 1) := by decide +kernel
theorem dX9_stands_99 : decode cX9_stands 99 = .ok (.ireturn, 1) := by decide +kernel
theorem dX9_stands_100 : decode cX9_stands 100 = .ok (.iinc 3 1, 3) := by decide +kernel
theorem dX9_stands_103 : decode cX9_stands 103 = .ok (.goto (-85), 3) := by decide +kernel
theorem dX9_stands_106 : decode cX9_stands 106 = .ok (.iconst 1, 1) := by decide +kernel
theorem dX9_stands_107 : decode cX9_stands 107 = .ok (.ireturn, 1) := by decide +kernel
theorem dX9_tries_0 : decode cX9_tries 0 = .ok (.iload_n 1, 1) := by decide +kernel
theorem dX9_tries_1 : decode cX9_tries 1 = .ok (.aload_n 0, 1) := by decide +kernel
theorem dX9_tries_2 : decode cX9_tries 2 = .ok (.getfield 187, 3) := by decide +kernel
theorem dX9_tries_5 : decode cX9_tries 5 = .ok (.if_icmp .ne 51, 3) := by decide +kernel
theorem dX9_tries_8 : decode cX9_tries 8 = .ok (.aload_n 0, 1) := by decide +kernel
theorem dX9_tries_9 : decode cX9_tries 9 = .ok (.invokevirtual 190, 3) := by decide +kernel
theorem dX9_tries_12 : decode cX9_tries 12 = .ok (.istore_n 2, 1) := by decide +kernel
theorem dX9_tries_13 : decode cX9_tries 13 = .ok (.iload_n 2, 1) := by decide +kernel
theorem dX9_tries_14 : decode cX9_tries 14 = .ok (.aload_n 0, 1) := by decide +kernel
theorem dX9_tries_15 : decode cX9_tries 15 = .ok (.getfield 194, 3) := by decide +kernel
theorem dX9_tries_18 : decode cX9_tries 18 = .ok (.if_icmp .gt 4, 3) := by decide +kernel
theorem dX9_tries_21 : decode cX9_tries 21 = .ok (.return_, 1) := by decide +kernel
theorem dX9_tries_22 : decode cX9_tries 22 = .ok (.aload_n 0, 1) := by decide +kernel
theorem dX9_tries_23 : decode cX9_tries 23 = .ok (.iload_n 2, 1) := by decide +kernel
theorem dX9_tries_24 : decode cX9_tries 24 = .ok (.putfield 194, 3) := by decide +kernel
theorem dX9_tries_27 : decode cX9_tries 27 = .ok (.iconst 0, 1) := by decide +kernel
theorem dX9_tries_28 : decode cX9_tries 28 = .ok (.istore_n 3, 1) := by decide +kernel
theorem dX9_tries_29 : decode cX9_tries 29 = .ok (.iload_n 3, 1) := by decide +kernel
theorem dX9_tries_30 : decode cX9_tries 30 = .ok (.aload_n 0, 1) := by decide +kernel
theorem dX9_tries_31 : decode cX9_tries 31 = .ok (.getfield 187, 3) := by decide +kernel
theorem dX9_tries_34 : decode cX9_tries 34 = .ok (.if_icmp .ge 21, 3) := by decide +kernel
theorem dX9_tries_37 : decode cX9_tries 37 = .ok (.aload_n 0, 1) := by decide +kernel
theorem dX9_tries_38 : decode cX9_tries 38 = .ok (.getfield 81, 3) := by decide +kernel
theorem dX9_tries_41 : decode cX9_tries 41 = .ok (.iload_n 3, 1) := by decide +kernel
theorem dX9_tries_42 : decode cX9_tries 42 = .ok (.aload_n 0, 1) := by decide +kernel
theorem dX9_tries_43 : decode cX9_tries 43 = .ok (.getfield 78, 3) := by decide +kernel
theorem dX9_tries_46 : decode cX9_tries 46 = .ok (.iload_n 3, 1) := by decide +kernel
theorem dX9_tries_47 : decode cX9_tries 47 = .ok (.iaload, 1) := by decide +kernel
theorem dX9_tries_48 : decode cX9_tries 48 = .ok (.iastore, 1) := by decide +kernel
theorem dX9_tries_49 : decode cX9_tries 49 = .ok (.iinc 3 1, 3) := by decide +kernel
theorem dX9_tries_52 : decode cX9_tries 52 = .ok (.goto (-23), 3) := by decide +kernel
theorem dX9_tries_55 : decode cX9_tries 55 = .ok (.return_, 1) := by decide +kernel
theorem dX9_tries_56 : decode cX9_tries 56 = .ok (.iconst 0, 1) := by decide +kernel
theorem dX9_tries_57 : decode cX9_tries 57 = .ok (.istore_n 2, 1) := by decide +kernel
theorem dX9_tries_58 : decode cX9_tries 58 = .ok (.iload_n 2, 1) := by decide +kernel
theorem dX9_tries_59 : decode cX9_tries 59 = .ok (.aload_n 0, 1) := by decide +kernel
theorem dX9_tries_60 : decode cX9_tries 60 = .ok (.getfield 107, 3) := by decide +kernel
theorem dX9_tries_63 : decode cX9_tries 63 = .ok (.if_icmp .ge 35, 3) := by decide +kernel
theorem dX9_tries_66 : decode cX9_tries 66 = .ok (.aload_n 0, 1) := by decide +kernel
theorem dX9_tries_67 : decode cX9_tries 67 = .ok (.iload_n 1, 1) := by decide +kernel
theorem dX9_tries_68 : decode cX9_tries 68 = .ok (.iload_n 2, 1) := by decide +kernel
theorem dX9_tries_69 : decode cX9_tries 69 = .ok (.invokevirtual 197, 3) := by decide +kernel
theorem dX9_tries_72 : decode cX9_tries 72 = .ok (.ifCond .ne 6, 3) := by decide +kernel
theorem dX9_tries_75 : decode cX9_tries 75 = .ok (.goto 17, 3) := by decide +kernel
theorem dX9_tries_78 : decode cX9_tries 78 = .ok (.aload_n 0, 1) := by decide +kernel
theorem dX9_tries_79 : decode cX9_tries 79 = .ok (.getfield 78, 3) := by decide +kernel
theorem dX9_tries_82 : decode cX9_tries 82 = .ok (.iload_n 1, 1) := by decide +kernel
theorem dX9_tries_83 : decode cX9_tries 83 = .ok (.iload_n 2, 1) := by decide +kernel
theorem dX9_tries_84 : decode cX9_tries 84 = .ok (.iastore, 1) := by decide +kernel
theorem dX9_tries_85 : decode cX9_tries 85 = .ok (.aload_n 0, 1) := by decide +kernel
theorem dX9_tries_86 : decode cX9_tries 86 = .ok (.iload_n 1, 1) := by decide +kernel
theorem dX9_tries_87 : decode cX9_tries 87 = .ok (.iconst 1, 1) := by decide +kernel
theorem dX9_tries_88 : decode cX9_tries 88 = .ok (.iadd, 1) := by decide +kernel
theorem dX9_tries_89 : decode cX9_tries 89 = .ok (.invokevirtual 200, 3) := by decide +kernel
theorem dX9_tries_92 : decode cX9_tries 92 = .ok (.iinc 2 1, 3) := by decide +kernel
theorem dX9_tries_95 : decode cX9_tries 95 = .ok (.goto (-37), 3) := by decide +kernel
theorem dX9_tries_98 : decode cX9_tries 98 = .ok (.aload_n 0, 1) := by decide +kernel
theorem dX9_tries_99 : decode cX9_tries 99 = .ok (.getfield 78, 3) := by decide +kernel
theorem dX9_tries_102 : decode cX9_tries 102 = .ok (.iload_n 1, 1) := by decide +kernel
theorem dX9_tries_103 : decode cX9_tries 103 = .ok (.iconst (-1), 1) := by decide +kernel
theorem dX9_tries_104 : decode cX9_tries 104 = .ok (.iastore, 1) := by decide +kernel
theorem dX9_tries_105 : decode cX9_tries 105 = .ok (.aload_n 0, 1) := by decide +kernel
theorem dX9_tries_106 : decode cX9_tries 106 = .ok (.iload_n 1, 1) := by decide +kernel
theorem dX9_tries_107 : decode cX9_tries 107 = .ok (.iconst 1, 1) := by decide +kernel
theorem dX9_tries_108 : decode cX9_tries 108 = .ok (.iadd, 1) := by decide +kernel
theorem dX9_tries_109 : decode cX9_tries 109 = .ok (.invokevirtual 200, 3) := by decide +kernel
theorem dX9_tries_112 : decode cX9_tries 112 = .ok (.return_, 1) := by decide +kernel
theorem dX9_plan_0 : decode cX9_plan 0 = .ok (.aload_n 0, 1) := by decide +kernel
theorem dX9_plan_1 : decode cX9_plan 1 = .ok (.iconst 0, 1) := by decide +kernel
theorem dX9_plan_2 : decode cX9_plan 2 = .ok (.putfield 97, 3) := by decide +kernel
theorem dX9_plan_5 : decode cX9_plan 5 = .ok (.aload_n 0, 1) := by decide +kernel
theorem dX9_plan_6 : decode cX9_plan 6 = .ok (.iconst 0, 1) := by decide +kernel
theorem dX9_plan_7 : decode cX9_plan 7 = .ok (.putfield 187, 3) := by decide +kernel
theorem dX9_plan_10 : decode cX9_plan 10 = .ok (.iconst 0, 1) := by decide +kernel
theorem dX9_plan_11 : decode cX9_plan 11 = .ok (.istore_n 1, 1) := by decide +kernel
theorem dX9_plan_12 : decode cX9_plan 12 = .ok (.iload_n 1, 1) := by decide +kernel
theorem dX9_plan_13 : decode cX9_plan 13 = .ok (.aload_n 0, 1) := by decide +kernel
theorem dX9_plan_14 : decode cX9_plan 14 = .ok (.getfield 171, 3) := by decide +kernel
theorem dX9_plan_17 : decode cX9_plan 17 = .ok (.if_icmp .ge 111, 3) := by decide +kernel
theorem dX9_plan_20 : decode cX9_plan 20 = .ok (.aload_n 0, 1) := by decide +kernel
theorem dX9_plan_21 : decode cX9_plan 21 = .ok (.getfield 45, 3) := by decide +kernel
theorem dX9_plan_24 : decode cX9_plan 24 = .ok (.iload_n 1, 1) := by decide +kernel
theorem dX9_plan_25 : decode cX9_plan 25 = .ok (.iaload, 1) := by decide +kernel
theorem dX9_plan_26 : decode cX9_plan 26 = .ok (.ifCond .eq 6, 3) := by decide +kernel
theorem dX9_plan_29 : decode cX9_plan 29 = .ok (.goto 93, 3) := by decide +kernel
theorem dX9_plan_32 : decode cX9_plan 32 = .ok (.aload_n 0, 1) := by decide +kernel
theorem dX9_plan_33 : decode cX9_plan 33 = .ok (.getfield 75, 3) := by decide +kernel
theorem dX9_plan_36 : decode cX9_plan 36 = .ok (.aload_n 0, 1) := by decide +kernel
theorem dX9_plan_37 : decode cX9_plan 37 = .ok (.getfield 187, 3) := by decide +kernel
theorem dX9_plan_40 : decode cX9_plan 40 = .ok (.iload_n 1, 1) := by decide +kernel
theorem dX9_plan_41 : decode cX9_plan 41 = .ok (.iastore, 1) := by decide +kernel
theorem dX9_plan_42 : decode cX9_plan 42 = .ok (.iconst 0, 1) := by decide +kernel
theorem dX9_plan_43 : decode cX9_plan 43 = .ok (.istore_n 2, 1) := by decide +kernel
theorem dX9_plan_44 : decode cX9_plan 44 = .ok (.iload_n 2, 1) := by decide +kernel
theorem dX9_plan_45 : decode cX9_plan 45 = .ok (.aload_n 0, 1) := by decide +kernel
theorem dX9_plan_46 : decode cX9_plan 46 = .ok (.getfield 107, 3) := by decide +kernel
theorem dX9_plan_49 : decode cX9_plan 49 = .ok (.if_icmp .ge 63, 3) := by decide +kernel
theorem dX9_plan_52 : decode cX9_plan 52 = .ok (.aload_n 0, 1) := by decide +kernel
theorem dX9_plan_53 : decode cX9_plan 53 = .ok (.getfield 84, 3) := by decide +kernel
theorem dX9_plan_56 : decode cX9_plan 56 = .ok (.bipush 12, 2) := by decide +kernel
theorem dX9_plan_58 : decode cX9_plan 58 = .ok (.aload_n 0, 1) := by decide +kernel
theorem dX9_plan_59 : decode cX9_plan 59 = .ok (.getfield 187, 3) := by decide +kernel
theorem dX9_plan_62 : decode cX9_plan 62 = .ok (.imul, 1) := by decide +kernel
theorem dX9_plan_63 : decode cX9_plan 63 = .ok (.iload_n 2, 1) := by decide +kernel
theorem dX9_plan_64 : decode cX9_plan 64 = .ok (.iadd, 1) := by decide +kernel
theorem dX9_plan_65 : decode cX9_plan 65 = .ok (.aload_n 0, 1) := by decide +kernel
theorem dX9_plan_66 : decode cX9_plan 66 = .ok (.aload_n 0, 1) := by decide +kernel
theorem dX9_plan_67 : decode cX9_plan 67 = .ok (.getfield 19, 3) := by decide +kernel
theorem dX9_plan_70 : decode cX9_plan 70 = .ok (.iload_n 2, 1) := by decide +kernel
theorem dX9_plan_71 : decode cX9_plan 71 = .ok (.iaload, 1) := by decide +kernel
theorem dX9_plan_72 : decode cX9_plan 72 = .ok (.iload_n 1, 1) := by decide +kernel
theorem dX9_plan_73 : decode cX9_plan 73 = .ok (.invokevirtual 204, 3) := by decide +kernel
theorem dX9_plan_76 : decode cX9_plan 76 = .ok (.ifCond .eq 28, 3) := by decide +kernel
theorem dX9_plan_79 : decode cX9_plan 79 = .ok (.aload_n 0, 1) := by decide +kernel
theorem dX9_plan_80 : decode cX9_plan 80 = .ok (.iload_n 2, 1) := by decide +kernel
theorem dX9_plan_81 : decode cX9_plan 81 = .ok (.aload_n 0, 1) := by decide +kernel
theorem dX9_plan_82 : decode cX9_plan 82 = .ok (.getfield 63, 3) := by decide +kernel
theorem dX9_plan_85 : decode cX9_plan 85 = .ok (.iload_n 1, 1) := by decide +kernel
theorem dX9_plan_86 : decode cX9_plan 86 = .ok (.iaload, 1) := by decide +kernel
theorem dX9_plan_87 : decode cX9_plan 87 = .ok (.aload_n 0, 1) := by decide +kernel
theorem dX9_plan_88 : decode cX9_plan 88 = .ok (.getfield 66, 3) := by decide +kernel
theorem dX9_plan_91 : decode cX9_plan 91 = .ok (.iload_n 1, 1) := by decide +kernel
theorem dX9_plan_92 : decode cX9_plan 92 = .ok (.iaload, 1) := by decide +kernel
theorem dX9_plan_93 : decode cX9_plan 93 = .ok (.iload_n 1, 1) := by decide +kernel
theorem dX9_plan_94 : decode cX9_plan 94 = .ok (.invokevirtual 207, 3) := by decide +kernel
theorem dX9_plan_97 : decode cX9_plan 97 = .ok (.ifCond .eq 7, 3) := by decide +kernel
theorem dX9_plan_100 : decode cX9_plan 100 = .ok (.iconst 1, 1) := by decide +kernel
theorem dX9_plan_101 : decode cX9_plan 101 = .ok (.goto 4, 3) := by decide +kernel
theorem dX9_plan_104 : decode cX9_plan 104 = .ok (.iconst 0, 1) := by decide +kernel
theorem dX9_plan_105 : decode cX9_plan 105 = .ok (.bastore, 1) := by decide +kernel
theorem dX9_plan_106 : decode cX9_plan 106 = .ok (.iinc 2 1, 3) := by decide +kernel
theorem dX9_plan_109 : decode cX9_plan 109 = .ok (.goto (-65), 3) := by decide +kernel
theorem dX9_plan_112 : decode cX9_plan 112 = .ok (.aload_n 0, 1) := by decide +kernel
theorem dX9_plan_113 : decode cX9_plan 113 = .ok (.dup, 1) := by decide +kernel
theorem dX9_plan_114 : decode cX9_plan 114 = .ok (.getfield 187, 3) := by decide +kernel
theorem dX9_plan_117 : decode cX9_plan 117 = .ok (.iconst 1, 1) := by decide +kernel
theorem dX9_plan_118 : decode cX9_plan 118 = .ok (.iadd, 1) := by decide +kernel
theorem dX9_plan_119 : decode cX9_plan 119 = .ok (.putfield 187, 3) := by decide +kernel
theorem dX9_plan_122 : decode cX9_plan 122 = .ok (.iinc 1 1, 3) := by decide +kernel
theorem dX9_plan_125 : decode cX9_plan 125 = .ok (.goto (-113), 3) := by decide +kernel
theorem dX9_plan_128 : decode cX9_plan 128 = .ok (.aload_n 0, 1) := by decide +kernel
theorem dX9_plan_129 : decode cX9_plan 129 = .ok (.iconst (-1), 1) := by decide +kernel
theorem dX9_plan_130 : decode cX9_plan 130 = .ok (.putfield 194, 3) := by decide +kernel
theorem dX9_plan_133 : decode cX9_plan 133 = .ok (.aload_n 0, 1) := by decide +kernel
theorem dX9_plan_134 : decode cX9_plan 134 = .ok (.iconst 0, 1) := by decide +kernel
theorem dX9_plan_135 : decode cX9_plan 135 = .ok (.invokevirtual 200, 3) := by decide +kernel
theorem dX9_plan_138 : decode cX9_plan 138 = .ok (.iconst 0, 1) := by decide +kernel
theorem dX9_plan_139 : decode cX9_plan 139 = .ok (.istore_n 1, 1) := by decide +kernel
theorem dX9_plan_140 : decode cX9_plan 140 = .ok (.iconst 0, 1) := by decide +kernel
theorem dX9_plan_141 : decode cX9_plan 141 = .ok (.istore_n 2, 1) := by decide +kernel
theorem dX9_plan_142 : decode cX9_plan 142 = .ok (.iload_n 2, 1) := by decide +kernel
theorem dX9_plan_143 : decode cX9_plan 143 = .ok (.aload_n 0, 1) := by decide +kernel
theorem dX9_plan_144 : decode cX9_plan 144 = .ok (.getfield 187, 3) := by decide +kernel
theorem dX9_plan_147 : decode cX9_plan 147 = .ok (.if_icmp .ge 67, 3) := by decide +kernel
theorem dX9_plan_150 : decode cX9_plan 150 = .ok (.aload_n 0, 1) := by decide +kernel
theorem dX9_plan_151 : decode cX9_plan 151 = .ok (.getfield 75, 3) := by decide +kernel
theorem dX9_plan_154 : decode cX9_plan 154 = .ok (.iload_n 2, 1) := by decide +kernel
theorem dX9_plan_155 : decode cX9_plan 155 = .ok (.iaload, 1) := by decide +kernel
theorem dX9_plan_156 : decode cX9_plan 156 = .ok (.istore_n 3, 1) := by decide +kernel
theorem dX9_plan_157 : decode cX9_plan 157 = .ok (.aload_n 0, 1) := by decide +kernel
theorem dX9_plan_158 : decode cX9_plan 158 = .ok (.getfield 48, 3) := by decide +kernel
theorem dX9_plan_161 : decode cX9_plan 161 = .ok (.iload_n 3, 1) := by decide +kernel
theorem dX9_plan_162 : decode cX9_plan 162 = .ok (.aload_n 0, 1) := by decide +kernel
theorem dX9_plan_163 : decode cX9_plan 163 = .ok (.getfield 81, 3) := by decide +kernel
theorem dX9_plan_166 : decode cX9_plan 166 = .ok (.iload_n 2, 1) := by decide +kernel
theorem dX9_plan_167 : decode cX9_plan 167 = .ok (.iaload, 1) := by decide +kernel
theorem dX9_plan_168 : decode cX9_plan 168 = .ok (.iastore, 1) := by decide +kernel
theorem dX9_plan_169 : decode cX9_plan 169 = .ok (.aload_n 0, 1) := by decide +kernel
theorem dX9_plan_170 : decode cX9_plan 170 = .ok (.getfield 45, 3) := by decide +kernel
theorem dX9_plan_173 : decode cX9_plan 173 = .ok (.iload_n 3, 1) := by decide +kernel
theorem dX9_plan_174 : decode cX9_plan 174 = .ok (.aload_n 0, 1) := by decide +kernel
theorem dX9_plan_175 : decode cX9_plan 175 = .ok (.getfield 81, 3) := by decide +kernel
theorem dX9_plan_178 : decode cX9_plan 178 = .ok (.iload_n 2, 1) := by decide +kernel
theorem dX9_plan_179 : decode cX9_plan 179 = .ok (.iaload, 1) := by decide +kernel
theorem dX9_plan_180 : decode cX9_plan 180 = .ok (.iconst (-1), 1) := by decide +kernel
theorem dX9_plan_181 : decode cX9_plan 181 = .ok (.if_icmp .ne 7, 3) := by decide +kernel
theorem dX9_plan_184 : decode cX9_plan 184 = .ok (.iconst 2, 1) := by decide +kernel
theorem dX9_plan_185 : decode cX9_plan 185 = .ok (.goto 4, 3) := by decide +kernel
theorem dX9_plan_188 : decode cX9_plan 188 = .ok (.iconst 1, 1) := by decide +kernel
theorem dX9_plan_189 : decode cX9_plan 189 = .ok (.iastore, 1) := by decide +kernel
theorem dX9_plan_190 : decode cX9_plan 190 = .ok (.iload_n 1, 1) := by decide +kernel
theorem dX9_plan_191 : decode cX9_plan 191 = .ok (.aload_n 0, 1) := by decide +kernel
theorem dX9_plan_192 : decode cX9_plan 192 = .ok (.getfield 81, 3) := by decide +kernel
theorem dX9_plan_195 : decode cX9_plan 195 = .ok (.iload_n 2, 1) := by decide +kernel
theorem dX9_plan_196 : decode cX9_plan 196 = .ok (.iaload, 1) := by decide +kernel
theorem dX9_plan_197 : decode cX9_plan 197 = .ok (.iconst (-1), 1) := by decide +kernel
theorem dX9_plan_198 : decode cX9_plan 198 = .ok (.if_icmp .ne 7, 3) := by decide +kernel
theorem dX9_plan_201 : decode cX9_plan 201 = .ok (.iconst 0, 1) := by decide +kernel
theorem dX9_plan_202 : decode cX9_plan 202 = .ok (.goto 4, 3) := by decide +kernel
theorem dX9_plan_205 : decode cX9_plan 205 = .ok (.iconst 1, 1) := by decide +kernel
theorem dX9_plan_206 : decode cX9_plan 206 = .ok (.iadd, 1) := by decide +kernel
theorem dX9_plan_207 : decode cX9_plan 207 = .ok (.istore_n 1, 1) := by decide +kernel
theorem dX9_plan_208 : decode cX9_plan 208 = .ok (.iinc 2 1, 3) := by decide +kernel
theorem dX9_plan_211 : decode cX9_plan 211 = .ok (.goto (-69), 3) := by decide +kernel
theorem dX9_plan_214 : decode cX9_plan 214 = .ok (.iload_n 1, 1) := by decide +kernel
theorem dX9_plan_215 : decode cX9_plan 215 = .ok (.ireturn, 1) := by decide +kernel
theorem dX9_off_0 : decode cX9_off 0 = .ok (.aload_n 0, 1) := by decide +kernel
theorem dX9_off_1 : decode cX9_off 1 = .ok (.iconst 0, 1) := by decide +kernel
theorem dX9_off_2 : decode cX9_off 2 = .ok (.putfield 97, 3) := by decide +kernel
theorem dX9_off_5 : decode cX9_off 5 = .ok (.iload_n 1, 1) := by decide +kernel
theorem dX9_off_6 : decode cX9_off 6 = .ok (.iconst 0, 1) := by decide +kernel
theorem dX9_off_7 : decode cX9_off 7 = .ok (.aload_n 0, 1) := by decide +kernel
theorem dX9_off_8 : decode cX9_off 8 = .ok (.getfield 171, 3) := by decide +kernel
theorem dX9_off_11 : decode cX9_off 11 = .ok (.iconst 1, 1) := by decide +kernel
theorem dX9_off_12 : decode cX9_off 12 = .ok (.isub, 1) := by decide +kernel
theorem dX9_off_13 : decode cX9_off 13 = .ok (.invokestatic 100, 3) := by decide +kernel
theorem dX9_off_16 : decode cX9_off 16 = .ok (.ifCond .eq 22, 3) := by decide +kernel
theorem dX9_off_19 : decode cX9_off 19 = .ok (.aload_n 0, 1) := by decide +kernel
theorem dX9_off_20 : decode cX9_off 20 = .ok (.getfield 45, 3) := by decide +kernel
theorem dX9_off_23 : decode cX9_off 23 = .ok (.iload_n 1, 1) := by decide +kernel
theorem dX9_off_24 : decode cX9_off 24 = .ok (.iaload, 1) := by decide +kernel
theorem dX9_off_25 : decode cX9_off 25 = .ok (.ifCond .eq 15, 3) := by decide +kernel
theorem dX9_off_28 : decode cX9_off 28 = .ok (.aload_n 0, 1) := by decide +kernel
theorem dX9_off_29 : decode cX9_off 29 = .ok (.getfield 45, 3) := by decide +kernel
theorem dX9_off_32 : decode cX9_off 32 = .ok (.iload_n 1, 1) := by decide +kernel
theorem dX9_off_33 : decode cX9_off 33 = .ok (.iaload, 1) := by decide +kernel
theorem dX9_off_34 : decode cX9_off 34 = .ok (.iconst 1, 1) := by decide +kernel
theorem dX9_off_35 : decode cX9_off 35 = .ok (.if_icmp .eq 5, 3) := by decide +kernel
theorem dX9_off_38 : decode cX9_off 38 = .ok (.iconst 0, 1) := by decide +kernel
theorem dX9_off_39 : decode cX9_off 39 = .ok (.ireturn, 1) := by decide +kernel
theorem dX9_off_40 : decode cX9_off 40 = .ok (.aload_n 0, 1) := by decide +kernel
theorem dX9_off_41 : decode cX9_off 41 = .ok (.getfield 45, 3) := by decide +kernel
theorem dX9_off_44 : decode cX9_off 44 = .ok (.iload_n 1, 1) := by decide +kernel
theorem dX9_off_45 : decode cX9_off 45 = .ok (.bipush 6, 2) := by decide +kernel
theorem dX9_off_47 : decode cX9_off 47 = .ok (.iastore, 1) := by decide +kernel
theorem dX9_off_48 : decode cX9_off 48 = .ok (.iconst 1, 1) := by decide +kernel
theorem dX9_off_49 : decode cX9_off 49 = .ok (.ireturn, 1) := by decide +kernel
theorem dX9_out_0 : decode cX9_out 0 = .ok (.aload_n 0, 1) := by decide +kernel
theorem dX9_out_1 : decode cX9_out 1 = .ok (.iconst 0, 1) := by decide +kernel
theorem dX9_out_2 : decode cX9_out 2 = .ok (.putfield 97, 3) := by decide +kernel
theorem dX9_out_5 : decode cX9_out 5 = .ok (.iload_n 1, 1) := by decide +kernel
theorem dX9_out_6 : decode cX9_out 6 = .ok (.iconst 0, 1) := by decide +kernel
theorem dX9_out_7 : decode cX9_out 7 = .ok (.aload_n 0, 1) := by decide +kernel
theorem dX9_out_8 : decode cX9_out 8 = .ok (.getfield 171, 3) := by decide +kernel
theorem dX9_out_11 : decode cX9_out 11 = .ok (.iconst 1, 1) := by decide +kernel
theorem dX9_out_12 : decode cX9_out 12 = .ok (.isub, 1) := by decide +kernel
theorem dX9_out_13 : decode cX9_out 13 = .ok (.invokestatic 100, 3) := by decide +kernel
theorem dX9_out_16 : decode cX9_out 16 = .ok (.ifCond .eq 13, 3) := by decide +kernel
theorem dX9_out_19 : decode cX9_out 19 = .ok (.aload_n 0, 1) := by decide +kernel
theorem dX9_out_20 : decode cX9_out 20 = .ok (.getfield 45, 3) := by decide +kernel
theorem dX9_out_23 : decode cX9_out 23 = .ok (.iload_n 1, 1) := by decide +kernel
theorem dX9_out_24 : decode cX9_out 24 = .ok (.iaload, 1) := by decide +kernel
theorem dX9_out_25 : decode cX9_out 25 = .ok (.iconst 1, 1) := by decide +kernel
theorem dX9_out_26 : decode cX9_out 26 = .ok (.if_icmp .eq 5, 3) := by decide +kernel
theorem dX9_out_29 : decode cX9_out 29 = .ok (.iconst (-1), 1) := by decide +kernel
theorem dX9_out_30 : decode cX9_out 30 = .ok (.ireturn, 1) := by decide +kernel
