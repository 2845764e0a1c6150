theorem dX0_init_0 : decode cX0_init 0 = .ok (.aload_n 0, 1) := by decide +kernel
theorem dX0_init_1 : decode cX0_init 1 = .ok (.invokespecial 3, 3) := by decide +kernel
theorem dX0_init_4 : decode cX0_init 4 = .ok (.aload_n 0, 1) := by decide +kernel
theorem dX0_init_5 : decode cX0_init 5 = .ok (.iconst 0, 1) := by decide +kernel
theorem dX0_init_6 : decode cX0_init 6 = .ok (.putfield 9, 3) := by decide +kernel
theorem dX0_init_9 : decode cX0_init 9 = .ok (.aload_n 0, 1) := by decide +kernel
theorem dX0_init_10 : decode cX0_init 10 = .ok (.aconst_null, 1) := by decide +kernel
theorem dX0_init_11 : decode cX0_init 11 = .ok (.putfield 15, 3) := by decide +kernel
theorem dX0_init_14 : decode cX0_init 14 = .ok (.aload_n 0, 1) := by decide +kernel
theorem dX0_init_15 : decode cX0_init 15 = .ok (.iconst 0, 1) := by decide +kernel
theorem dX0_init_16 : decode cX0_init 16 = .ok (.putfield 19, 3) := by decide +kernel
theorem dX0_init_19 : decode cX0_init 19 = .ok (.aload_n 0, 1) := by decide +kernel
theorem dX0_init_20 : decode cX0_init 20 = .ok (.iconst (-1), 1) := by decide +kernel
theorem dX0_init_21 : decode cX0_init 21 = .ok (.putfield 22, 3) := by decide +kernel
theorem dX0_init_24 : decode cX0_init 24 = .ok (.aload_n 0, 1) := by decide +kernel
theorem dX0_init_25 : decode cX0_init 25 = .ok (.iload_n 1, 1) := by decide +kernel
theorem dX0_init_26 : decode cX0_init 26 = .ok (.putfield 25, 3) := by decide +kernel
theorem dX0_init_29 : decode cX0_init 29 = .ok (.aload_n 0, 1) := by decide +kernel
theorem dX0_init_30 : decode cX0_init 30 = .ok (.aload_n 2, 1) := by decide +kernel
theorem dX0_init_31 : decode cX0_init 31 = .ok (.putfield 28, 3) := by decide +kernel
theorem dX0_init_34 : decode cX0_init 34 = .ok (.aload_n 0, 1) := by decide +kernel
theorem dX0_init_35 : decode cX0_init 35 = .ok (.aload_n 3, 1) := by decide +kernel
theorem dX0_init_36 : decode cX0_init 36 = .ok (.putfield 32, 3) := by decide +kernel
theorem dX0_init_39 : decode cX0_init 39 = .ok (.aload_n 0, 1) := by decide +kernel
theorem dX0_init_40 : decode cX0_init 40 = .ok (.iload 4, 2) := by decide +kernel
theorem dX0_init_42 : decode cX0_init 42 = .ok (.putfield 36, 3) := by decide +kernel
theorem dX0_init_45 : decode cX0_init 45 = .ok (.aload_n 0, 1) := by decide +kernel
theorem dX0_init_46 : decode cX0_init 46 = .ok (.iload 5, 2) := by decide +kernel
theorem dX0_init_48 : decode cX0_init 48 = .ok (.putfield 39, 3) := by decide +kernel
theorem dX0_init_51 : decode cX0_init 51 = .ok (.aload_n 0, 1) := by decide +kernel
theorem dX0_init_52 : decode cX0_init 52 = .ok (.iload 6, 2) := by decide +kernel
theorem dX0_init_54 : decode cX0_init 54 = .ok (.putfield 42, 3) := by decide +kernel
theorem dX0_init_57 : decode cX0_init 57 = .ok (.aload_n 0, 1) := by decide +kernel
theorem dX0_init_58 : decode cX0_init 58 = .ok (.iload 7, 2) := by decide +kernel
theorem dX0_init_60 : decode cX0_init 60 = .ok (.putfield 45, 3) := by decide +kernel
theorem dX0_init_63 : decode cX0_init 63 = .ok (.return_, 1) := by decide +kernel
theorem dX0_isBookedOn_0 : decode cX0_isBookedOn 0 = .ok (.aload_n 0, 1) := by decide +kernel
theorem dX0_isBookedOn_1 : decode cX0_isBookedOn 1 = .ok (.getfield 15, 3) := by decide +kernel
theorem dX0_isBookedOn_4 : decode cX0_isBookedOn 4 = .ok (.aload_n 1, 1) := by decide +kernel
theorem dX0_isBookedOn_5 : decode cX0_isBookedOn 5 = .ok (.if_acmp .ne 15, 3) := by decide +kernel
theorem dX0_isBookedOn_8 : decode cX0_isBookedOn 8 = .ok (.aload_n 0, 1) := by decide +kernel
theorem dX0_isBookedOn_9 : decode cX0_isBookedOn 9 = .ok (.getfield 9, 3) := by decide +kernel
theorem dX0_isBookedOn_12 : decode cX0_isBookedOn 12 = .ok (.iconst 1, 1) := by decide +kernel
theorem dX0_isBookedOn_13 : decode cX0_isBookedOn 13 = .ok (.if_icmp .ne 7, 3) := by decide +kernel
theorem dX0_isBookedOn_16 : decode cX0_isBookedOn 16 = .ok (.iconst 1, 1) := by decide +kernel
theorem dX0_isBookedOn_17 : decode cX0_isBookedOn 17 = .ok (.goto 4, 3) := by decide +kernel
theorem dX0_isBookedOn_20 : decode cX0_isBookedOn 20 = .ok (.iconst 0, 1) := by decide +kernel
theorem dX0_isBookedOn_21 : decode cX0_isBookedOn 21 = .ok (.ireturn, 1) := by decide +kernel
theorem dX0_holds_0 : decode cX0_holds 0 = .ok (.aload_n 0, 1) := by decide +kernel
theorem dX0_holds_1 : decode cX0_holds 1 = .ok (.getfield 15, 3) := by decide +kernel
theorem dX0_holds_4 : decode cX0_holds 4 = .ok (.aload_n 1, 1) := by decide +kernel
theorem dX0_holds_5 : decode cX0_holds 5 = .ok (.if_acmp .ne 31, 3) := by decide +kernel
theorem dX0_holds_8 : decode cX0_holds 8 = .ok (.aload_n 0, 1) := by decide +kernel
theorem dX0_holds_9 : decode cX0_holds 9 = .ok (.getfield 9, 3) := by decide +kernel
theorem dX0_holds_12 : decode cX0_holds 12 = .ok (.iconst 1, 1) := by decide +kernel
theorem dX0_holds_13 : decode cX0_holds 13 = .ok (.if_icmp .eq 19, 3) := by decide +kernel
theorem dX0_holds_16 : decode cX0_holds 16 = .ok (.aload_n 0, 1) := by decide +kernel
theorem dX0_holds_17 : decode cX0_holds 17 = .ok (.getfield 9, 3) := by decide +kernel
theorem dX0_holds_20 : decode cX0_holds 20 = .ok (.iconst 3, 1) := by decide +kernel
theorem dX0_holds_21 : decode cX0_holds 21 = .ok (.if_icmp .eq 11, 3) := by decide +kernel
theorem dX0_holds_24 : decode cX0_holds 24 = .ok (.aload_n 0, 1) := by decide +kernel
theorem dX0_holds_25 : decode cX0_holds 25 = .ok (.getfield 9, 3) := by decide +kernel
theorem dX0_holds_28 : decode cX0_holds 28 = .ok (.iconst 4, 1) := by decide +kernel
theorem dX0_holds_29 : decode cX0_holds 29 = .ok (.if_icmp .ne 7, 3) := by decide +kernel
theorem dX0_holds_32 : decode cX0_holds 32 = .ok (.iconst 1, 1) := by decide +kernel
theorem dX0_holds_33 : decode cX0_holds 33 = .ok (.goto 4, 3) := by decide +kernel
theorem dX0_holds_36 : decode cX0_holds 36 = .ok (.iconst 0, 1) := by decide +kernel
theorem dX0_holds_37 : decode cX0_holds 37 = .ok (.ireturn, 1) := by decide +kernel
theorem dX0_lastDay_0 : decode cX0_lastDay 0 = .ok (.aload_n 0, 1) := by decide +kernel
theorem dX0_lastDay_1 : decode cX0_lastDay 1 = .ok (.getfield 9, 3) := by decide +kernel
theorem dX0_lastDay_4 : decode cX0_lastDay 4 = .ok (.iconst 4, 1) := by decide +kernel
theorem dX0_lastDay_5 : decode cX0_lastDay 5 = .ok (.if_icmp .ne 8, 3) := by decide +kernel
theorem dX0_lastDay_8 : decode cX0_lastDay 8 = .ok (.aload_n 0, 1) := by decide +kernel
theorem dX0_lastDay_9 : decode cX0_lastDay 9 = .ok (.getfield 22, 3) := by decide +kernel
theorem dX0_lastDay_12 : decode cX0_lastDay 12 = .ok (.ireturn, 1) := by decide +kernel
theorem dX0_lastDay_13 : decode cX0_lastDay 13 = .ok (.aload_n 0, 1) := by decide +kernel
theorem dX0_lastDay_14 : decode cX0_lastDay 14 = .ok (.getfield 9, 3) := by decide +kernel
theorem dX0_lastDay_17 : decode cX0_lastDay 17 = .ok (.iconst 3, 1) := by decide +kernel
theorem dX0_lastDay_18 : decode cX0_lastDay 18 = .ok (.if_icmp .ne 14, 3) := by decide +kernel
theorem dX0_lastDay_21 : decode cX0_lastDay 21 = .ok (.iload_n 1, 1) := by decide +kernel
theorem dX0_lastDay_22 : decode cX0_lastDay 22 = .ok (.aload_n 0, 1) := by decide +kernel
theorem dX0_lastDay_23 : decode cX0_lastDay 23 = .ok (.getfield 42, 3) := by decide +kernel
theorem dX0_lastDay_26 : decode cX0_lastDay 26 = .ok (.invokestatic 48, 3) := by decide +kernel
theorem dX0_lastDay_29 : decode cX0_lastDay 29 = .ok (.goto 7, 3) := by decide +kernel
theorem dX0_lastDay_32 : decode cX0_lastDay 32 = .ok (.aload_n 0, 1) := by decide +kernel
theorem dX0_lastDay_33 : decode cX0_lastDay 33 = .ok (.getfield 42, 3) := by decide +kernel
theorem dX0_lastDay_36 : decode cX0_lastDay 36 = .ok (.ireturn, 1) := by decide +kernel
theorem dX0_movesAheadOf_0 : decode cX0_movesAheadOf 0 = .ok (.aload_n 0, 1) := by decide +kernel
theorem dX0_movesAheadOf_1 : decode cX0_movesAheadOf 1 = .ok (.getfield 45, 3) := by decide +kernel
theorem dX0_movesAheadOf_4 : decode cX0_movesAheadOf 4 = .ok (.aload_n 1, 1) := by decide +kernel
theorem dX0_movesAheadOf_5 : decode cX0_movesAheadOf 5 = .ok (.getfield 45, 3) := by decide +kernel
theorem dX0_movesAheadOf_8 : decode cX0_movesAheadOf 8 = .ok (.if_icmp .eq 20, 3) := by decide +kernel
theorem dX0_movesAheadOf_11 : decode cX0_movesAheadOf 11 = .ok (.aload_n 0, 1) := by decide +kernel
theorem dX0_movesAheadOf_12 : decode cX0_movesAheadOf 12 = .ok (.getfield 45, 3) := by decide +kernel
theorem dX0_movesAheadOf_15 : decode cX0_movesAheadOf 15 = .ok (.aload_n 1, 1) := by decide +kernel
theorem dX0_movesAheadOf_16 : decode cX0_movesAheadOf 16 = .ok (.getfield 45, 3) := by decide +kernel
theorem dX0_movesAheadOf_19 : decode cX0_movesAheadOf 19 = .ok (.if_icmp .le 7, 3) := by decide +kernel
theorem dX0_movesAheadOf_22 : decode cX0_movesAheadOf 22 = .ok (.iconst 1, 1) := by decide +kernel
theorem dX0_movesAheadOf_23 : decode cX0_movesAheadOf 23 = .ok (.goto 4, 3) := by decide +kernel
theorem dX0_movesAheadOf_26 : decode cX0_movesAheadOf 26 = .ok (.iconst 0, 1) := by decide +kernel
theorem dX0_movesAheadOf_27 : decode cX0_movesAheadOf 27 = .ok (.ireturn, 1) := by decide +kernel
theorem dX0_movesAheadOf_28 : decode cX0_movesAheadOf 28 = .ok (.aload_n 0, 1) := by decide +kernel
theorem dX0_movesAheadOf_29 : decode cX0_movesAheadOf 29 = .ok (.getfield 39, 3) := by decide +kernel
theorem dX0_movesAheadOf_32 : decode cX0_movesAheadOf 32 = .ok (.aload_n 1, 1) := by decide +kernel
theorem dX0_movesAheadOf_33 : decode cX0_movesAheadOf 33 = .ok (.getfield 39, 3) := by decide +kernel
theorem dX0_movesAheadOf_36 : decode cX0_movesAheadOf 36 = .ok (.if_icmp .eq 22, 3) := by decide +kernel
theorem dX0_movesAheadOf_39 : decode cX0_movesAheadOf 39 = .ok (.aload_n 0, 1) := by decide +kernel
theorem dX0_movesAheadOf_40 : decode cX0_movesAheadOf 40 = .ok (.getfield 39, 3) := by decide +kernel
theorem dX0_movesAheadOf_43 : decode cX0_movesAheadOf 43 = .ok (.aload_n 1, 1) := by decide +kernel
theorem dX0_movesAheadOf_44 : decode cX0_movesAheadOf 44 = .ok (.getfield 39, 3) := by decide +kernel
theorem dX0_movesAheadOf_47 : decode cX0_movesAheadOf 47 = .ok (.if_icmp .ge 7, 3) := by decide +kernel
theorem dX0_movesAheadOf_50 : decode cX0_movesAheadOf 50 = .ok (.iconst 1, 1) := by decide +kernel
theorem dX0_movesAheadOf_51 : decode cX0_movesAheadOf 51 = .ok (.goto 23, 3) := by decide +kernel
theorem dX0_movesAheadOf_54 : decode cX0_movesAheadOf 54 = .ok (.iconst 0, 1) := by decide +kernel
theorem dX0_movesAheadOf_55 : decode cX0_movesAheadOf 55 = .ok (.goto 19, 3) := by decide +kernel
theorem dX0_movesAheadOf_58 : decode cX0_movesAheadOf 58 = .ok (.aload_n 0, 1) := by decide +kernel
theorem dX0_movesAheadOf_59 : decode cX0_movesAheadOf 59 = .ok (.getfield 25, 3) := by decide +kernel
theorem dX0_movesAheadOf_62 : decode cX0_movesAheadOf 62 = .ok (.aload_n 1, 1) := by decide +kernel
theorem dX0_movesAheadOf_63 : decode cX0_movesAheadOf 63 = .ok (.getfield 25, 3) := by decide +kernel
theorem dX0_movesAheadOf_66 : decode cX0_movesAheadOf 66 = .ok (.if_icmp .ge 7, 3) := by decide +kernel
theorem dX0_movesAheadOf_69 : decode cX0_movesAheadOf 69 = .ok (.iconst 1, 1) := by decide +kernel
theorem dX0_movesAheadOf_70 : decode cX0_movesAheadOf 70 = .ok (.goto 4, 3) := by decide +kernel
theorem dX0_movesAheadOf_73 : decode cX0_movesAheadOf 73 = .ok (.iconst 0, 1) := by decide +kernel
theorem dX0_movesAheadOf_74 : decode cX0_movesAheadOf 74 = .ok (.ireturn, 1) := by decide +kernel
theorem dX1_init_0 : decode cX1_init 0 = .ok (.aload_n 0, 1) := by decide +kernel
theorem dX1_init_1 : decode cX1_init 1 = .ok (.invokespecial 1, 3) := by decide +kernel
theorem dX1_init_4 : decode cX1_init 4 = .ok (.aload_n 0, 1) := by decide +kernel
theorem dX1_init_5 : decode cX1_init 5 = .ok (.iload_n 1, 1) := by decide +kernel
theorem dX1_init_6 : decode cX1_init 6 = .ok (.putfield 7, 3) := by decide +kernel
theorem dX1_init_9 : decode cX1_init 9 = .ok (.aload_n 0, 1) := by decide +kernel
theorem dX1_init_10 : decode cX1_init 10 = .ok (.iload_n 2, 1) := by decide +kernel
theorem dX1_init_11 : decode cX1_init 11 = .ok (.putfield 13, 3) := by decide +kernel
theorem dX1_init_14 : decode cX1_init 14 = .ok (.aload_n 0, 1) := by decide +kernel
theorem dX1_init_15 : decode cX1_init 15 = .ok (.iload_n 3, 1) := by decide +kernel
theorem dX1_init_16 : decode cX1_init 16 = .ok (.putfield 16, 3) := by decide +kernel
theorem dX1_init_19 : decode cX1_init 19 = .ok (.aload_n 0, 1) := by decide +kernel
theorem dX1_init_20 : decode cX1_init 20 = .ok (.iload 4, 2) := by decide +kernel
theorem dX1_init_22 : decode cX1_init 22 = .ok (.putfield 19, 3) := by decide +kernel
theorem dX1_init_25 : decode cX1_init 25 = .ok (.return_, 1) := by decide +kernel
theorem dX1_fits_0 : decode cX1_fits 0 = .ok (.aload_n 1, 1) := by decide +kernel
theorem dX1_fits_1 : decode cX1_fits 1 = .ok (.getfield 22, 3) := by decide +kernel
theorem dX1_fits_4 : decode cX1_fits 4 = .ok (.aload_n 0, 1) := by decide +kernel
theorem dX1_fits_5 : decode cX1_fits 5 = .ok (.if_acmp .eq 26, 3) := by decide +kernel
theorem dX1_fits_8 : decode cX1_fits 8 = .ok (.aload_n 1, 1) := by decide +kernel
theorem dX1_fits_9 : decode cX1_fits 9 = .ok (.getfield 28, 3) := by decide +kernel
theorem dX1_fits_12 : decode cX1_fits 12 = .ok (.ifCond .eq 23, 3) := by decide +kernel
theorem dX1_fits_15 : decode cX1_fits 15 = .ok (.aload_n 0, 1) := by decide +kernel
theorem dX1_fits_16 : decode cX1_fits 16 = .ok (.getfield 16, 3) := by decide +kernel
theorem dX1_fits_19 : decode cX1_fits 19 = .ok (.aload_n 1, 1) := by decide +kernel
theorem dX1_fits_20 : decode cX1_fits 20 = .ok (.getfield 28, 3) := by decide +kernel
theorem dX1_fits_23 : decode cX1_fits 23 = .ok (.iand, 1) := by decide +kernel
theorem dX1_fits_24 : decode cX1_fits 24 = .ok (.aload_n 1, 1) := by decide +kernel
theorem dX1_fits_25 : decode cX1_fits 25 = .ok (.getfield 28, 3) := by decide +kernel
theorem dX1_fits_28 : decode cX1_fits 28 = .ok (.if_icmp .ne 7, 3) := by decide +kernel
theorem dX1_fits_31 : decode cX1_fits 31 = .ok (.iconst 1, 1) := by decide +kernel
theorem dX1_fits_32 : decode cX1_fits 32 = .ok (.goto 4, 3) := by decide +kernel
theorem dX1_fits_35 : decode cX1_fits 35 = .ok (.iconst 0, 1) := by decide +kernel
theorem dX1_fits_36 : decode cX1_fits 36 = .ok (.ireturn, 1) := by decide +kernel
theorem dX2_init_0 : decode cX2_init 0 = .ok (.aload_n 0, 1) := by decide +kernel
theorem dX2_init_1 : decode cX2_init 1 = .ok (.invokespecial 3, 3) := by decide +kernel
theorem dX2_init_4 : decode cX2_init 4 = .ok (.aload_n 0, 1) := by decide +kernel
theorem dX2_init_5 : decode cX2_init 5 = .ok (.iconst 0, 1) := by decide +kernel
theorem dX2_init_6 : decode cX2_init 6 = .ok (.putfield 9, 3) := by decide +kernel
theorem dX2_init_9 : decode cX2_init 9 = .ok (.aload_n 0, 1) := by decide +kernel
theorem dX2_init_10 : decode cX2_init 10 = .ok (.iconst (-1), 1) := by decide +kernel
theorem dX2_init_11 : decode cX2_init 11 = .ok (.putfield 15, 3) := by decide +kernel
theorem dX2_init_14 : decode cX2_init 14 = .ok (.aload_n 0, 1) := by decide +kernel
theorem dX2_init_15 : decode cX2_init 15 = .ok (.bipush 8, 2) := by decide +kernel
theorem dX2_init_17 : decode cX2_init 17 = .ok (.newarray .int, 2) := by decide +kernel
theorem dX2_init_19 : decode cX2_init 19 = .ok (.putfield 18, 3) := by decide +kernel
theorem dX2_init_22 : decode cX2_init 22 = .ok (.aload_n 0, 1) := by decide +kernel
theorem dX2_init_23 : decode cX2_init 23 = .ok (.getfield 18, 3) := by decide +kernel
theorem dX2_init_26 : decode cX2_init 26 = .ok (.iconst (-1), 1) := by decide +kernel
theorem dX2_init_27 : decode cX2_init 27 = .ok (.invokestatic 22, 3) := by decide +kernel
theorem dX2_init_30 : decode cX2_init 30 = .ok (.return_, 1) := by decide +kernel
theorem dX2_tell_0 : decode cX2_tell 0 = .ok (.iconst 0, 1) := by decide +kernel
theorem dX2_tell_1 : decode cX2_tell 1 = .ok (.istore_n 2, 1) := by decide +kernel
theorem dX2_tell_2 : decode cX2_tell 2 = .ok (.iload_n 2, 1) := by decide +kernel
theorem dX2_tell_3 : decode cX2_tell 3 = .ok (.bipush 8, 2) := by decide +kernel
theorem dX2_tell_5 : decode cX2_tell 5 = .ok (.if_icmp .ge 24, 3) := by decide +kernel
theorem dX2_tell_8 : decode cX2_tell 8 = .ok (.iload_n 2, 1) := by decide +kernel
theorem dX2_tell_9 : decode cX2_tell 9 = .ok (.aload_n 1, 1) := by decide +kernel
theorem dX2_tell_10 : decode cX2_tell 10 = .ok (.arraylength, 1) := by decide +kernel
theorem dX2_tell_11 : decode cX2_tell 11 = .ok (.if_icmp .ge 18, 3) := by decide +kernel
theorem dX2_tell_14 : decode cX2_tell 14 = .ok (.aload_n 0, 1) := by decide +kernel
theorem dX2_tell_15 : decode cX2_tell 15 = .ok (.getfield 18, 3) := by decide +kernel
theorem dX2_tell_18 : decode cX2_tell 18 = .ok (.iload_n 2, 1) := by decide +kernel
theorem dX2_tell_19 : decode cX2_tell 19 = .ok (.aload_n 1, 1) := by decide +kernel
theorem dX2_tell_20 : decode cX2_tell 20 = .ok (.iload_n 2, 1) := by decide +kernel
theorem dX2_tell_21 : decode cX2_tell 21 = .ok (.iaload, 1) := by decide +kernel
theorem dX2_tell_22 : decode cX2_tell 22 = .ok (.iastore, 1) := by decide +kernel
theorem dX2_tell_23 : decode cX2_tell 23 = .ok (.iinc 2 1, 3) := by decide +kernel
theorem dX2_tell_26 : decode cX2_tell 26 = .ok (.goto (-24), 3) := by decide +kernel
theorem dX2_tell_29 : decode cX2_tell 29 = .ok (.aload_n 0, 1) := by decide +kernel
theorem dX2_tell_30 : decode cX2_tell 30 = .ok (.dup, 1) := by decide +kernel
theorem dX2_tell_31 : decode cX2_tell 31 = .ok (.getfield 9, 3) := by decide +kernel
theorem dX2_tell_34 : decode cX2_tell 34 = .ok (.iconst 1, 1) := by decide +kernel
theorem dX2_tell_35 : decode cX2_tell 35 = .ok (.iadd, 1) := by decide +kernel
theorem dX2_tell_36 : decode cX2_tell 36 = .ok (.putfield 9, 3) := by decide +kernel
theorem dX2_tell_39 : decode cX2_tell 39 = .ok (.return_, 1) := by decide +kernel
theorem dX2_daysWanted_0 : decode cX2_daysWanted 0 = .ok (.iload_n 1, 1) := by decide +kernel
theorem dX2_daysWanted_1 : decode cX2_daysWanted 1 = .ok (.ifCond .lt 18, 3) := by decide +kernel
theorem dX2_daysWanted_4 : decode cX2_daysWanted 4 = .ok (.iload_n 1, 1) := by decide +kernel
theorem dX2_daysWanted_5 : decode cX2_daysWanted 5 = .ok (.bipush 8, 2) := by decide +kernel
theorem dX2_daysWanted_7 : decode cX2_daysWanted 7 = .ok (.if_icmp .ge 12, 3) := by decide +kernel
theorem dX2_daysWanted_10 : decode cX2_daysWanted 10 = .ok (.aload_n 0, 1) := by decide +kernel
theorem dX2_daysWanted_11 : decode cX2_daysWanted 11 = .ok (.getfield 18, 3) := by decide +kernel
theorem dX2_daysWanted_14 : decode cX2_daysWanted 14 = .ok (.iload_n 1, 1) := by decide +kernel
theorem dX2_daysWanted_15 : decode cX2_daysWanted 15 = .ok (.iaload, 1) := by decide +kernel
theorem dX2_daysWanted_16 : decode cX2_daysWanted 16 = .ok (.goto 4, 3) := by decide +kernel
theorem dX2_daysWanted_19 : decode cX2_daysWanted 19 = .ok (.iconst (-1), 1) := by decide +kernel
theorem dX2_daysWanted_20 : decode cX2_daysWanted 20 = .ok (.ireturn, 1) := by decide +kernel
theorem dX2_lets_0 : decode cX2_lets 0 = .ok (.aload_n 0, 1) := by decide +kernel
theorem dX2_lets_1 : decode cX2_lets 1 = .ok (.aload_n 1, 1) := by decide +kernel
theorem dX2_lets_2 : decode cX2_lets 2 = .ok (.getfield 28, 3) := by decide +kernel
theorem dX2_lets_5 : decode cX2_lets 5 = .ok (.getfield 34, 3) := by decide +kernel
theorem dX2_lets_8 : decode cX2_lets 8 = .ok (.invokevirtual 39, 3) := by decide +kernel
theorem dX2_lets_11 : decode cX2_lets 11 = .ok (.istore_n 3, 1) := by decide +kernel
theorem dX2_lets_12 : decode cX2_lets 12 = .ok (.iload_n 3, 1) := by decide +kernel
theorem dX2_lets_13 : decode cX2_lets 13 = .ok (.iconst (-1), 1) := by decide +kernel
theorem dX2_lets_14 : decode cX2_lets 14 = .ok (.if_icmp .ne 5, 3) := by decide +kernel
theorem dX2_lets_17 : decode cX2_lets 17 = .ok (.iconst 1, 1) := by decide +kernel
theorem dX2_lets_18 : decode cX2_lets 18 = .ok (.ireturn, 1) := by decide +kernel
theorem dX2_lets_19 : decode cX2_lets 19 = .ok (.aload_n 1, 1) := by decide +kernel
theorem dX2_lets_20 : decode cX2_lets 20 = .ok (.getfield 43, 3) := by decide +kernel
theorem dX2_lets_23 : decode cX2_lets 23 = .ok (.iconst (-1), 1) := by decide +kernel
theorem dX2_lets_24 : decode cX2_lets 24 = .ok (.if_icmp .eq 17, 3) := by decide +kernel
theorem dX2_lets_27 : decode cX2_lets 27 = .ok (.iload_n 2, 1) := by decide +kernel
theorem dX2_lets_28 : decode cX2_lets 28 = .ok (.aload_n 1, 1) := by decide +kernel
theorem dX2_lets_29 : decode cX2_lets 29 = .ok (.getfield 43, 3) := by decide +kernel
theorem dX2_lets_32 : decode cX2_lets 32 = .ok (.isub, 1) := by decide +kernel
theorem dX2_lets_33 : decode cX2_lets 33 = .ok (.iload_n 3, 1) := by decide +kernel
theorem dX2_lets_34 : decode cX2_lets 34 = .ok (.if_icmp .gt 7, 3) := by decide +kernel
theorem dX2_lets_37 : decode cX2_lets 37 = .ok (.iconst 1, 1) := by decide +kernel
theorem dX2_lets_38 : decode cX2_lets 38 = .ok (.goto 4, 3) := by decide +kernel
theorem dX2_lets_41 : decode cX2_lets 41 = .ok (.iconst 0, 1) := by decide +kernel
theorem dX2_lets_42 : decode cX2_lets 42 = .ok (.ireturn, 1) := by decide +kernel
theorem dX3_init_0 : decode cX3_init 0 = .ok (.aload_n 0, 1) := by decide +kernel
theorem dX3_init_1 : decode cX3_init 1 = .ok (.invokespecial 3, 3) := by decide +kernel
theorem dX3_init_4 : decode cX3_init 4 = .ok (.aload_n 0, 1) := by decide +kernel
theorem dX3_init_5 : decode cX3_init 5 = .ok (.bipush 8, 2) := by decide +kernel
theorem dX3_init_7 : decode cX3_init 7 = .ok (.newarray .int, 2) := by decide +kernel
theorem dX3_init_9 : decode cX3_init 9 = .ok (.putfield 9, 3) := by decide +kernel
theorem dX3_init_12 : decode cX3_init 12 = .ok (.aload_n 0, 1) := by decide +kernel
theorem dX3_init_13 : decode cX3_init 13 = .ok (.iconst 0, 1) := by decide +kernel
theorem dX3_init_14 : decode cX3_init 14 = .ok (.putfield 15, 3) := by decide +kernel
theorem dX3_init_17 : decode cX3_init 17 = .ok (.aload_n 0, 1) := by decide +kernel
theorem dX3_init_18 : decode cX3_init 18 = .ok (.iconst (-1), 1) := by decide +kernel
theorem dX3_init_19 : decode cX3_init 19 = .ok (.putfield 19, 3) := by decide +kernel
theorem dX3_init_22 : decode cX3_init 22 = .ok (.aload_n 0, 1) := by decide +kernel
theorem dX3_init_23 : decode cX3_init 23 = .ok (.iconst 0, 1) := by decide +kernel
theorem dX3_init_24 : decode cX3_init 24 = .ok (.putfield 22, 3) := by decide +kernel
theorem dX3_init_27 : decode cX3_init 27 = .ok (.aload_n 0, 1) := by decide +kernel
theorem dX3_init_28 : decode cX3_init 28 = .ok (.iconst 0, 1) := by decide +kernel
theorem dX3_init_29 : decode cX3_init 29 = .ok (.putfield 25, 3) := by decide +kernel
theorem dX3_init_32 : decode cX3_init 32 = .ok (.return_, 1) := by decide +kernel
theorem dX3_read_0 : decode cX3_read 0 = .ok (.aload_n 0, 1) := by decide +kernel
theorem dX3_read_1 : decode cX3_read 1 = .ok (.getfield 9, 3) := by decide +kernel
theorem dX3_read_4 : decode cX3_read 4 = .ok (.iconst (-1), 1) := by decide +kernel
theorem dX3_read_5 : decode cX3_read 5 = .ok (.invokestatic 28, 3) := by decide +kernel
theorem dX3_read_8 : decode cX3_read 8 = .ok (.aload_n 0, 1) := by decide +kernel
theorem dX3_read_9 : decode cX3_read 9 = .ok (.iconst 0, 1) := by decide +kernel
theorem dX3_read_10 : decode cX3_read 10 = .ok (.putfield 15, 3) := by decide +kernel
theorem dX3_read_13 : decode cX3_read 13 = .ok (.aload_n 0, 1) := by decide +kernel
theorem dX3_read_14 : decode cX3_read 14 = .ok (.iconst (-1), 1) := by decide +kernel
theorem dX3_read_15 : decode cX3_read 15 = .ok (.putfield 19, 3) := by decide +kernel
theorem dX3_read_18 : decode cX3_read 18 = .ok (.aload_n 0, 1) := by decide +kernel
theorem dX3_read_19 : decode cX3_read 19 = .ok (.iconst 0, 1) := by decide +kernel
theorem dX3_read_20 : decode cX3_read 20 = .ok (.putfield 22, 3) := by decide +kernel
theorem dX3_read_23 : decode cX3_read 23 = .ok (.iconst 0, 1) := by decide +kernel
theorem dX3_read_24 : decode cX3_read 24 = .ok (.istore_n 3, 1) := by decide +kernel
theorem dX3_read_25 : decode cX3_read 25 = .ok (.iload_n 3, 1) := by decide +kernel
theorem dX3_read_26 : decode cX3_read 26 = .ok (.aload_n 1, 1) := by decide +kernel
theorem dX3_read_27 : decode cX3_read 27 = .ok (.getfield 34, 3) := by decide +kernel
theorem dX3_read_30 : decode cX3_read 30 = .ok (.if_icmp .ge 48, 3) := by decide +kernel
theorem dX3_read_33 : decode cX3_read 33 = .ok (.aload_n 0, 1) := by decide +kernel
theorem dX3_read_34 : decode cX3_read 34 = .ok (.getfield 15, 3) := by decide +kernel
theorem dX3_read_37 : decode cX3_read 37 = .ok (.ifCond .ne 41, 3) := by decide +kernel
theorem dX3_read_40 : decode cX3_read 40 = .ok (.aload_n 1, 1) := by decide +kernel
theorem dX3_read_41 : decode cX3_read 41 = .ok (.iload_n 3, 1) := by decide +kernel
theorem dX3_read_42 : decode cX3_read 42 = .ok (.invokevirtual 39, 3) := by decide +kernel
theorem dX3_read_45 : decode cX3_read 45 = .ok (.invokestatic 43, 3) := by decide +kernel
theorem dX3_read_48 : decode cX3_read 48 = .ok (.ifCond .ne 24, 3) := by decide +kernel
theorem dX3_read_51 : decode cX3_read 51 = .ok (.aload_n 1, 1) := by decide +kernel
theorem dX3_read_52 : decode cX3_read 52 = .ok (.iload_n 3, 1) := by decide +kernel
theorem dX3_read_53 : decode cX3_read 53 = .ok (.invokestatic 47, 3) := by decide +kernel
theorem dX3_read_56 : decode cX3_read 56 = .ok (.istore 4, 2) := by decide +kernel
theorem dX3_read_58 : decode cX3_read 58 = .ok (.aload_n 0, 1) := by decide +kernel
theorem dX3_read_59 : decode cX3_read 59 = .ok (.aload_n 1, 1) := by decide +kernel
theorem dX3_read_60 : decode cX3_read 60 = .ok (.iload_n 3, 1) := by decide +kernel
theorem dX3_read_61 : decode cX3_read 61 = .ok (.iload 4, 2) := by decide +kernel
theorem dX3_read_63 : decode cX3_read 63 = .ok (.iload_n 2, 1) := by decide +kernel
theorem dX3_read_64 : decode cX3_read 64 = .ok (.invokevirtual 51, 3) := by decide +kernel
theorem dX3_read_67 : decode cX3_read 67 = .ok (.iload 4, 2) := by decide +kernel
theorem dX3_read_69 : decode cX3_read 69 = .ok (.iconst 1, 1) := by decide +kernel
theorem dX3_read_70 : decode cX3_read 70 = .ok (.isub, 1) := by decide +kernel
theorem dX3_read_71 : decode cX3_read 71 = .ok (.istore_n 3, 1) := by decide +kernel
theorem dX3_read_72 : decode cX3_read 72 = .ok (.iinc 3 1, 3) := by decide +kernel
theorem dX3_read_75 : decode cX3_read 75 = .ok (.goto (-50), 3) := by decide +kernel
theorem dX3_read_78 : decode cX3_read 78 = .ok (.aload_n 0, 1) := by decide +kernel
theorem dX3_read_79 : decode cX3_read 79 = .ok (.getfield 15, 3) := by decide +kernel
theorem dX3_read_82 : decode cX3_read 82 = .ok (.ifCond .ne 19, 3) := by decide +kernel
theorem dX3_read_85 : decode cX3_read 85 = .ok (.aload_n 0, 1) := by decide +kernel
theorem dX3_read_86 : decode cX3_read 86 = .ok (.getfield 22, 3) := by decide +kernel
theorem dX3_read_89 : decode cX3_read 89 = .ok (.ifCond .eq 12, 3) := by decide +kernel
theorem dX3_read_92 : decode cX3_read 92 = .ok (.aload_n 0, 1) := by decide +kernel
theorem dX3_read_93 : decode cX3_read 93 = .ok (.iconst 1, 1) := by decide +kernel
theorem dX3_read_94 : decode cX3_read 94 = .ok (.aload_n 1, 1) := by decide +kernel
theorem dX3_read_95 : decode cX3_read 95 = .ok (.getfield 34, 3) := by decide +kernel
theorem dX3_read_98 : decode cX3_read 98 = .ok (.invokevirtual 55, 3) := by decide +kernel
theorem dX3_read_101 : decode cX3_read 101 = .ok (.return_, 1) := by decide +kernel
theorem dX3_take_0 : decode cX3_take 0 = .ok (.aload_n 1, 1) := by decide +kernel
theorem dX3_take_1 : decode cX3_take 1 = .ok (.iload_n 2, 1) := by decide +kernel
theorem dX3_take_2 : decode cX3_take 2 = .ok (.iload_n 3, 1) := by decide +kernel
theorem dX3_take_3 : decode cX3_take 3 = .ok (.invokestatic 59, 3) := by decide +kernel
theorem dX3_take_6 : decode cX3_take 6 = .ok (.istore 5, 2) := by decide +kernel
theorem dX3_take_8 : decode cX3_take 8 = .ok (.aload_n 0, 1) := by decide +kernel
theorem dX3_take_9 : decode cX3_take 9 = .ok (.getfield 22, 3) := by decide +kernel
theorem dX3_take_12 : decode cX3_take 12 = .ok (.ifCond .ne 20, 3) := by decide +kernel
theorem dX3_take_15 : decode cX3_take 15 = .ok (.aload_n 1, 1) := by decide +kernel
theorem dX3_take_16 : decode cX3_take 16 = .ok (.iload_n 2, 1) := by decide +kernel
theorem dX3_take_17 : decode cX3_take 17 = .ok (.iload_n 3, 1) := by decide +kernel
theorem dX3_take_18 : decode cX3_take 18 = .ok (.invokestatic 63, 3) := by decide +kernel
theorem dX3_take_21 : decode cX3_take 21 = .ok (.ifCond .eq 11, 3) := by decide +kernel
theorem dX3_take_24 : decode cX3_take 24 = .ok (.aload_n 0, 1) := by decide +kernel
theorem dX3_take_25 : decode cX3_take 25 = .ok (.iconst 1, 1) := by decide +kernel
theorem dX3_take_26 : decode cX3_take 26 = .ok (.putfield 22, 3) := by decide +kernel
theorem dX3_take_29 : decode cX3_take 29 = .ok (.goto 84, 3) := by decide +kernel
theorem dX3_take_32 : decode cX3_take 32 = .ok (.aload_n 0, 1) := by decide +kernel
theorem dX3_take_33 : decode cX3_take 33 = .ok (.getfield 22, 3) := by decide +kernel
theorem dX3_take_36 : decode cX3_take 36 = .ok (.iconst 1, 1) := by decide +kernel
theorem dX3_take_37 : decode cX3_take 37 = .ok (.if_icmp .ne 21, 3) := by decide +kernel
theorem dX3_take_40 : decode cX3_take 40 = .ok (.iload 5, 2) := by decide +kernel
theorem dX3_take_42 : decode cX3_take 42 = .ok (.iconst (-1), 1) := by decide +kernel
theorem dX3_take_43 : decode cX3_take 43 = .ok (.if_icmp .eq 15, 3) := by decide +kernel
theorem dX3_take_46 : decode cX3_take 46 = .ok (.aload_n 0, 1) := by decide +kernel
theorem dX3_take_47 : decode cX3_take 47 = .ok (.iload 5, 2) := by decide +kernel
theorem dX3_take_49 : decode cX3_take 49 = .ok (.iload_n 2, 1) := by decide +kernel
theorem dX3_take_50 : decode cX3_take 50 = .ok (.iload 4, 2) := by decide +kernel
theorem dX3_take_52 : decode cX3_take 52 = .ok (.invokevirtual 67, 3) := by decide +kernel
theorem dX3_take_55 : decode cX3_take 55 = .ok (.goto 58, 3) := by decide +kernel
theorem dX3_take_58 : decode cX3_take 58 = .ok (.aload_n 0, 1) := by decide +kernel
theorem dX3_take_59 : decode cX3_take 59 = .ok (.getfield 22, 3) := by decide +kernel
theorem dX3_take_62 : decode cX3_take 62 = .ok (.iconst 2, 1) := by decide +kernel
theorem dX3_take_63 : decode cX3_take 63 = .ok (.if_icmp .ne 18, 3) := by decide +kernel
theorem dX3_take_66 : decode cX3_take 66 = .ok (.iload 5, 2) := by decide +kernel
theorem dX3_take_68 : decode cX3_take 68 = .ok (.iconst (-1), 1) := by decide +kernel
theorem dX3_take_69 : decode cX3_take 69 = .ok (.if_icmp .eq 12, 3) := by decide +kernel
theorem dX3_take_72 : decode cX3_take 72 = .ok (.aload_n 0, 1) := by decide +kernel
theorem dX3_take_73 : decode cX3_take 73 = .ok (.iload 5, 2) := by decide +kernel
theorem dX3_take_75 : decode cX3_take 75 = .ok (.invokevirtual 71, 3) := by decide +kernel
theorem dX3_take_78 : decode cX3_take 78 = .ok (.goto 35, 3) := by decide +kernel
theorem dX3_take_81 : decode cX3_take 81 = .ok (.aload_n 0, 1) := by decide +kernel
theorem dX3_take_82 : decode cX3_take 82 = .ok (.getfield 22, 3) := by decide +kernel
theorem dX3_take_85 : decode cX3_take 85 = .ok (.iconst 3, 1) := by decide +kernel
theorem dX3_take_86 : decode cX3_take 86 = .ok (.if_icmp .ne 21, 3) := by decide +kernel
theorem dX3_take_89 : decode cX3_take 89 = .ok (.aload_n 1, 1) := by decide +kernel
theorem dX3_take_90 : decode cX3_take 90 = .ok (.iload_n 2, 1) := by decide +kernel
theorem dX3_take_91 : decode cX3_take 91 = .ok (.invokevirtual 39, 3) := by decide +kernel
theorem dX3_take_94 : decode cX3_take 94 = .ok (.bipush 59, 2) := by decide +kernel
theorem dX3_take_96 : decode cX3_take 96 = .ok (.if_icmp .ne 11, 3) := by decide +kernel
theorem dX3_take_99 : decode cX3_take 99 = .ok (.aload_n 0, 1) := by decide +kernel
theorem dX3_take_100 : decode cX3_take 100 = .ok (.iconst 0, 1) := by decide +kernel
theorem dX3_take_101 : decode cX3_take 101 = .ok (.putfield 22, 3) := by decide +kernel
theorem dX3_take_104 : decode cX3_take 104 = .ok (.goto 9, 3) := by decide +kernel
theorem dX3_take_107 : decode cX3_take 107 = .ok (.aload_n 0, 1) := by decide +kernel
theorem dX3_take_108 : decode cX3_take 108 = .ok (.iconst 1, 1) := by decide +kernel
theorem dX3_take_109 : decode cX3_take 109 = .ok (.iload_n 2, 1) := by decide +kernel
theorem dX3_take_110 : decode cX3_take 110 = .ok (.invokevirtual 55, 3) := by decide +kernel
theorem dX3_take_113 : decode cX3_take 113 = .ok (.return_, 1) := by decide +kernel
theorem dX3_takeKind_0 : decode cX3_takeKind 0 = .ok (.iload_n 1, 1) := by decide +kernel
theorem dX3_takeKind_1 : decode cX3_takeKind 1 = .ok (.iload_n 3, 1) := by decide +kernel
theorem dX3_takeKind_2 : decode cX3_takeKind 2 = .ok (.if_icmp .lt 10, 3) := by decide +kernel
theorem dX3_takeKind_5 : decode cX3_takeKind 5 = .ok (.aload_n 0, 1) := by decide +kernel
theorem dX3_takeKind_6 : decode cX3_takeKind 6 = .ok (.iconst 2, 1) := by decide +kernel
theorem dX3_takeKind_7 : decode cX3_takeKind 7 = .ok (.iload_n 2, 1) := by decide +kernel
theorem dX3_takeKind_8 : decode cX3_takeKind 8 = .ok (.invokevirtual 55, 3) := by decide +kernel
theorem dX3_takeKind_11 : decode cX3_takeKind 11 = .ok (.return_, 1) := by decide +kernel
theorem dX3_takeKind_12 : decode cX3_takeKind 12 = .ok (.aload_n 0, 1) := by decide +kernel
theorem dX3_takeKind_13 : decode cX3_takeKind 13 = .ok (.iload_n 1, 1) := by decide +kernel
theorem dX3_takeKind_14 : decode cX3_takeKind 14 = .ok (.putfield 25, 3) := by decide +kernel
theorem dX3_takeKind_17 : decode cX3_takeKind 17 = .ok (.aload_n 0, 1) := by decide +kernel
theorem dX3_takeKind_18 : decode cX3_takeKind 18 = .ok (.iconst 2, 1) := by decide +kernel
theorem dX3_takeKind_19 : decode cX3_takeKind 19 = .ok (.putfield 22, 3) := by decide +kernel
theorem dX3_takeKind_22 : decode cX3_takeKind 22 = .ok (.return_, 1) := by decide +kernel
theorem dX3_takeDays_0 : decode cX3_takeDays 0 = .ok (.aload_n 0, 1) := by decide +kernel
theorem dX3_takeDays_1 : decode cX3_takeDays 1 = .ok (.getfield 25, 3) := by decide +kernel
theorem dX3_takeDays_4 : decode cX3_takeDays 4 = .ok (.ifCond .lt 22, 3) := by decide +kernel
theorem dX3_takeDays_7 : decode cX3_takeDays 7 = .ok (.aload_n 0, 1) := by decide +kernel
theorem dX3_takeDays_8 : decode cX3_takeDays 8 = .ok (.getfield 25, 3) := by decide +kernel
theorem dX3_takeDays_11 : decode cX3_takeDays 11 = .ok (.bipush 8, 2) := by decide +kernel
theorem dX3_takeDays_13 : decode cX3_takeDays 13 = .ok (.if_icmp .ge 13, 3) := by decide +kernel
theorem dX3_takeDays_16 : decode cX3_takeDays 16 = .ok (.aload_n 0, 1) := by decide +kernel
theorem dX3_takeDays_17 : decode cX3_takeDays 17 = .ok (.getfield 9, 3) := by decide +kernel
theorem dX3_takeDays_20 : decode cX3_takeDays 20 = .ok (.aload_n 0, 1) := by decide +kernel
theorem dX3_takeDays_21 : decode cX3_takeDays 21 = .ok (.getfield 25, 3) := by decide +kernel
theorem dX3_takeDays_24 : decode cX3_takeDays 24 = .ok (.iload_n 1, 1) := by decide +kernel
theorem dX3_takeDays_25 : decode cX3_takeDays 25 = .ok (.iastore, 1) := by decide +kernel
theorem dX3_takeDays_26 : decode cX3_takeDays 26 = .ok (.aload_n 0, 1) := by decide +kernel
theorem dX3_takeDays_27 : decode cX3_takeDays 27 = .ok (.iconst 3, 1) := by decide +kernel
theorem dX3_takeDays_28 : decode cX3_takeDays 28 = .ok (.putfield 22, 3) := by decide +kernel
theorem dX3_takeDays_31 : decode cX3_takeDays 31 = .ok (.return_, 1) := by decide +kernel
theorem dX3_blame_0 : decode cX3_blame 0 = .ok (.aload_n 0, 1) := by decide +kernel
theorem dX3_blame_1 : decode cX3_blame 1 = .ok (.iload_n 1, 1) := by decide +kernel
theorem dX3_blame_2 : decode cX3_blame 2 = .ok (.putfield 15, 3) := by decide +kernel
theorem dX3_blame_5 : decode cX3_blame 5 = .ok (.aload_n 0, 1) := by decide +kernel
theorem dX3_blame_6 : decode cX3_blame 6 = .ok (.iload_n 2, 1) := by decide +kernel
theorem dX3_blame_7 : decode cX3_blame 7 = .ok (.putfield 19, 3) := by decide +kernel
theorem dX3_blame_10 : decode cX3_blame 10 = .ok (.return_, 1) := by decide +kernel
theorem dX3_endOfToken_0 : decode cX3_endOfToken 0 = .ok (.aload_n 0, 1) := by decide +kernel
theorem dX3_endOfToken_1 : decode cX3_endOfToken 1 = .ok (.iload_n 1, 1) := by decide +kernel
theorem dX3_endOfToken_2 : decode cX3_endOfToken 2 = .ok (.invokevirtual 39, 3) := by decide +kernel
theorem dX3_endOfToken_5 : decode cX3_endOfToken 5 = .ok (.invokestatic 75, 3) := by decide +kernel
theorem dX3_endOfToken_8 : decode cX3_endOfToken 8 = .ok (.istore_n 2, 1) := by decide +kernel
theorem dX3_endOfToken_9 : decode cX3_endOfToken 9 = .ok (.aload_n 0, 1) := by decide +kernel
theorem dX3_endOfToken_10 : decode cX3_endOfToken 10 = .ok (.iload_n 1, 1) := by decide +kernel
theorem dX3_endOfToken_11 : decode cX3_endOfToken 11 = .ok (.invokevirtual 39, 3) := by decide +kernel
theorem dX3_endOfToken_14 : decode cX3_endOfToken 14 = .ok (.invokestatic 78, 3) := by decide +kernel
theorem dX3_endOfToken_17 : decode cX3_endOfToken 17 = .ok (.istore_n 3, 1) := by decide +kernel
theorem dX3_endOfToken_18 : decode cX3_endOfToken 18 = .ok (.iload_n 1, 1) := by decide +kernel
theorem dX3_endOfToken_19 : decode cX3_endOfToken 19 = .ok (.iconst 1, 1) := by decide +kernel
theorem dX3_endOfToken_20 : decode cX3_endOfToken 20 = .ok (.iadd, 1) := by decide +kernel
theorem dX3_endOfToken_21 : decode cX3_endOfToken 21 = .ok (.istore 4, 2) := by decide +kernel
theorem dX3_endOfToken_23 : decode cX3_endOfToken 23 = .ok (.iload 4, 2) := by decide +kernel
theorem dX3_endOfToken_25 : decode cX3_endOfToken 25 = .ok (.aload_n 0, 1) := by decide +kernel
theorem dX3_endOfToken_26 : decode cX3_endOfToken 26 = .ok (.getfield 34, 3) := by decide +kernel
theorem dX3_endOfToken_29 : decode cX3_endOfToken 29 = .ok (.if_icmp .ge 41, 3) := by decide +kernel
theorem dX3_endOfToken_32 : decode cX3_endOfToken 32 = .ok (.iload_n 2, 1) := by decide +kernel
theorem dX3_endOfToken_33 : decode cX3_endOfToken 33 = .ok (.ifCond .eq 15, 3) := by decide +kernel
theorem dX3_endOfToken_36 : decode cX3_endOfToken 36 = .ok (.aload_n 0, 1) := by decide +kernel
theorem dX3_endOfToken_37 : decode cX3_endOfToken 37 = .ok (.iload 4, 2) := by decide +kernel
theorem dX3_endOfToken_39 : decode cX3_endOfToken 39 = .ok (.invokevirtual 39, 3) := by decide +kernel
theorem dX3_endOfToken_42 : decode cX3_endOfToken 42 = .ok (.invokestatic 75, 3) := by decide +kernel
theorem dX3_endOfToken_45 : decode cX3_endOfToken 45 = .ok (.ifCond .ne 19, 3) := by decide +kernel
theorem dX3_endOfToken_48 : decode cX3_endOfToken 48 = .ok (.iload_n 3, 1) := by decide +kernel
theorem dX3_endOfToken_49 : decode cX3_endOfToken 49 = .ok (.ifCond .eq 21, 3) := by decide +kernel
theorem dX3_endOfToken_52 : decode cX3_endOfToken 52 = .ok (.aload_n 0, 1) := by decide +kernel
theorem dX3_endOfToken_53 : decode cX3_endOfToken 53 = .ok (.iload 4, 2) := by decide +kernel
theorem dX3_endOfToken_55 : decode cX3_endOfToken 55 = .ok (.invokevirtual 39, 3) := by decide +kernel
theorem dX3_endOfToken_58 : decode cX3_endOfToken 58 = .ok (.invokestatic 78, 3) := by decide +kernel
theorem dX3_endOfToken_61 : decode cX3_endOfToken 61 = .ok (.ifCond .eq 9, 3) := by decide +kernel
theorem dX3_endOfToken_64 : decode cX3_endOfToken 64 = .ok (.iinc 4 1, 3) := by decide +kernel
theorem dX3_endOfToken_67 : decode cX3_endOfToken 67 = .ok (.goto (-44), 3) := by decide +kernel
theorem dX3_endOfToken_70 : decode cX3_endOfToken 70 = .ok (.iload 4, 2) := by decide +kernel
theorem dX3_endOfToken_72 : decode cX3_endOfToken 72 = .ok (.ireturn, 1) := by decide +kernel
theorem dX3_isEvery_0 : decode cX3_isEvery 0 = .ok (.iload_n 2, 1) := by decide +kernel
theorem dX3_isEvery_1 : decode cX3_isEvery 1 = .ok (.iload_n 1, 1) := by decide +kernel
theorem dX3_isEvery_2 : decode cX3_isEvery 2 = .ok (.isub, 1) := by decide +kernel
theorem dX3_isEvery_3 : decode cX3_isEvery 3 = .ok (.ldc 81, 2) := by decide +kernel
theorem dX3_isEvery_5 : decode cX3_isEvery 5 = .ok (.invokevirtual 83, 3) := by decide +kernel
theorem dX3_isEvery_8 : decode cX3_isEvery 8 = .ok (.if_icmp .eq 5, 3) := by decide +kernel
theorem dX3_isEvery_11 : decode cX3_isEvery 11 = .ok (.iconst 0, 1) := by decide +kernel
theorem dX3_isEvery_12 : decode cX3_isEvery 12 = .ok (.ireturn, 1) := by decide +kernel
theorem dX3_isEvery_13 : decode cX3_isEvery 13 = .ok (.iconst 0, 1) := by decide +kernel
theorem dX3_isEvery_14 : decode cX3_isEvery 14 = .ok (.istore_n 3, 1) := by decide +kernel
theorem dX3_isEvery_15 : decode cX3_isEvery 15 = .ok (.iload_n 3, 1) := by decide +kernel
theorem dX3_isEvery_16 : decode cX3_isEvery 16 = .ok (.ldc 81, 2) := by decide +kernel
theorem dX3_isEvery_18 : decode cX3_isEvery 18 = .ok (.invokevirtual 83, 3) := by decide +kernel
theorem dX3_isEvery_21 : decode cX3_isEvery 21 = .ok (.if_icmp .ge 27, 3) := by decide +kernel
theorem dX3_isEvery_24 : decode cX3_isEvery 24 = .ok (.aload_n 0, 1) := by decide +kernel
theorem dX3_isEvery_25 : decode cX3_isEvery 25 = .ok (.iload_n 1, 1) := by decide +kernel
theorem dX3_isEvery_26 : decode cX3_isEvery 26 = .ok (.iload_n 3, 1) := by decide +kernel
theorem dX3_isEvery_27 : decode cX3_isEvery 27 = .ok (.iadd, 1) := by decide +kernel
theorem dX3_isEvery_28 : decode cX3_isEvery 28 = .ok (.invokevirtual 39, 3) := by decide +kernel
theorem dX3_isEvery_31 : decode cX3_isEvery 31 = .ok (.ldc 81, 2) := by decide +kernel
theorem dX3_isEvery_33 : decode cX3_isEvery 33 = .ok (.iload_n 3, 1) := by decide +kernel
theorem dX3_isEvery_34 : decode cX3_isEvery 34 = .ok (.invokevirtual 88, 3) := by decide +kernel
theorem dX3_isEvery_37 : decode cX3_isEvery 37 = .ok (.if_icmp .eq 5, 3) := by decide +kernel
theorem dX3_isEvery_40 : decode cX3_isEvery 40 = .ok (.iconst 0, 1) := by decide +kernel
theorem dX3_isEvery_41 : decode cX3_isEvery 41 = .ok (.ireturn, 1) := by decide +kernel
theorem dX3_isEvery_42 : decode cX3_isEvery 42 = .ok (.iinc 3 1, 3) := by decide +kernel
theorem dX3_isEvery_45 : decode cX3_isEvery 45 = .ok (.goto (-30), 3) := by decide +kernel
theorem dX3_isEvery_48 : decode cX3_isEvery 48 = .ok (.iconst 1, 1) := by decide +kernel
theorem dX3_isEvery_49 : decode cX3_isEvery 49 = .ok (.ireturn, 1) := by decide +kernel
theorem dX3_numberOf_0 : decode cX3_numberOf 0 = .ok (.aload_n 0, 1) := by decide +kernel
theorem dX3_numberOf_1 : decode cX3_numberOf 1 = .ok (.iload_n 1, 1) := by decide +kernel
theorem dX3_numberOf_2 : decode cX3_numberOf 2 = .ok (.invokevirtual 39, 3) := by decide +kernel
theorem dX3_numberOf_5 : decode cX3_numberOf 5 = .ok (.invokestatic 78, 3) := by decide +kernel
theorem dX3_numberOf_8 : decode cX3_numberOf 8 = .ok (.ifCond .eq 10, 3) := by decide +kernel
theorem dX3_numberOf_11 : decode cX3_numberOf 11 = .ok (.iload_n 2, 1) := by decide +kernel
theorem dX3_numberOf_12 : decode cX3_numberOf 12 = .ok (.iload_n 1, 1) := by decide +kernel
theorem dX3_numberOf_13 : decode cX3_numberOf 13 = .ok (.isub, 1) := by decide +kernel
theorem dX3_numberOf_14 : decode cX3_numberOf 14 = .ok (.iconst 3, 1) := by decide +kernel
theorem dX3_numberOf_15 : decode cX3_numberOf 15 = .ok (.if_icmp .le 5, 3) := by decide +kernel
theorem dX3_numberOf_18 : decode cX3_numberOf 18 = .ok (.iconst (-1), 1) := by decide +kernel
theorem dX3_numberOf_19 : decode cX3_numberOf 19 = .ok (.ireturn, 1) := by decide +kernel
theorem dX3_numberOf_20 : decode cX3_numberOf 20 = .ok (.iconst 0, 1) := by decide +kernel
theorem dX3_numberOf_21 : decode cX3_numberOf 21 = .ok (.istore_n 3, 1) := by decide +kernel
theorem dX3_numberOf_22 : decode cX3_numberOf 22 = .ok (.iload_n 1, 1) := by decide +kernel
theorem dX3_numberOf_23 : decode cX3_numberOf 23 = .ok (.istore 4, 2) := by decide +kernel
theorem dX3_numberOf_25 : decode cX3_numberOf 25 = .ok (.iload 4, 2) := by decide +kernel
theorem dX3_numberOf_27 : decode cX3_numberOf 27 = .ok (.iload_n 2, 1) := by decide +kernel
theorem dX3_numberOf_28 : decode cX3_numberOf 28 = .ok (.if_icmp .ge 24, 3) := by decide +kernel
theorem dX3_numberOf_31 : decode cX3_numberOf 31 = .ok (.iload_n 3, 1) := by decide +kernel
theorem dX3_numberOf_32 : decode cX3_numberOf 32 = .ok (.bipush 10, 2) := by decide +kernel
theorem dX3_numberOf_34 : decode cX3_numberOf 34 = .ok (.imul, 1) := by decide +kernel
theorem dX3_numberOf_35 : decode cX3_numberOf 35 = .ok (.aload_n 0, 1) := by decide +kernel
theorem dX3_numberOf_36 : decode cX3_numberOf 36 = .ok (.iload 4, 2) := by decide +kernel
theorem dX3_numberOf_38 : decode cX3_numberOf 38 = .ok (.invokevirtual 39, 3) := by decide +kernel
theorem dX3_numberOf_41 : decode cX3_numberOf 41 = .ok (.iadd, 1) := by decide +kernel
theorem dX3_numberOf_42 : decode cX3_numberOf 42 = .ok (.bipush 48, 2) := by decide +kernel
theorem dX3_numberOf_44 : decode cX3_numberOf 44 = .ok (.isub, 1) := by decide +kernel
theorem dX3_numberOf_45 : decode cX3_numberOf 45 = .ok (.istore_n 3, 1) := by decide +kernel
theorem dX3_numberOf_46 : decode cX3_numberOf 46 = .ok (.iinc 4 1, 3) := by decide +kernel
theorem dX3_numberOf_49 : decode cX3_numberOf 49 = .ok (.goto (-24), 3) := by decide +kernel
theorem dX3_numberOf_52 : decode cX3_numberOf 52 = .ok (.iload_n 3, 1) := by decide +kernel
theorem dX3_numberOf_53 : decode cX3_numberOf 53 = .ok (.ireturn, 1) := by decide +kernel
theorem dX3_isBlank_0 : decode cX3_isBlank 0 = .ok (.iload_n 0, 1) := by decide +kernel
theorem dX3_isBlank_1 : decode cX3_isBlank 1 = .ok (.bipush 32, 2) := by decide +kernel
theorem dX3_isBlank_3 : decode cX3_isBlank 3 = .ok (.if_icmp .eq 9, 3) := by decide +kernel
theorem dX3_isBlank_6 : decode cX3_isBlank 6 = .ok (.iload_n 0, 1) := by decide +kernel
theorem dX3_isBlank_7 : decode cX3_isBlank 7 = .ok (.bipush 10, 2) := by decide +kernel
theorem dX3_isBlank_9 : decode cX3_isBlank 9 = .ok (.if_icmp .ne 7, 3) := by decide +kernel
theorem dX3_isBlank_12 : decode cX3_isBlank 12 = .ok (.iconst 1, 1) := by decide +kernel
theorem dX3_isBlank_13 : decode cX3_isBlank 13 = .ok (.goto 4, 3) := by decide +kernel
theorem dX3_isBlank_16 : decode cX3_isBlank 16 = .ok (.iconst 0, 1) := by decide +kernel
theorem dX3_isBlank_17 : decode cX3_isBlank 17 = .ok (.ireturn, 1) := by decide +kernel
theorem dX3_isLetter_0 : decode cX3_isLetter 0 = .ok (.iload_n 0, 1) := by decide +kernel
theorem dX3_isLetter_1 : decode cX3_isLetter 1 = .ok (.bipush 97, 2) := by decide +kernel
theorem dX3_isLetter_3 : decode cX3_isLetter 3 = .ok (.if_icmp .lt 13, 3) := by decide +kernel
theorem dX3_isLetter_6 : decode cX3_isLetter 6 = .ok (.iload_n 0, 1) := by decide +kernel
theorem dX3_isLetter_7 : decode cX3_isLetter 7 = .ok (.bipush 122, 2) := by decide +kernel
theorem dX3_isLetter_9 : decode cX3_isLetter 9 = .ok (.if_icmp .gt 7, 3) := by decide +kernel
theorem dX3_isLetter_12 : decode cX3_isLetter 12 = .ok (.iconst 1, 1) := by decide +kernel
theorem dX3_isLetter_13 : decode cX3_isLetter 13 = .ok (.goto 4, 3) := by decide +kernel
theorem dX3_isLetter_16 : decode cX3_isLetter 16 = .ok (.iconst 0, 1) := by decide +kernel
theorem dX3_isLetter_17 : decode cX3_isLetter 17 = .ok (.ireturn, 1) := by decide +kernel
theorem dX3_isDigit_0 : decode cX3_isDigit 0 = .ok (.iload_n 0, 1) := by decide +kernel
theorem dX3_isDigit_1 : decode cX3_isDigit 1 = .ok (.bipush 48, 2) := by decide +kernel
theorem dX3_isDigit_3 : decode cX3_isDigit 3 = .ok (.if_icmp .lt 13, 3) := by decide +kernel
theorem dX3_isDigit_6 : decode cX3_isDigit 6 = .ok (.iload_n 0, 1) := by decide +kernel
theorem dX3_isDigit_7 : decode cX3_isDigit 7 = .ok (.bipush 57, 2) := by decide +kernel
theorem dX3_isDigit_9 : decode cX3_isDigit 9 = .ok (.if_icmp .gt 7, 3) := by decide +kernel
theorem dX3_isDigit_12 : decode cX3_isDigit 12 = .ok (.iconst 1, 1) := by decide +kernel
theorem dX3_isDigit_13 : decode cX3_isDigit 13 = .ok (.goto 4, 3) := by decide +kernel
theorem dX3_isDigit_16 : decode cX3_isDigit 16 = .ok (.iconst 0, 1) := by decide +kernel
theorem dX3_isDigit_17 : decode cX3_isDigit 17 = .ok (.ireturn, 1) := by decide +kernel
theorem dX4_init_0 : decode cX4_init 0 = .ok (.aload_n 0, 1) := by decide +kernel
theorem dX4_init_1 : decode cX4_init 1 = .ok (.invokespecial 1, 3) := by decide +kernel
theorem dX4_init_4 : decode cX4_init 4 = .ok (.aload_n 0, 1) := by decide +kernel
theorem dX4_init_5 : decode cX4_init 5 = .ok (.iconst 0, 1) := by decide +kernel
theorem dX4_init_6 : decode cX4_init 6 = .ok (.putfield 7, 3) := by decide +kernel
theorem dX4_init_9 : decode cX4_init 9 = .ok (.aload_n 0, 1) := by decide +kernel
theorem dX4_init_10 : decode cX4_init 10 = .ok (.iconst 0, 1) := by decide +kernel
theorem dX4_init_11 : decode cX4_init 11 = .ok (.putfield 13, 3) := by decide +kernel
theorem dX4_init_14 : decode cX4_init 14 = .ok (.aload_n 0, 1) := by decide +kernel
theorem dX4_init_15 : decode cX4_init 15 = .ok (.iconst 0, 1) := by decide +kernel
theorem dX4_init_16 : decode cX4_init 16 = .ok (.putfield 16, 3) := by decide +kernel
theorem dX4_init_19 : decode cX4_init 19 = .ok (.aload_n 0, 1) := by decide +kernel
theorem dX4_init_20 : decode cX4_init 20 = .ok (.iload_n 1, 1) := by decide +kernel
theorem dX4_init_21 : decode cX4_init 21 = .ok (.putfield 19, 3) := by decide +kernel
theorem dX4_init_24 : decode cX4_init 24 = .ok (.return_, 1) := by decide +kernel
theorem dX4_owe_0 : decode cX4_owe 0 = .ok (.aload_n 0, 1) := by decide +kernel
theorem dX4_owe_1 : decode cX4_owe 1 = .ok (.dup, 1) := by decide +kernel
theorem dX4_owe_2 : decode cX4_owe 2 = .ok (.getfield 7, 3) := by decide +kernel
theorem dX4_owe_5 : decode cX4_owe 5 = .ok (.iload_n 1, 1) := by decide +kernel
theorem dX4_owe_6 : decode cX4_owe 6 = .ok (.iadd, 1) := by decide +kernel
theorem dX4_owe_7 : decode cX4_owe 7 = .ok (.putfield 7, 3) := by decide +kernel
theorem dX4_owe_10 : decode cX4_owe 10 = .ok (.aload_n 0, 1) := by decide +kernel
theorem dX4_owe_11 : decode cX4_owe 11 = .ok (.dup, 1) := by decide +kernel
theorem dX4_owe_12 : decode cX4_owe 12 = .ok (.getfield 13, 3) := by decide +kernel
theorem dX4_owe_15 : decode cX4_owe 15 = .ok (.iload_n 1, 1) := by decide +kernel
theorem dX4_owe_16 : decode cX4_owe 16 = .ok (.iload_n 2, 1) := by decide +kernel
theorem dX4_owe_17 : decode cX4_owe 17 = .ok (.imul, 1) := by decide +kernel
theorem dX4_owe_18 : decode cX4_owe 18 = .ok (.iadd, 1) := by decide +kernel
theorem dX4_owe_19 : decode cX4_owe 19 = .ok (.putfield 13, 3) := by decide +kernel
theorem dX4_owe_22 : decode cX4_owe 22 = .ok (.return_, 1) := by decide +kernel
theorem dX5_init_0 : decode cX5_init 0 = .ok (.aload_n 0, 1) := by decide +kernel
theorem dX5_init_1 : decode cX5_init 1 = .ok (.invokespecial 5, 3) := by decide +kernel
theorem dX5_init_4 : decode cX5_init 4 = .ok (.aload_n 0, 1) := by decide +kernel
theorem dX5_init_5 : decode cX5_init 5 = .ok (.iconst 5, 1) := by decide +kernel
theorem dX5_init_6 : decode cX5_init 6 = .ok (.anewarray 11, 3) := by decide +kernel
theorem dX5_init_9 : decode cX5_init 9 = .ok (.putfield 13, 3) := by decide +kernel
theorem dX5_init_12 : decode cX5_init 12 = .ok (.aload_n 0, 1) := by decide +kernel
theorem dX5_init_13 : decode cX5_init 13 = .ok (.iconst 0, 1) := by decide +kernel
theorem dX5_init_14 : decode cX5_init 14 = .ok (.putfield 17, 3) := by decide +kernel
theorem dX5_init_17 : decode cX5_init 17 = .ok (.aload_n 0, 1) := by decide +kernel
theorem dX5_init_18 : decode cX5_init 18 = .ok (.bipush 32, 2) := by decide +kernel
theorem dX5_init_20 : decode cX5_init 20 = .ok (.newarray .int, 2) := by decide +kernel
theorem dX5_init_22 : decode cX5_init 22 = .ok (.putfield 21, 3) := by decide +kernel
theorem dX5_init_25 : decode cX5_init 25 = .ok (.aload_n 0, 1) := by decide +kernel
theorem dX5_init_26 : decode cX5_init 26 = .ok (.bipush 32, 2) := by decide +kernel
theorem dX5_init_28 : decode cX5_init 28 = .ok (.newarray .int, 2) := by decide +kernel
theorem dX5_init_30 : decode cX5_init 30 = .ok (.putfield 25, 3) := by decide +kernel
theorem dX5_init_33 : decode cX5_init 33 = .ok (.return_, 1) := by decide +kernel
theorem dX5_begin_0 : decode cX5_begin 0 = .ok (.aload_n 0, 1) := by decide +kernel
theorem dX5_begin_1 : decode cX5_begin 1 = .ok (.iconst 0, 1) := by decide +kernel
theorem dX5_begin_2 : decode cX5_begin 2 = .ok (.putfield 17, 3) := by decide +kernel
theorem dX5_begin_5 : decode cX5_begin 5 = .ok (.aload_n 0, 1) := by decide +kernel
theorem dX5_begin_6 : decode cX5_begin 6 = .ok (.getfield 21, 3) := by decide +kernel
theorem dX5_begin_9 : decode cX5_begin 9 = .ok (.iconst 0, 1) := by decide +kernel
theorem dX5_begin_10 : decode cX5_begin 10 = .ok (.invokestatic 28, 3) := by decide +kernel
theorem dX5_begin_13 : decode cX5_begin 13 = .ok (.return_, 1) := by decide +kernel
theorem dX5_add_0 : decode cX5_add 0 = .ok (.aload_n 0, 1) := by decide +kernel
theorem dX5_add_1 : decode cX5_add 1 = .ok (.getfield 17, 3) := by decide +kernel
theorem dX5_add_4 : decode cX5_add 4 = .ok (.iconst 5, 1) := by decide +kernel
theorem dX5_add_5 : decode cX5_add 5 = .ok (.if_icmp .ge 23, 3) := by decide +kernel
theorem dX5_add_8 : decode cX5_add 8 = .ok (.aload_n 0, 1) := by decide +kernel
theorem dX5_add_9 : decode cX5_add 9 = .ok (.getfield 13, 3) := by decide +kernel
theorem dX5_add_12 : decode cX5_add 12 = .ok (.aload_n 0, 1) := by decide +kernel
theorem dX5_add_13 : decode cX5_add 13 = .ok (.getfield 17, 3) := by decide +kernel
theorem dX5_add_16 : decode cX5_add 16 = .ok (.aload_n 1, 1) := by decide +kernel
theorem dX5_add_17 : decode cX5_add 17 = .ok (.aastore, 1) := by decide +kernel
theorem dX5_add_18 : decode cX5_add 18 = .ok (.aload_n 0, 1) := by decide +kernel
theorem dX5_add_19 : decode cX5_add 19 = .ok (.dup, 1) := by decide +kernel
theorem dX5_add_20 : decode cX5_add 20 = .ok (.getfield 17, 3) := by decide +kernel
theorem dX5_add_23 : decode cX5_add 23 = .ok (.iconst 1, 1) := by decide +kernel
theorem dX5_add_24 : decode cX5_add 24 = .ok (.iadd, 1) := by decide +kernel
theorem dX5_add_25 : decode cX5_add 25 = .ok (.putfield 17, 3) := by decide +kernel
theorem dX5_add_28 : decode cX5_add 28 = .ok (.return_, 1) := by decide +kernel
theorem dX5_askAtRow_0 : decode cX5_askAtRow 0 = .ok (.iload_n 1, 1) := by decide +kernel
theorem dX5_askAtRow_1 : decode cX5_askAtRow 1 = .ok (.ifCond .lt 25, 3) := by decide +kernel
theorem dX5_askAtRow_4 : decode cX5_askAtRow 4 = .ok (.iload_n 1, 1) := by decide +kernel
theorem dX5_askAtRow_5 : decode cX5_askAtRow 5 = .ok (.aload_n 0, 1) := by decide +kernel
theorem dX5_askAtRow_6 : decode cX5_askAtRow 6 = .ok (.getfield 17, 3) := by decide +kernel
theorem dX5_askAtRow_9 : decode cX5_askAtRow 9 = .ok (.if_icmp .ge 17, 3) := by decide +kernel
theorem dX5_askAtRow_12 : decode cX5_askAtRow 12 = .ok (.iload_n 1, 1) := by decide +kernel
theorem dX5_askAtRow_13 : decode cX5_askAtRow 13 = .ok (.iconst 5, 1) := by decide +kernel
theorem dX5_askAtRow_14 : decode cX5_askAtRow 14 = .ok (.if_icmp .ge 12, 3) := by decide +kernel
theorem dX5_askAtRow_17 : decode cX5_askAtRow 17 = .ok (.aload_n 0, 1) := by decide +kernel
theorem dX5_askAtRow_18 : decode cX5_askAtRow 18 = .ok (.getfield 13, 3) := by decide +kernel
theorem dX5_askAtRow_21 : decode cX5_askAtRow 21 = .ok (.iload_n 1, 1) := by decide +kernel
theorem dX5_askAtRow_22 : decode cX5_askAtRow 22 = .ok (.aaload, 1) := by decide +kernel
theorem dX5_askAtRow_23 : decode cX5_askAtRow 23 = .ok (.goto 4, 3) := by decide +kernel
theorem dX5_askAtRow_26 : decode cX5_askAtRow 26 = .ok (.aconst_null, 1) := by decide +kernel
theorem dX5_askAtRow_27 : decode cX5_askAtRow 27 = .ok (.areturn, 1) := by decide +kernel
theorem dX5_offer_0 : decode cX5_offer 0 = .ok (.iload_n 2, 1) := by decide +kernel
theorem dX5_offer_1 : decode cX5_offer 1 = .ok (.ifCond .ne 4, 3) := by decide +kernel
theorem dX5_offer_4 : decode cX5_offer 4 = .ok (.return_, 1) := by decide +kernel
theorem dX5_offer_5 : decode cX5_offer 5 = .ok (.aload_n 0, 1) := by decide +kernel
theorem dX5_offer_6 : decode cX5_offer 6 = .ok (.aload_n 1, 1) := by decide +kernel
theorem dX5_offer_7 : decode cX5_offer 7 = .ok (.iload_n 2, 1) := by decide +kernel
theorem dX5_offer_8 : decode cX5_offer 8 = .ok (.invokevirtual 34, 3) := by decide +kernel
theorem dX5_offer_11 : decode cX5_offer 11 = .ok (.aload_n 0, 1) := by decide +kernel
theorem dX5_offer_12 : decode cX5_offer 12 = .ok (.invokevirtual 38, 3) := by decide +kernel
theorem dX5_offer_15 : decode cX5_offer 15 = .ok (.istore_n 3, 1) := by decide +kernel
theorem dX5_offer_16 : decode cX5_offer 16 = .ok (.iload_n 3, 1) := by decide +kernel
theorem dX5_offer_17 : decode cX5_offer 17 = .ok (.ifCond .le 77, 3) := by decide +kernel
theorem dX5_offer_20 : decode cX5_offer 20 = .ok (.iload_n 3, 1) := by decide +kernel
theorem dX5_offer_21 : decode cX5_offer 21 = .ok (.iload_n 2, 1) := by decide +kernel
theorem dX5_offer_22 : decode cX5_offer 22 = .ok (.iand, 1) := by decide +kernel
theorem dX5_offer_23 : decode cX5_offer 23 = .ok (.istore 4, 2) := by decide +kernel
theorem dX5_offer_25 : decode cX5_offer 25 = .ok (.iload 4, 2) := by decide +kernel
theorem dX5_offer_27 : decode cX5_offer 27 = .ok (.istore 5, 2) := by decide +kernel
theorem dX5_offer_29 : decode cX5_offer 29 = .ok (.iload 5, 2) := by decide +kernel
theorem dX5_offer_31 : decode cX5_offer 31 = .ok (.ifCond .le 57, 3) := by decide +kernel
theorem dX5_offer_34 : decode cX5_offer 34 = .ok (.aload_n 0, 1) := by decide +kernel
theorem dX5_offer_35 : decode cX5_offer 35 = .ok (.getfield 25, 3) := by decide +kernel
theorem dX5_offer_38 : decode cX5_offer 38 = .ok (.iload 5, 2) := by decide +kernel
theorem dX5_offer_40 : decode cX5_offer 40 = .ok (.iaload, 1) := by decide +kernel
theorem dX5_offer_41 : decode cX5_offer 41 = .ok (.ifCond .le 35, 3) := by decide +kernel
theorem dX5_offer_44 : decode cX5_offer 44 = .ok (.aload_n 0, 1) := by decide +kernel
theorem dX5_offer_45 : decode cX5_offer 45 = .ok (.getfield 21, 3) := by decide +kernel
theorem dX5_offer_48 : decode cX5_offer 48 = .ok (.iload_n 3, 1) := by decide +kernel
theorem dX5_offer_49 : decode cX5_offer 49 = .ok (.aload_n 0, 1) := by decide +kernel
theorem dX5_offer_50 : decode cX5_offer 50 = .ok (.getfield 21, 3) := by decide +kernel
theorem dX5_offer_53 : decode cX5_offer 53 = .ok (.iload_n 3, 1) := by decide +kernel
theorem dX5_offer_54 : decode cX5_offer 54 = .ok (.iaload, 1) := by decide +kernel
theorem dX5_offer_55 : decode cX5_offer 55 = .ok (.aload_n 0, 1) := by decide +kernel
theorem dX5_offer_56 : decode cX5_offer 56 = .ok (.getfield 21, 3) := by decide +kernel
theorem dX5_offer_59 : decode cX5_offer 59 = .ok (.iload_n 3, 1) := by decide +kernel
theorem dX5_offer_60 : decode cX5_offer 60 = .ok (.iload 5, 2) := by decide +kernel
theorem dX5_offer_62 : decode cX5_offer 62 = .ok (.ixor, 1) := by decide +kernel
theorem dX5_offer_63 : decode cX5_offer 63 = .ok (.iaload, 1) := by decide +kernel
theorem dX5_offer_64 : decode cX5_offer 64 = .ok (.aload_n 0, 1) := by decide +kernel
theorem dX5_offer_65 : decode cX5_offer 65 = .ok (.getfield 25, 3) := by decide +kernel
theorem dX5_offer_68 : decode cX5_offer 68 = .ok (.iload 5, 2) := by decide +kernel
theorem dX5_offer_70 : decode cX5_offer 70 = .ok (.iaload, 1) := by decide +kernel
theorem dX5_offer_71 : decode cX5_offer 71 = .ok (.iadd, 1) := by decide +kernel
theorem dX5_offer_72 : decode cX5_offer 72 = .ok (.invokestatic 42, 3) := by decide +kernel
theorem dX5_offer_75 : decode cX5_offer 75 = .ok (.iastore, 1) := by decide +kernel
theorem dX5_offer_76 : decode cX5_offer 76 = .ok (.iload 5, 2) := by decide +kernel
theorem dX5_offer_78 : decode cX5_offer 78 = .ok (.iconst 1, 1) := by decide +kernel
theorem dX5_offer_79 : decode cX5_offer 79 = .ok (.isub, 1) := by decide +kernel
theorem dX5_offer_80 : decode cX5_offer 80 = .ok (.iload 4, 2) := by decide +kernel
theorem dX5_offer_82 : decode cX5_offer 82 = .ok (.iand, 1) := by decide +kernel
theorem dX5_offer_83 : decode cX5_offer 83 = .ok (.istore 5, 2) := by decide +kernel
theorem dX5_offer_85 : decode cX5_offer 85 = .ok (.goto (-56), 3) := by decide +kernel
theorem dX5_offer_88 : decode cX5_offer 88 = .ok (.iinc 3 (-1), 3) := by decide +kernel
theorem dX5_offer_91 : decode cX5_offer 91 = .ok (.goto (-75), 3) := by decide +kernel
theorem dX5_offer_94 : decode cX5_offer 94 = .ok (.return_, 1) := by decide +kernel
theorem dX5_thingAtRow_0 : decode cX5_thingAtRow 0 = .ok (.aload_n 0, 1) := by decide +kernel
theorem dX5_thingAtRow_1 : decode cX5_thingAtRow 1 = .ok (.getfield 21, 3) := by decide +kernel
theorem dX5_thingAtRow_4 : decode cX5_thingAtRow 4 = .ok (.aload_n 0, 1) := by decide +kernel
theorem dX5_thingAtRow_5 : decode cX5_thingAtRow 5 = .ok (.invokevirtual 38, 3) := by decide +kernel
theorem dX5_thingAtRow_8 : decode cX5_thingAtRow 8 = .ok (.iaload, 1) := by decide +kernel
theorem dX5_thingAtRow_9 : decode cX5_thingAtRow 9 = .ok (.istore_n 2, 1) := by decide +kernel
theorem dX5_thingAtRow_10 : decode cX5_thingAtRow 10 = .ok (.iload_n 1, 1) := by decide +kernel
theorem dX5_thingAtRow_11 : decode cX5_thingAtRow 11 = .ok (.istore_n 3, 1) := by decide +kernel
theorem dX5_thingAtRow_12 : decode cX5_thingAtRow 12 = .ok (.iload_n 3, 1) := by decide +kernel
theorem dX5_thingAtRow_13 : decode cX5_thingAtRow 13 = .ok (.iconst 4, 1) := by decide +kernel
theorem dX5_thingAtRow_14 : decode cX5_thingAtRow 14 = .ok (.if_icmp .ge 14, 3) := by decide +kernel
theorem dX5_thingAtRow_17 : decode cX5_thingAtRow 17 = .ok (.iload_n 2, 1) := by decide +kernel
theorem dX5_thingAtRow_18 : decode cX5_thingAtRow 18 = .ok (.bipush 13, 2) := by decide +kernel
theorem dX5_thingAtRow_20 : decode cX5_thingAtRow 20 = .ok (.idiv, 1) := by decide +kernel
theorem dX5_thingAtRow_21 : decode cX5_thingAtRow 21 = .ok (.istore_n 2, 1) := by decide +kernel
theorem dX5_thingAtRow_22 : decode cX5_thingAtRow 22 = .ok (.iinc 3 1, 3) := by decide +kernel
theorem dX5_thingAtRow_25 : decode cX5_thingAtRow 25 = .ok (.goto (-13), 3) := by decide +kernel
theorem dX5_thingAtRow_28 : decode cX5_thingAtRow 28 = .ok (.iload_n 2, 1) := by decide +kernel
theorem dX5_thingAtRow_29 : decode cX5_thingAtRow 29 = .ok (.bipush 13, 2) := by decide +kernel
theorem dX5_thingAtRow_31 : decode cX5_thingAtRow 31 = .ok (.irem, 1) := by decide +kernel
theorem dX5_thingAtRow_32 : decode cX5_thingAtRow 32 = .ok (.istore_n 3, 1) := by decide +kernel
theorem dX5_thingAtRow_33 : decode cX5_thingAtRow 33 = .ok (.iload_n 3, 1) := by decide +kernel
theorem dX5_thingAtRow_34 : decode cX5_thingAtRow 34 = .ok (.ifCond .ne 7, 3) := by decide +kernel
theorem dX5_thingAtRow_37 : decode cX5_thingAtRow 37 = .ok (.iconst (-1), 1) := by decide +kernel
theorem dX5_thingAtRow_38 : decode cX5_thingAtRow 38 = .ok (.goto 7, 3) := by decide +kernel
theorem dX5_thingAtRow_41 : decode cX5_thingAtRow 41 = .ok (.bipush 12, 2) := by decide +kernel
theorem dX5_thingAtRow_43 : decode cX5_thingAtRow 43 = .ok (.iload_n 3, 1) := by decide +kernel
theorem dX5_thingAtRow_44 : decode cX5_thingAtRow 44 = .ok (.isub, 1) := by decide +kernel
theorem dX5_thingAtRow_45 : decode cX5_thingAtRow 45 = .ok (.ireturn, 1) := by decide +kernel
theorem dX5_wholeRow_0 : decode cX5_wholeRow 0 = .ok (.aload_n 0, 1) := by decide +kernel
theorem dX5_wholeRow_1 : decode cX5_wholeRow 1 = .ok (.getfield 17, 3) := by decide +kernel
theorem dX5_wholeRow_4 : decode cX5_wholeRow 4 = .ok (.ifCond .lt 22, 3) := by decide +kernel
theorem dX5_wholeRow_7 : decode cX5_wholeRow 7 = .ok (.aload_n 0, 1) := by decide +kernel
theorem dX5_wholeRow_8 : decode cX5_wholeRow 8 = .ok (.getfield 17, 3) := by decide +kernel
theorem dX5_wholeRow_11 : decode cX5_wholeRow 11 = .ok (.iconst 5, 1) := by decide +kernel
theorem dX5_wholeRow_12 : decode cX5_wholeRow 12 = .ok (.if_icmp .gt 14, 3) := by decide +kernel
theorem dX5_wholeRow_15 : decode cX5_wholeRow 15 = .ok (.iconst 1, 1) := by decide +kernel
theorem dX5_wholeRow_16 : decode cX5_wholeRow 16 = .ok (.aload_n 0, 1) := by decide +kernel
theorem dX5_wholeRow_17 : decode cX5_wholeRow 17 = .ok (.getfield 17, 3) := by decide +kernel
theorem dX5_wholeRow_20 : decode cX5_wholeRow 20 = .ok (.ishl, 1) := by decide +kernel
theorem dX5_wholeRow_21 : decode cX5_wholeRow 21 = .ok (.iconst 1, 1) := by decide +kernel
theorem dX5_wholeRow_22 : decode cX5_wholeRow 22 = .ok (.isub, 1) := by decide +kernel
theorem dX5_wholeRow_23 : decode cX5_wholeRow 23 = .ok (.goto 4, 3) := by decide +kernel
theorem dX5_wholeRow_26 : decode cX5_wholeRow 26 = .ok (.iconst 0, 1) := by decide +kernel
theorem dX5_wholeRow_27 : decode cX5_wholeRow 27 = .ok (.ireturn, 1) := by decide +kernel
theorem dX5_weigh_0 : decode cX5_weigh 0 = .ok (.aload_n 0, 1) := by decide +kernel
theorem dX5_weigh_1 : decode cX5_weigh 1 = .ok (.getfield 25, 3) := by decide +kernel
theorem dX5_weigh_4 : decode cX5_weigh 4 = .ok (.iconst 0, 1) := by decide +kernel
theorem dX5_weigh_5 : decode cX5_weigh 5 = .ok (.iconst 0, 1) := by decide +kernel
theorem dX5_weigh_6 : decode cX5_weigh 6 = .ok (.iastore, 1) := by decide +kernel
theorem dX5_weigh_7 : decode cX5_weigh 7 = .ok (.iconst 0, 1) := by decide +kernel
theorem dX5_weigh_8 : decode cX5_weigh 8 = .ok (.istore_n 3, 1) := by decide +kernel
theorem dX5_weigh_9 : decode cX5_weigh 9 = .ok (.iload_n 3, 1) := by decide +kernel
theorem dX5_weigh_10 : decode cX5_weigh 10 = .ok (.aload_n 0, 1) := by decide +kernel
theorem dX5_weigh_11 : decode cX5_weigh 11 = .ok (.getfield 17, 3) := by decide +kernel
theorem dX5_weigh_14 : decode cX5_weigh 14 = .ok (.if_icmp .ge 156, 3) := by decide +kernel
theorem dX5_weigh_17 : decode cX5_weigh 17 = .ok (.iload_n 3, 1) := by decide +kernel
theorem dX5_weigh_18 : decode cX5_weigh 18 = .ok (.iconst 5, 1) := by decide +kernel
theorem dX5_weigh_19 : decode cX5_weigh 19 = .ok (.if_icmp .ge 151, 3) := by decide +kernel
theorem dX5_weigh_22 : decode cX5_weigh 22 = .ok (.iconst 1, 1) := by decide +kernel
theorem dX5_weigh_23 : decode cX5_weigh 23 = .ok (.iload_n 3, 1) := by decide +kernel
theorem dX5_weigh_24 : decode cX5_weigh 24 = .ok (.ishl, 1) := by decide +kernel
theorem dX5_weigh_25 : decode cX5_weigh 25 = .ok (.istore 4, 2) := by decide +kernel
theorem dX5_weigh_27 : decode cX5_weigh 27 = .ok (.iload_n 2, 1) := by decide +kernel
theorem dX5_weigh_28 : decode cX5_weigh 28 = .ok (.iload 4, 2) := by decide +kernel
theorem dX5_weigh_30 : decode cX5_weigh 30 = .ok (.iand, 1) := by decide +kernel
theorem dX5_weigh_31 : decode cX5_weigh 31 = .ok (.ifCond .ne 7, 3) := by decide +kernel
theorem dX5_weigh_34 : decode cX5_weigh 34 = .ok (.aconst_null, 1) := by decide +kernel
theorem dX5_weigh_35 : decode cX5_weigh 35 = .ok (.goto 8, 3) := by decide +kernel
theorem dX5_weigh_38 : decode cX5_weigh 38 = .ok (.aload_n 0, 1) := by decide +kernel
theorem dX5_weigh_39 : decode cX5_weigh 39 = .ok (.iload_n 3, 1) := by decide +kernel
theorem dX5_weigh_40 : decode cX5_weigh 40 = .ok (.invokevirtual 48, 3) := by decide +kernel
theorem dX5_weigh_43 : decode cX5_weigh 43 = .ok (.astore 5, 2) := by decide +kernel
theorem dX5_weigh_45 : decode cX5_weigh 45 = .ok (.aload 5, 2) := by decide +kernel
theorem dX5_weigh_47 : decode cX5_weigh 47 = .ok (.ifnonnull 7, 3) := by decide +kernel
theorem dX5_weigh_50 : decode cX5_weigh 50 = .ok (.iconst 0, 1) := by decide +kernel
theorem dX5_weigh_51 : decode cX5_weigh 51 = .ok (.goto 10, 3) := by decide +kernel
theorem dX5_weigh_54 : decode cX5_weigh 54 = .ok (.aload 5, 2) := by decide +kernel
theorem dX5_weigh_56 : decode cX5_weigh 56 = .ok (.aload_n 1, 1) := by decide +kernel
theorem dX5_weigh_57 : decode cX5_weigh 57 = .ok (.iload_n 3, 1) := by decide +kernel
theorem dX5_weigh_58 : decode cX5_weigh 58 = .ok (.invokestatic 52, 3) := by decide +kernel
theorem dX5_weigh_61 : decode cX5_weigh 61 = .ok (.istore 6, 2) := by decide +kernel
theorem dX5_weigh_63 : decode cX5_weigh 63 = .ok (.aload 5, 2) := by decide +kernel
theorem dX5_weigh_65 : decode cX5_weigh 65 = .ok (.ifnonnull 7, 3) := by decide +kernel
theorem dX5_weigh_68 : decode cX5_weigh 68 = .ok (.iconst 0, 1) := by decide +kernel
theorem dX5_weigh_69 : decode cX5_weigh 69 = .ok (.goto 17, 3) := by decide +kernel
theorem dX5_weigh_72 : decode cX5_weigh 72 = .ok (.aload_n 0, 1) := by decide +kernel
theorem dX5_weigh_73 : decode cX5_weigh 73 = .ok (.aload 5, 2) := by decide +kernel
theorem dX5_weigh_75 : decode cX5_weigh 75 = .ok (.aload_n 1, 1) := by decide +kernel
theorem dX5_weigh_76 : decode cX5_weigh 76 = .ok (.getfield 56, 3) := by decide +kernel
theorem dX5_weigh_79 : decode cX5_weigh 79 = .ok (.getfield 62, 3) := by decide +kernel
theorem dX5_weigh_82 : decode cX5_weigh 82 = .ok (.iload_n 3, 1) := by decide +kernel
theorem dX5_weigh_83 : decode cX5_weigh 83 = .ok (.invokevirtual 67, 3) := by decide +kernel
theorem dX5_weigh_86 : decode cX5_weigh 86 = .ok (.istore 7, 2) := by decide +kernel
theorem dX5_weigh_88 : decode cX5_weigh 88 = .ok (.iconst 0, 1) := by decide +kernel
theorem dX5_weigh_89 : decode cX5_weigh 89 = .ok (.istore 8, 2) := by decide +kernel
theorem dX5_weigh_91 : decode cX5_weigh 91 = .ok (.iload 8, 2) := by decide +kernel
theorem dX5_weigh_93 : decode cX5_weigh 93 = .ok (.iload 4, 2) := by decide +kernel
theorem dX5_weigh_95 : decode cX5_weigh 95 = .ok (.if_icmp .ge 69, 3) := by decide +kernel
theorem dX5_weigh_98 : decode cX5_weigh 98 = .ok (.aload 5, 2) := by decide +kernel
theorem dX5_weigh_100 : decode cX5_weigh 100 = .ok (.ifnull 26, 3) := by decide +kernel
theorem dX5_weigh_103 : decode cX5_weigh 103 = .ok (.aload_n 0, 1) := by decide +kernel
theorem dX5_weigh_104 : decode cX5_weigh 104 = .ok (.getfield 25, 3) := by decide +kernel
theorem dX5_weigh_107 : decode cX5_weigh 107 = .ok (.iload 8, 2) := by decide +kernel
theorem dX5_weigh_109 : decode cX5_weigh 109 = .ok (.iaload, 1) := by decide +kernel
theorem dX5_weigh_110 : decode cX5_weigh 110 = .ok (.iconst (-1), 1) := by decide +kernel
theorem dX5_weigh_111 : decode cX5_weigh 111 = .ok (.if_icmp .eq 15, 3) := by decide +kernel
theorem dX5_weigh_114 : decode cX5_weigh 114 = .ok (.iload 7, 2) := by decide +kernel
theorem dX5_weigh_116 : decode cX5_weigh 116 = .ok (.iload 8, 2) := by decide +kernel
theorem dX5_weigh_118 : decode cX5_weigh 118 = .ok (.iand, 1) := by decide +kernel
theorem dX5_weigh_119 : decode cX5_weigh 119 = .ok (.ifCond .ne 7, 3) := by decide +kernel
theorem dX5_weigh_122 : decode cX5_weigh 122 = .ok (.iconst 1, 1) := by decide +kernel
theorem dX5_weigh_123 : decode cX5_weigh 123 = .ok (.goto 4, 3) := by decide +kernel
theorem dX5_weigh_126 : decode cX5_weigh 126 = .ok (.iconst 0, 1) := by decide +kernel
theorem dX5_weigh_127 : decode cX5_weigh 127 = .ok (.istore 9, 2) := by decide +kernel
theorem dX5_weigh_129 : decode cX5_weigh 129 = .ok (.aload_n 0, 1) := by decide +kernel
theorem dX5_weigh_130 : decode cX5_weigh 130 = .ok (.getfield 25, 3) := by decide +kernel
theorem dX5_weigh_133 : decode cX5_weigh 133 = .ok (.iload 4, 2) := by decide +kernel
theorem dX5_weigh_135 : decode cX5_weigh 135 = .ok (.iload 8, 2) := by decide +kernel
theorem dX5_weigh_137 : decode cX5_weigh 137 = .ok (.ior, 1) := by decide +kernel
theorem dX5_weigh_138 : decode cX5_weigh 138 = .ok (.iload 9, 2) := by decide +kernel
theorem dX5_weigh_140 : decode cX5_weigh 140 = .ok (.ifCond .eq 16, 3) := by decide +kernel
theorem dX5_weigh_143 : decode cX5_weigh 143 = .ok (.aload_n 0, 1) := by decide +kernel
theorem dX5_weigh_144 : decode cX5_weigh 144 = .ok (.getfield 25, 3) := by decide +kernel
theorem dX5_weigh_147 : decode cX5_weigh 147 = .ok (.iload 8, 2) := by decide +kernel
theorem dX5_weigh_149 : decode cX5_weigh 149 = .ok (.iaload, 1) := by decide +kernel
theorem dX5_weigh_150 : decode cX5_weigh 150 = .ok (.iload 6, 2) := by decide +kernel
theorem dX5_weigh_152 : decode cX5_weigh 152 = .ok (.iadd, 1) := by decide +kernel
theorem dX5_weigh_153 : decode cX5_weigh 153 = .ok (.goto 4, 3) := by decide +kernel
theorem dX5_weigh_156 : decode cX5_weigh 156 = .ok (.iconst (-1), 1) := by decide +kernel
theorem dX5_weigh_157 : decode cX5_weigh 157 = .ok (.iastore, 1) := by decide +kernel
theorem dX5_weigh_158 : decode cX5_weigh 158 = .ok (.iinc 8 1, 3) := by decide +kernel
theorem dX5_weigh_161 : decode cX5_weigh 161 = .ok (.goto (-70), 3) := by decide +kernel
theorem dX5_weigh_164 : decode cX5_weigh 164 = .ok (.iinc 3 1, 3) := by decide +kernel
theorem dX5_weigh_167 : decode cX5_weigh 167 = .ok (.goto (-158), 3) := by decide +kernel
theorem dX5_weigh_170 : decode cX5_weigh 170 = .ok (.return_, 1) := by decide +kernel
theorem dX5_worthOf_0 : decode cX5_worthOf 0 = .ok (.bipush 12, 2) := by decide +kernel
theorem dX5_worthOf_2 : decode cX5_worthOf 2 = .ok (.aload_n 1, 1) := by decide +kernel
theorem dX5_worthOf_3 : decode cX5_worthOf 3 = .ok (.getfield 71, 3) := by decide +kernel
theorem dX5_worthOf_6 : decode cX5_worthOf 6 = .ok (.isub, 1) := by decide +kernel
theorem dX5_worthOf_7 : decode cX5_worthOf 7 = .ok (.istore_n 3, 1) := by decide +kernel
theorem dX5_worthOf_8 : decode cX5_worthOf 8 = .ok (.iload_n 2, 1) := by decide +kernel
theorem dX5_worthOf_9 : decode cX5_worthOf 9 = .ok (.istore 4, 2) := by decide +kernel
theorem dX5_worthOf_11 : decode cX5_worthOf 11 = .ok (.iload 4, 2) := by decide +kernel
theorem dX5_worthOf_13 : decode cX5_worthOf 13 = .ok (.iconst 4, 1) := by decide +kernel
theorem dX5_worthOf_14 : decode cX5_worthOf 14 = .ok (.if_icmp .ge 14, 3) := by decide +kernel
theorem dX5_worthOf_17 : decode cX5_worthOf 17 = .ok (.iload_n 3, 1) := by decide +kernel
theorem dX5_worthOf_18 : decode cX5_worthOf 18 = .ok (.bipush 13, 2) := by decide +kernel
theorem dX5_worthOf_20 : decode cX5_worthOf 20 = .ok (.imul, 1) := by decide +kernel
theorem dX5_worthOf_21 : decode cX5_worthOf 21 = .ok (.istore_n 3, 1) := by decide +kernel
theorem dX5_worthOf_22 : decode cX5_worthOf 22 = .ok (.iinc 4 1, 3) := by decide +kernel
theorem dX5_worthOf_25 : decode cX5_worthOf 25 = .ok (.goto (-14), 3) := by decide +kernel
theorem dX5_worthOf_28 : decode cX5_worthOf 28 = .ok (.aload_n 0, 1) := by decide +kernel
theorem dX5_worthOf_29 : decode cX5_worthOf 29 = .ok (.getfield 74, 3) := by decide +kernel
theorem dX5_worthOf_32 : decode cX5_worthOf 32 = .ok (.iconst 2, 1) := by decide +kernel
theorem dX5_worthOf_33 : decode cX5_worthOf 33 = .ok (.if_icmp .ne 8, 3) := by decide +kernel
theorem dX5_worthOf_36 : decode cX5_worthOf 36 = .ok (.ldc 77, 2) := by decide +kernel
theorem dX5_worthOf_38 : decode cX5_worthOf 38 = .ok (.goto 18, 3) := by decide +kernel
theorem dX5_worthOf_41 : decode cX5_worthOf 41 = .ok (.aload_n 0, 1) := by decide +kernel
theorem dX5_worthOf_42 : decode cX5_worthOf 42 = .ok (.getfield 74, 3) := by decide +kernel
theorem dX5_worthOf_45 : decode cX5_worthOf 45 = .ok (.iconst 1, 1) := by decide +kernel
theorem dX5_worthOf_46 : decode cX5_worthOf 46 = .ok (.if_icmp .ne 8, 3) := by decide +kernel
theorem dX5_worthOf_49 : decode cX5_worthOf 49 = .ok (.ldc 78, 2) := by decide +kernel
theorem dX5_worthOf_51 : decode cX5_worthOf 51 = .ok (.goto 5, 3) := by decide +kernel
theorem dX5_worthOf_54 : decode cX5_worthOf 54 = .ok (.ldc 79, 2) := by decide +kernel
theorem dX5_worthOf_56 : decode cX5_worthOf 56 = .ok (.istore 4, 2) := by decide +kernel
theorem dX5_worthOf_58 : decode cX5_worthOf 58 = .ok (.aload_n 1, 1) := by decide +kernel
theorem dX5_worthOf_59 : decode cX5_worthOf 59 = .ok (.getfield 56, 3) := by decide +kernel
theorem dX5_worthOf_62 : decode cX5_worthOf 62 = .ok (.aload_n 0, 1) := by decide +kernel
theorem dX5_worthOf_63 : decode cX5_worthOf 63 = .ok (.getfield 80, 3) := by decide +kernel
theorem dX5_worthOf_66 : decode cX5_worthOf 66 = .ok (.if_acmp .ne 10, 3) := by decide +kernel
theorem dX5_worthOf_69 : decode cX5_worthOf 69 = .ok (.iload 4, 2) := by decide +kernel
theorem dX5_worthOf_71 : decode cX5_worthOf 71 = .ok (.iload_n 3, 1) := by decide +kernel
theorem dX5_worthOf_72 : decode cX5_worthOf 72 = .ok (.iadd, 1) := by decide +kernel
theorem dX5_worthOf_73 : decode cX5_worthOf 73 = .ok (.goto 10, 3) := by decide +kernel
theorem dX5_worthOf_76 : decode cX5_worthOf 76 = .ok (.iload 4, 2) := by decide +kernel
theorem dX5_worthOf_78 : decode cX5_worthOf 78 = .ok (.ldc 81, 2) := by decide +kernel
theorem dX5_worthOf_80 : decode cX5_worthOf 80 = .ok (.isub, 1) := by decide +kernel
theorem dX5_worthOf_81 : decode cX5_worthOf 81 = .ok (.iload_n 3, 1) := by decide +kernel
theorem dX5_worthOf_82 : decode cX5_worthOf 82 = .ok (.iadd, 1) := by decide +kernel
theorem dX5_worthOf_83 : decode cX5_worthOf 83 = .ok (.ireturn, 1) := by decide +kernel
theorem dX5_nearTo_0 : decode cX5_nearTo 0 = .ok (.iconst 0, 1) := by decide +kernel
theorem dX5_nearTo_1 : decode cX5_nearTo 1 = .ok (.istore 4, 2) := by decide +kernel
theorem dX5_nearTo_3 : decode cX5_nearTo 3 = .ok (.iconst 0, 1) := by decide +kernel
theorem dX5_nearTo_4 : decode cX5_nearTo 4 = .ok (.istore 5, 2) := by decide +kernel
theorem dX5_nearTo_6 : decode cX5_nearTo 6 = .ok (.iload 5, 2) := by decide +kernel
theorem dX5_nearTo_8 : decode cX5_nearTo 8 = .ok (.iload_n 3, 1) := by decide +kernel
theorem dX5_nearTo_9 : decode cX5_nearTo 9 = .ok (.if_icmp .ge 56, 3) := by decide +kernel
theorem dX5_nearTo_12 : decode cX5_nearTo 12 = .ok (.aload_n 0, 1) := by decide +kernel
theorem dX5_nearTo_13 : decode cX5_nearTo 13 = .ok (.iload 5, 2) := by decide +kernel
theorem dX5_nearTo_15 : decode cX5_nearTo 15 = .ok (.invokevirtual 48, 3) := by decide +kernel
theorem dX5_nearTo_18 : decode cX5_nearTo 18 = .ok (.astore 6, 2) := by decide +kernel
theorem dX5_nearTo_20 : decode cX5_nearTo 20 = .ok (.aload 6, 2) := by decide +kernel
theorem dX5_nearTo_22 : decode cX5_nearTo 22 = .ok (.ifnull 37, 3) := by decide +kernel
theorem dX5_nearTo_25 : decode cX5_nearTo 25 = .ok (.aload_n 1, 1) := by decide +kernel
theorem dX5_nearTo_26 : decode cX5_nearTo 26 = .ok (.getfield 82, 3) := by decide +kernel
theorem dX5_nearTo_29 : decode cX5_nearTo 29 = .ok (.aload_n 1, 1) := by decide +kernel
theorem dX5_nearTo_30 : decode cX5_nearTo 30 = .ok (.getfield 85, 3) := by decide +kernel
theorem dX5_nearTo_33 : decode cX5_nearTo 33 = .ok (.aload 6, 2) := by decide +kernel
theorem dX5_nearTo_35 : decode cX5_nearTo 35 = .ok (.getfield 82, 3) := by decide +kernel
theorem dX5_nearTo_38 : decode cX5_nearTo 38 = .ok (.aload 6, 2) := by decide +kernel
theorem dX5_nearTo_40 : decode cX5_nearTo 40 = .ok (.getfield 85, 3) := by decide +kernel
theorem dX5_nearTo_43 : decode cX5_nearTo 43 = .ok (.iload_n 2, 1) := by decide +kernel
theorem dX5_nearTo_44 : decode cX5_nearTo 44 = .ok (.invokestatic 88, 3) := by decide +kernel
theorem dX5_nearTo_47 : decode cX5_nearTo 47 = .ok (.ifCond .eq 12, 3) := by decide +kernel
theorem dX5_nearTo_50 : decode cX5_nearTo 50 = .ok (.iload 4, 2) := by decide +kernel
theorem dX5_nearTo_52 : decode cX5_nearTo 52 = .ok (.iconst 1, 1) := by decide +kernel
theorem dX5_nearTo_53 : decode cX5_nearTo 53 = .ok (.iload 5, 2) := by decide +kernel
theorem dX5_nearTo_55 : decode cX5_nearTo 55 = .ok (.ishl, 1) := by decide +kernel
theorem dX5_nearTo_56 : decode cX5_nearTo 56 = .ok (.ior, 1) := by decide +kernel
theorem dX5_nearTo_57 : decode cX5_nearTo 57 = .ok (.istore 4, 2) := by decide +kernel
theorem dX5_nearTo_59 : decode cX5_nearTo 59 = .ok (.iinc 5 1, 3) := by decide +kernel
theorem dX5_nearTo_62 : decode cX5_nearTo 62 = .ok (.goto (-56), 3) := by decide +kernel
theorem dX5_nearTo_65 : decode cX5_nearTo 65 = .ok (.iload 4, 2) := by decide +kernel
theorem dX5_nearTo_67 : decode cX5_nearTo 67 = .ok (.ireturn, 1) := by decide +kernel
theorem dX6_init_0 : decode cX6_init 0 = .ok (.aload_n 0, 1) := by decide +kernel
theorem dX6_init_1 : decode cX6_init 1 = .ok (.invokespecial 3, 3) := by decide +kernel
theorem dX6_init_4 : decode cX6_init 4 = .ok (.aload_n 0, 1) := by decide +kernel
theorem dX6_init_5 : decode cX6_init 5 = .ok (.sipush 200, 3) := by decide +kernel
theorem dX6_init_8 : decode cX6_init 8 = .ok (.newarray .int, 2) := by decide +kernel
theorem dX6_init_10 : decode cX6_init 10 = .ok (.putfield 9, 3) := by decide +kernel
theorem dX6_init_13 : decode cX6_init 13 = .ok (.aload_n 0, 1) := by decide +kernel
theorem dX6_init_14 : decode cX6_init 14 = .ok (.iconst 0, 1) := by decide +kernel
theorem dX6_init_15 : decode cX6_init 15 = .ok (.putfield 15, 3) := by decide +kernel
theorem dX6_init_18 : decode cX6_init 18 = .ok (.return_, 1) := by decide +kernel
theorem dX6_hasRoom_0 : decode cX6_hasRoom 0 = .ok (.aload_n 0, 1) := by decide +kernel
theorem dX6_hasRoom_1 : decode cX6_hasRoom 1 = .ok (.getfield 15, 3) := by decide +kernel
theorem dX6_hasRoom_4 : decode cX6_hasRoom 4 = .ok (.bipush 20, 2) := by decide +kernel
theorem dX6_hasRoom_6 : decode cX6_hasRoom 6 = .ok (.iadd, 1) := by decide +kernel
theorem dX6_hasRoom_7 : decode cX6_hasRoom 7 = .ok (.sipush 200, 3) := by decide +kernel
theorem dX6_hasRoom_10 : decode cX6_hasRoom 10 = .ok (.if_icmp .gt 7, 3) := by decide +kernel
theorem dX6_hasRoom_13 : decode cX6_hasRoom 13 = .ok (.iconst 1, 1) := by decide +kernel
theorem dX6_hasRoom_14 : decode cX6_hasRoom 14 = .ok (.goto 4, 3) := by decide +kernel
theorem dX6_hasRoom_17 : decode cX6_hasRoom 17 = .ok (.iconst 0, 1) := by decide +kernel
theorem dX6_hasRoom_18 : decode cX6_hasRoom 18 = .ok (.ireturn, 1) := by decide +kernel
theorem dX6_put_0 : decode cX6_put 0 = .ok (.bipush 24, 2) := by decide +kernel
theorem dX6_put_2 : decode cX6_put 2 = .ok (.istore_n 2, 1) := by decide +kernel
theorem dX6_put_3 : decode cX6_put 3 = .ok (.iload_n 2, 1) := by decide +kernel
theorem dX6_put_4 : decode cX6_put 4 = .ok (.ifCond .lt 45, 3) := by decide +kernel
theorem dX6_put_7 : decode cX6_put 7 = .ok (.aload_n 0, 1) := by decide +kernel
theorem dX6_put_8 : decode cX6_put 8 = .ok (.getfield 15, 3) := by decide +kernel
theorem dX6_put_11 : decode cX6_put 11 = .ok (.sipush 200, 3) := by decide +kernel
theorem dX6_put_14 : decode cX6_put 14 = .ok (.if_icmp .ge 35, 3) := by decide +kernel
theorem dX6_put_17 : decode cX6_put 17 = .ok (.aload_n 0, 1) := by decide +kernel
theorem dX6_put_18 : decode cX6_put 18 = .ok (.getfield 9, 3) := by decide +kernel
theorem dX6_put_21 : decode cX6_put 21 = .ok (.aload_n 0, 1) := by decide +kernel
theorem dX6_put_22 : decode cX6_put 22 = .ok (.getfield 15, 3) := by decide +kernel
theorem dX6_put_25 : decode cX6_put 25 = .ok (.iload_n 1, 1) := by decide +kernel
theorem dX6_put_26 : decode cX6_put 26 = .ok (.iload_n 2, 1) := by decide +kernel
theorem dX6_put_27 : decode cX6_put 27 = .ok (.iushr, 1) := by decide +kernel
theorem dX6_put_28 : decode cX6_put 28 = .ok (.sipush 255, 3) := by decide +kernel
theorem dX6_put_31 : decode cX6_put 31 = .ok (.iand, 1) := by decide +kernel
theorem dX6_put_32 : decode cX6_put 32 = .ok (.iastore, 1) := by decide +kernel
theorem dX6_put_33 : decode cX6_put 33 = .ok (.aload_n 0, 1) := by decide +kernel
theorem dX6_put_34 : decode cX6_put 34 = .ok (.dup, 1) := by decide +kernel
theorem dX6_put_35 : decode cX6_put 35 = .ok (.getfield 15, 3) := by decide +kernel
theorem dX6_put_38 : decode cX6_put 38 = .ok (.iconst 1, 1) := by decide +kernel
theorem dX6_put_39 : decode cX6_put 39 = .ok (.iadd, 1) := by decide +kernel
theorem dX6_put_40 : decode cX6_put 40 = .ok (.putfield 15, 3) := by decide +kernel
theorem dX6_put_43 : decode cX6_put 43 = .ok (.iinc 2 (-8), 3) := by decide +kernel
theorem dX6_put_46 : decode cX6_put 46 = .ok (.goto (-43), 3) := by decide +kernel
theorem dX6_put_49 : decode cX6_put 49 = .ok (.return_, 1) := by decide +kernel
theorem dX6_byteAt_0 : decode cX6_byteAt 0 = .ok (.iload_n 1, 1) := by decide +kernel
theorem dX6_byteAt_1 : decode cX6_byteAt 1 = .ok (.ifCond .lt 27, 3) := by decide +kernel
theorem dX6_byteAt_4 : decode cX6_byteAt 4 = .ok (.iload_n 1, 1) := by decide +kernel
theorem dX6_byteAt_5 : decode cX6_byteAt 5 = .ok (.aload_n 0, 1) := by decide +kernel
theorem dX6_byteAt_6 : decode cX6_byteAt 6 = .ok (.getfield 15, 3) := by decide +kernel
theorem dX6_byteAt_9 : decode cX6_byteAt 9 = .ok (.if_icmp .ge 19, 3) := by decide +kernel
theorem dX6_byteAt_12 : decode cX6_byteAt 12 = .ok (.iload_n 1, 1) := by decide +kernel
theorem dX6_byteAt_13 : decode cX6_byteAt 13 = .ok (.sipush 200, 3) := by decide +kernel
theorem dX6_byteAt_16 : decode cX6_byteAt 16 = .ok (.if_icmp .ge 12, 3) := by decide +kernel
theorem dX6_byteAt_19 : decode cX6_byteAt 19 = .ok (.aload_n 0, 1) := by decide +kernel
theorem dX6_byteAt_20 : decode cX6_byteAt 20 = .ok (.getfield 9, 3) := by decide +kernel
theorem dX6_byteAt_23 : decode cX6_byteAt 23 = .ok (.iload_n 1, 1) := by decide +kernel
theorem dX6_byteAt_24 : decode cX6_byteAt 24 = .ok (.iaload, 1) := by decide +kernel
theorem dX6_byteAt_25 : decode cX6_byteAt 25 = .ok (.goto 4, 3) := by decide +kernel
theorem dX6_byteAt_28 : decode cX6_byteAt 28 = .ok (.iconst (-1), 1) := by decide +kernel
theorem dX6_byteAt_29 : decode cX6_byteAt 29 = .ok (.ireturn, 1) := by decide +kernel
theorem dX7_init_0 : decode cX7_init 0 = .ok (.aload_n 0, 1) := by decide +kernel
theorem dX7_init_1 : decode cX7_init 1 = .ok (.invokespecial 3, 3) := by decide +kernel
theorem dX7_init_4 : decode cX7_init 4 = .ok (.aload_n 0, 1) := by decide +kernel
theorem dX7_init_5 : decode cX7_init 5 = .ok (.iconst (-1), 1) := by decide +kernel
theorem dX7_init_6 : decode cX7_init 6 = .ok (.putfield 9, 3) := by decide +kernel
theorem dX7_init_9 : decode cX7_init 9 = .ok (.aload_n 0, 1) := by decide +kernel
theorem dX7_init_10 : decode cX7_init 10 = .ok (.iconst (-1), 1) := by decide +kernel
theorem dX7_init_11 : decode cX7_init 11 = .ok (.putfield 15, 3) := by decide +kernel
theorem dX7_init_14 : decode cX7_init 14 = .ok (.aload_n 0, 1) := by decide +kernel
theorem dX7_init_15 : decode cX7_init 15 = .ok (.aconst_null, 1) := by decide +kernel
theorem dX7_init_16 : decode cX7_init 16 = .ok (.putfield 18, 3) := by decide +kernel
theorem dX7_init_19 : decode cX7_init 19 = .ok (.aload_n 0, 1) := by decide +kernel
theorem dX7_init_20 : decode cX7_init 20 = .ok (.iload_n 1, 1) := by decide +kernel
theorem dX7_init_21 : decode cX7_init 21 = .ok (.putfield 22, 3) := by decide +kernel
theorem dX7_init_24 : decode cX7_init 24 = .ok (.aload_n 0, 1) := by decide +kernel
theorem dX7_init_25 : decode cX7_init 25 = .ok (.aload_n 2, 1) := by decide +kernel
theorem dX7_init_26 : decode cX7_init 26 = .ok (.putfield 25, 3) := by decide +kernel
theorem dX7_init_29 : decode cX7_init 29 = .ok (.return_, 1) := by decide +kernel
theorem dX7_isLate_0 : decode cX7_isLate 0 = .ok (.aload_n 0, 1) := by decide +kernel
theorem dX7_isLate_1 : decode cX7_isLate 1 = .ok (.getfield 18, 3) := by decide +kernel
theorem dX7_isLate_4 : decode cX7_isLate 4 = .ok (.ifnull 18, 3) := by decide +kernel
theorem dX7_isLate_7 : decode cX7_isLate 7 = .ok (.aload_n 0, 1) := by decide +kernel
theorem dX7_isLate_8 : decode cX7_isLate 8 = .ok (.getfield 18, 3) := by decide +kernel
theorem dX7_isLate_11 : decode cX7_isLate 11 = .ok (.getfield 29, 3) := by decide +kernel
theorem dX7_isLate_14 : decode cX7_isLate 14 = .ok (.iload_n 1, 1) := by decide +kernel
theorem dX7_isLate_15 : decode cX7_isLate 15 = .ok (.if_icmp .ge 7, 3) := by decide +kernel
theorem dX7_isLate_18 : decode cX7_isLate 18 = .ok (.iconst 1, 1) := by decide +kernel
theorem dX7_isLate_19 : decode cX7_isLate 19 = .ok (.goto 4, 3) := by decide +kernel
theorem dX7_isLate_22 : decode cX7_isLate 22 = .ok (.iconst 0, 1) := by decide +kernel
theorem dX7_isLate_23 : decode cX7_isLate 23 = .ok (.ireturn, 1) := by decide +kernel
theorem dX7_isCaredFor_0 : decode cX7_isCaredFor 0 = .ok (.aload_n 0, 1) := by decide +kernel
theorem dX7_isCaredFor_1 : decode cX7_isCaredFor 1 = .ok (.getfield 15, 3) := by decide +kernel
theorem dX7_isCaredFor_4 : decode cX7_isCaredFor 4 = .ok (.iconst (-1), 1) := by decide +kernel
theorem dX7_isCaredFor_5 : decode cX7_isCaredFor 5 = .ok (.if_icmp .eq 19, 3) := by decide +kernel
theorem dX7_isCaredFor_8 : decode cX7_isCaredFor 8 = .ok (.iload_n 1, 1) := by decide +kernel
theorem dX7_isCaredFor_9 : decode cX7_isCaredFor 9 = .ok (.aload_n 0, 1) := by decide +kernel
theorem dX7_isCaredFor_10 : decode cX7_isCaredFor 10 = .ok (.getfield 15, 3) := by decide +kernel
theorem dX7_isCaredFor_13 : decode cX7_isCaredFor 13 = .ok (.aload_n 0, 1) := by decide +kernel
theorem dX7_isCaredFor_14 : decode cX7_isCaredFor 14 = .ok (.getfield 25, 3) := by decide +kernel
theorem dX7_isCaredFor_17 : decode cX7_isCaredFor 17 = .ok (.getfield 34, 3) := by decide +kernel
theorem dX7_isCaredFor_20 : decode cX7_isCaredFor 20 = .ok (.iadd, 1) := by decide +kernel
theorem dX7_isCaredFor_21 : decode cX7_isCaredFor 21 = .ok (.if_icmp .le 7, 3) := by decide +kernel
theorem dX7_isCaredFor_24 : decode cX7_isCaredFor 24 = .ok (.iconst 1, 1) := by decide +kernel
theorem dX7_isCaredFor_25 : decode cX7_isCaredFor 25 = .ok (.goto 4, 3) := by decide +kernel
theorem dX7_isCaredFor_28 : decode cX7_isCaredFor 28 = .ok (.iconst 0, 1) := by decide +kernel
theorem dX7_isCaredFor_29 : decode cX7_isCaredFor 29 = .ok (.ireturn, 1) := by decide +kernel
theorem dX8_init_0 : decode cX8_init 0 = .ok (.aload_n 0, 1) := by decide +kernel
theorem dX8_init_1 : decode cX8_init 1 = .ok (.invokespecial 1, 3) := by decide +kernel
theorem dX8_init_4 : decode cX8_init 4 = .ok (.aload_n 0, 1) := by decide +kernel
theorem dX8_init_5 : decode cX8_init 5 = .ok (.new 7, 3) := by decide +kernel
theorem dX8_init_8 : decode cX8_init 8 = .ok (.dup, 1) := by decide +kernel
theorem dX8_init_9 : decode cX8_init 9 = .ok (.invokespecial 9, 3) := by decide +kernel
theorem dX8_init_12 : decode cX8_init 12 = .ok (.putfield 10, 3) := by decide +kernel
theorem dX8_init_15 : decode cX8_init 15 = .ok (.aload_n 0, 1) := by decide +kernel
theorem dX8_init_16 : decode cX8_init 16 = .ok (.new 7, 3) := by decide +kernel
theorem dX8_init_19 : decode cX8_init 19 = .ok (.dup, 1) := by decide +kernel
theorem dX8_init_20 : decode cX8_init 20 = .ok (.invokespecial 9, 3) := by decide +kernel
theorem dX8_init_23 : decode cX8_init 23 = .ok (.putfield 16, 3) := by decide +kernel
theorem dX8_init_26 : decode cX8_init 26 = .ok (.aload_n 0, 1) := by decide +kernel
theorem dX8_init_27 : decode cX8_init 27 = .ok (.new 7, 3) := by decide +kernel
theorem dX8_init_30 : decode cX8_init 30 = .ok (.dup, 1) := by decide +kernel
theorem dX8_init_31 : decode cX8_init 31 = .ok (.invokespecial 9, 3) := by decide +kernel
theorem dX8_init_34 : decode cX8_init 34 = .ok (.putfield 19, 3) := by decide +kernel
theorem dX8_init_37 : decode cX8_init 37 = .ok (.aload_n 0, 1) := by decide +kernel
theorem dX8_init_38 : decode cX8_init 38 = .ok (.new 7, 3) := by decide +kernel
theorem dX8_init_41 : decode cX8_init 41 = .ok (.dup, 1) := by decide +kernel
theorem dX8_init_42 : decode cX8_init 42 = .ok (.invokespecial 9, 3) := by decide +kernel
theorem dX8_init_45 : decode cX8_init 45 = .ok (.putfield 22, 3) := by decide +kernel
theorem dX8_init_48 : decode cX8_init 48 = .ok (.aload_n 0, 1) := by decide +kernel
theorem dX8_init_49 : decode cX8_init 49 = .ok (.new 7, 3) := by decide +kernel
theorem dX8_init_52 : decode cX8_init 52 = .ok (.dup, 1) := by decide +kernel
theorem dX8_init_53 : decode cX8_init 53 = .ok (.invokespecial 9, 3) := by decide +kernel
theorem dX8_init_56 : decode cX8_init 56 = .ok (.putfield 25, 3) := by decide +kernel
theorem dX8_init_59 : decode cX8_init 59 = .ok (.aload_n 0, 1) := by decide +kernel
theorem dX8_init_60 : decode cX8_init 60 = .ok (.new 28, 3) := by decide +kernel
theorem dX8_init_63 : decode cX8_init 63 = .ok (.dup, 1) := by decide +kernel
theorem dX8_init_64 : decode cX8_init 64 = .ok (.invokespecial 30, 3) := by decide +kernel
theorem dX8_init_67 : decode cX8_init 67 = .ok (.putfield 31, 3) := by decide +kernel
theorem dX8_init_70 : decode cX8_init 70 = .ok (.aload_n 0, 1) := by decide +kernel
theorem dX8_init_71 : decode cX8_init 71 = .ok (.new 35, 3) := by decide +kernel
theorem dX8_init_74 : decode cX8_init 74 = .ok (.dup, 1) := by decide +kernel
theorem dX8_init_75 : decode cX8_init 75 = .ok (.invokespecial 37, 3) := by decide +kernel
theorem dX8_init_78 : decode cX8_init 78 = .ok (.putfield 38, 3) := by decide +kernel
theorem dX8_init_81 : decode cX8_init 81 = .ok (.aload_n 0, 1) := by decide +kernel
theorem dX8_init_82 : decode cX8_init 82 = .ok (.new 42, 3) := by decide +kernel
theorem dX8_init_85 : decode cX8_init 85 = .ok (.dup, 1) := by decide +kernel
theorem dX8_init_86 : decode cX8_init 86 = .ok (.invokespecial 44, 3) := by decide +kernel
theorem dX8_init_89 : decode cX8_init 89 = .ok (.putfield 45, 3) := by decide +kernel
theorem dX8_init_92 : decode cX8_init 92 = .ok (.aload_n 0, 1) := by decide +kernel
theorem dX8_init_93 : decode cX8_init 93 = .ok (.new 49, 3) := by decide +kernel
theorem dX8_init_96 : decode cX8_init 96 = .ok (.dup, 1) := by decide +kernel
theorem dX8_init_97 : decode cX8_init 97 = .ok (.invokespecial 51, 3) := by decide +kernel
theorem dX8_init_100 : decode cX8_init 100 = .ok (.putfield 52, 3) := by decide +kernel
theorem dX8_init_103 : decode cX8_init 103 = .ok (.aload_n 0, 1) := by decide +kernel
theorem dX8_init_104 : decode cX8_init 104 = .ok (.iconst 0, 1) := by decide +kernel
theorem dX8_init_105 : decode cX8_init 105 = .ok (.putfield 56, 3) := by decide +kernel
theorem dX8_init_108 : decode cX8_init 108 = .ok (.return_, 1) := by decide +kernel
theorem dX8_kind_0 : decode cX8_kind 0 = .ok (.aload_n 0, 1) := by decide +kernel
theorem dX8_kind_1 : decode cX8_kind 1 = .ok (.getfield 10, 3) := by decide +kernel
theorem dX8_kind_4 : decode cX8_kind 4 = .ok (.invokevirtual 60, 3) := by decide +kernel
theorem dX8_kind_7 : decode cX8_kind 7 = .ok (.bipush 8, 2) := by decide +kernel
theorem dX8_kind_9 : decode cX8_kind 9 = .ok (.if_icmp .ge 33, 3) := by decide +kernel
theorem dX8_kind_12 : decode cX8_kind 12 = .ok (.iload_n 1, 1) := by decide +kernel
theorem dX8_kind_13 : decode cX8_kind 13 = .ok (.iconst 0, 1) := by decide +kernel
theorem dX8_kind_14 : decode cX8_kind 14 = .ok (.iconst 5, 1) := by decide +kernel
theorem dX8_kind_15 : decode cX8_kind 15 = .ok (.invokestatic 64, 3) := by decide +kernel
theorem dX8_kind_18 : decode cX8_kind 18 = .ok (.ifCond .eq 24, 3) := by decide +kernel
theorem dX8_kind_21 : decode cX8_kind 21 = .ok (.iload_n 2, 1) := by decide +kernel
theorem dX8_kind_22 : decode cX8_kind 22 = .ok (.iconst 0, 1) := by decide +kernel
theorem dX8_kind_23 : decode cX8_kind 23 = .ok (.sipush 255, 3) := by decide +kernel
theorem dX8_kind_26 : decode cX8_kind 26 = .ok (.invokestatic 64, 3) := by decide +kernel
theorem dX8_kind_29 : decode cX8_kind 29 = .ok (.ifCond .eq 13, 3) := by decide +kernel
theorem dX8_kind_32 : decode cX8_kind 32 = .ok (.iload_n 3, 1) := by decide +kernel
theorem dX8_kind_33 : decode cX8_kind 33 = .ok (.iconst 0, 1) := by decide +kernel
theorem dX8_kind_34 : decode cX8_kind 34 = .ok (.bipush 100, 2) := by decide +kernel
theorem dX8_kind_36 : decode cX8_kind 36 = .ok (.invokestatic 64, 3) := by decide +kernel
theorem dX8_kind_39 : decode cX8_kind 39 = .ok (.ifCond .ne 5, 3) := by decide +kernel
theorem dX8_kind_42 : decode cX8_kind 42 = .ok (.iconst (-1), 1) := by decide +kernel
theorem dX8_kind_43 : decode cX8_kind 43 = .ok (.ireturn, 1) := by decide +kernel
theorem dX8_kind_44 : decode cX8_kind 44 = .ok (.aload_n 0, 1) := by decide +kernel
theorem dX8_kind_45 : decode cX8_kind 45 = .ok (.getfield 10, 3) := by decide +kernel
theorem dX8_kind_48 : decode cX8_kind 48 = .ok (.new 68, 3) := by decide +kernel
theorem dX8_kind_51 : decode cX8_kind 51 = .ok (.dup, 1) := by decide +kernel
theorem dX8_kind_52 : decode cX8_kind 52 = .ok (.aload_n 0, 1) := by decide +kernel
theorem dX8_kind_53 : decode cX8_kind 53 = .ok (.getfield 10, 3) := by decide +kernel
theorem dX8_kind_56 : decode cX8_kind 56 = .ok (.invokevirtual 60, 3) := by decide +kernel
theorem dX8_kind_59 : decode cX8_kind 59 = .ok (.iload_n 1, 1) := by decide +kernel
theorem dX8_kind_60 : decode cX8_kind 60 = .ok (.iload_n 2, 1) := by decide +kernel
theorem dX8_kind_61 : decode cX8_kind 61 = .ok (.iload_n 3, 1) := by decide +kernel
theorem dX8_kind_62 : decode cX8_kind 62 = .ok (.invokespecial 70, 3) := by decide +kernel
theorem dX8_kind_65 : decode cX8_kind 65 = .ok (.invokevirtual 73, 3) := by decide +kernel
theorem dX8_kind_68 : decode cX8_kind 68 = .ok (.pop, 1) := by decide +kernel
theorem dX8_kind_69 : decode cX8_kind 69 = .ok (.aload_n 0, 1) := by decide +kernel
theorem dX8_kind_70 : decode cX8_kind 70 = .ok (.getfield 10, 3) := by decide +kernel
theorem dX8_kind_73 : decode cX8_kind 73 = .ok (.invokevirtual 60, 3) := by decide +kernel
theorem dX8_kind_76 : decode cX8_kind 76 = .ok (.iconst 1, 1) := by decide +kernel
theorem dX8_kind_77 : decode cX8_kind 77 = .ok (.isub, 1) := by decide +kernel
theorem dX8_kind_78 : decode cX8_kind 78 = .ok (.ireturn, 1) := by decide +kernel
theorem dX8_thing_0 : decode cX8_thing 0 = .ok (.aload_n 0, 1) := by decide +kernel
theorem dX8_thing_1 : decode cX8_thing 1 = .ok (.iload_n 1, 1) := by decide +kernel
theorem dX8_thing_2 : decode cX8_thing 2 = .ok (.invokevirtual 77, 3) := by decide +kernel
theorem dX8_thing_5 : decode cX8_thing 5 = .ok (.astore_n 2, 1) := by decide +kernel
theorem dX8_thing_6 : decode cX8_thing 6 = .ok (.aload_n 2, 1) := by decide +kernel
theorem dX8_thing_7 : decode cX8_thing 7 = .ok (.ifnull 15, 3) := by decide +kernel
theorem dX8_thing_10 : decode cX8_thing 10 = .ok (.aload_n 0, 1) := by decide +kernel
theorem dX8_thing_11 : decode cX8_thing 11 = .ok (.getfield 16, 3) := by decide +kernel
theorem dX8_thing_14 : decode cX8_thing 14 = .ok (.invokevirtual 60, 3) := by decide +kernel
theorem dX8_thing_17 : decode cX8_thing 17 = .ok (.bipush 12, 2) := by decide +kernel
theorem dX8_thing_19 : decode cX8_thing 19 = .ok (.if_icmp .lt 5, 3) := by decide +kernel
theorem dX8_thing_22 : decode cX8_thing 22 = .ok (.iconst (-1), 1) := by decide +kernel
theorem dX8_thing_23 : decode cX8_thing 23 = .ok (.ireturn, 1) := by decide +kernel
theorem dX8_thing_24 : decode cX8_thing 24 = .ok (.aload_n 0, 1) := by decide +kernel
theorem dX8_thing_25 : decode cX8_thing 25 = .ok (.getfield 16, 3) := by decide +kernel
theorem dX8_thing_28 : decode cX8_thing 28 = .ok (.new 81, 3) := by decide +kernel
theorem dX8_thing_31 : decode cX8_thing 31 = .ok (.dup, 1) := by decide +kernel
theorem dX8_thing_32 : decode cX8_thing 32 = .ok (.aload_n 0, 1) := by decide +kernel
theorem dX8_thing_33 : decode cX8_thing 33 = .ok (.getfield 16, 3) := by decide +kernel
theorem dX8_thing_36 : decode cX8_thing 36 = .ok (.invokevirtual 60, 3) := by decide +kernel
theorem dX8_thing_39 : decode cX8_thing 39 = .ok (.aload_n 2, 1) := by decide +kernel
theorem dX8_thing_40 : decode cX8_thing 40 = .ok (.invokespecial 83, 3) := by decide +kernel
theorem dX8_thing_43 : decode cX8_thing 43 = .ok (.invokevirtual 73, 3) := by decide +kernel
theorem dX8_thing_46 : decode cX8_thing 46 = .ok (.pop, 1) := by decide +kernel
theorem dX8_thing_47 : decode cX8_thing 47 = .ok (.aload_n 0, 1) := by decide +kernel
theorem dX8_thing_48 : decode cX8_thing 48 = .ok (.getfield 16, 3) := by decide +kernel
theorem dX8_thing_51 : decode cX8_thing 51 = .ok (.invokevirtual 60, 3) := by decide +kernel
theorem dX8_thing_54 : decode cX8_thing 54 = .ok (.iconst 1, 1) := by decide +kernel
theorem dX8_thing_55 : decode cX8_thing 55 = .ok (.isub, 1) := by decide +kernel
theorem dX8_thing_56 : decode cX8_thing 56 = .ok (.ireturn, 1) := by decide +kernel
theorem dX8_member_0 : decode cX8_member 0 = .ok (.aload_n 0, 1) := by decide +kernel
theorem dX8_member_1 : decode cX8_member 1 = .ok (.getfield 19, 3) := by decide +kernel
theorem dX8_member_4 : decode cX8_member 4 = .ok (.invokevirtual 60, 3) := by decide +kernel
theorem dX8_member_7 : decode cX8_member 7 = .ok (.bipush 10, 2) := by decide +kernel
theorem dX8_member_9 : decode cX8_member 9 = .ok (.if_icmp .lt 5, 3) := by decide +kernel
theorem dX8_member_12 : decode cX8_member 12 = .ok (.iconst (-1), 1) := by decide +kernel
theorem dX8_member_13 : decode cX8_member 13 = .ok (.ireturn, 1) := by decide +kernel
theorem dX8_member_14 : decode cX8_member 14 = .ok (.aload_n 0, 1) := by decide +kernel
theorem dX8_member_15 : decode cX8_member 15 = .ok (.getfield 19, 3) := by decide +kernel
theorem dX8_member_18 : decode cX8_member 18 = .ok (.new 86, 3) := by decide +kernel
theorem dX8_member_21 : decode cX8_member 21 = .ok (.dup, 1) := by decide +kernel
theorem dX8_member_22 : decode cX8_member 22 = .ok (.aload_n 0, 1) := by decide +kernel
theorem dX8_member_23 : decode cX8_member 23 = .ok (.getfield 19, 3) := by decide +kernel
theorem dX8_member_26 : decode cX8_member 26 = .ok (.invokevirtual 60, 3) := by decide +kernel
theorem dX8_member_29 : decode cX8_member 29 = .ok (.invokespecial 88, 3) := by decide +kernel
theorem dX8_member_32 : decode cX8_member 32 = .ok (.invokevirtual 73, 3) := by decide +kernel
theorem dX8_member_35 : decode cX8_member 35 = .ok (.pop, 1) := by decide +kernel
theorem dX8_member_36 : decode cX8_member 36 = .ok (.aload_n 0, 1) := by decide +kernel
theorem dX8_member_37 : decode cX8_member 37 = .ok (.getfield 19, 3) := by decide +kernel
theorem dX8_member_40 : decode cX8_member 40 = .ok (.invokevirtual 60, 3) := by decide +kernel
theorem dX8_member_43 : decode cX8_member 43 = .ok (.iconst 1, 1) := by decide +kernel
theorem dX8_member_44 : decode cX8_member 44 = .ok (.isub, 1) := by decide +kernel
theorem dX8_member_45 : decode cX8_member 45 = .ok (.ireturn, 1) := by decide +kernel
theorem dX8_feed_0 : decode cX8_feed 0 = .ok (.aload_n 0, 1) := by decide +kernel
theorem dX8_feed_1 : decode cX8_feed 1 = .ok (.getfield 31, 3) := by decide +kernel
theorem dX8_feed_4 : decode cX8_feed 4 = .ok (.invokevirtual 91, 3) := by decide +kernel
theorem dX8_feed_7 : decode cX8_feed 7 = .ok (.ifCond .ne 5, 3) := by decide +kernel
theorem dX8_feed_10 : decode cX8_feed 10 = .ok (.iconst (-1), 1) := by decide +kernel
theorem dX8_feed_11 : decode cX8_feed 11 = .ok (.ireturn, 1) := by decide +kernel
theorem dX8_feed_12 : decode cX8_feed 12 = .ok (.aload_n 0, 1) := by decide +kernel
theorem dX8_feed_13 : decode cX8_feed 13 = .ok (.getfield 31, 3) := by decide +kernel
theorem dX8_feed_16 : decode cX8_feed 16 = .ok (.iload_n 1, 1) := by decide +kernel
theorem dX8_feed_17 : decode cX8_feed 17 = .ok (.invokevirtual 95, 3) := by decide +kernel
theorem dX8_feed_20 : decode cX8_feed 20 = .ok (.aload_n 0, 1) := by decide +kernel
theorem dX8_feed_21 : decode cX8_feed 21 = .ok (.getfield 31, 3) := by decide +kernel
theorem dX8_feed_24 : decode cX8_feed 24 = .ok (.iload_n 2, 1) := by decide +kernel
theorem dX8_feed_25 : decode cX8_feed 25 = .ok (.invokevirtual 95, 3) := by decide +kernel
theorem dX8_feed_28 : decode cX8_feed 28 = .ok (.aload_n 0, 1) := by decide +kernel
theorem dX8_feed_29 : decode cX8_feed 29 = .ok (.getfield 31, 3) := by decide +kernel
theorem dX8_feed_32 : decode cX8_feed 32 = .ok (.iload_n 3, 1) := by decide +kernel
theorem dX8_feed_33 : decode cX8_feed 33 = .ok (.invokevirtual 95, 3) := by decide +kernel
theorem dX8_feed_36 : decode cX8_feed 36 = .ok (.aload_n 0, 1) := by decide +kernel
theorem dX8_feed_37 : decode cX8_feed 37 = .ok (.getfield 31, 3) := by decide +kernel
theorem dX8_feed_40 : decode cX8_feed 40 = .ok (.iload 4, 2) := by decide +kernel
theorem dX8_feed_42 : decode cX8_feed 42 = .ok (.invokevirtual 95, 3) := by decide +kernel
theorem dX8_feed_45 : decode cX8_feed 45 = .ok (.aload_n 0, 1) := by decide +kernel
theorem dX8_feed_46 : decode cX8_feed 46 = .ok (.getfield 31, 3) := by decide +kernel
theorem dX8_feed_49 : decode cX8_feed 49 = .ok (.iload 5, 2) := by decide +kernel
theorem dX8_feed_51 : decode cX8_feed 51 = .ok (.invokevirtual 95, 3) := by decide +kernel
theorem dX8_feed_54 : decode cX8_feed 54 = .ok (.aload_n 0, 1) := by decide +kernel
theorem dX8_feed_55 : decode cX8_feed 55 = .ok (.getfield 31, 3) := by decide +kernel
theorem dX8_feed_58 : decode cX8_feed 58 = .ok (.getfield 98, 3) := by decide +kernel
theorem dX8_feed_61 : decode cX8_feed 61 = .ok (.ireturn, 1) := by decide +kernel
theorem dX8_end_0 : decode cX8_end 0 = .ok (.iload_n 1, 1) := by decide +kernel
theorem dX8_end_1 : decode cX8_end 1 = .ok (.iconst 0, 1) := by decide +kernel
theorem dX8_end_2 : decode cX8_end 2 = .ok (.aload_n 0, 1) := by decide +kernel
theorem dX8_end_3 : decode cX8_end 3 = .ok (.getfield 31, 3) := by decide +kernel
theorem dX8_end_6 : decode cX8_end 6 = .ok (.getfield 98, 3) := by decide +kernel
theorem dX8_end_9 : decode cX8_end 9 = .ok (.invokestatic 64, 3) := by decide +kernel
theorem dX8_end_12 : decode cX8_end 12 = .ok (.ifCond .ne 5, 3) := by decide +kernel
theorem dX8_end_15 : decode cX8_end 15 = .ok (.iconst (-1), 1) := by decide +kernel
theorem dX8_end_16 : decode cX8_end 16 = .ok (.ireturn, 1) := by decide +kernel
theorem dX8_end_17 : decode cX8_end 17 = .ok (.aload_n 0, 1) := by decide +kernel
theorem dX8_end_18 : decode cX8_end 18 = .ok (.getfield 31, 3) := by decide +kernel
theorem dX8_end_21 : decode cX8_end 21 = .ok (.iload_n 1, 1) := by decide +kernel
theorem dX8_end_22 : decode cX8_end 22 = .ok (.putfield 98, 3) := by decide +kernel
theorem dX8_end_25 : decode cX8_end 25 = .ok (.iload_n 1, 1) := by decide +kernel
theorem dX8_end_26 : decode cX8_end 26 = .ok (.ireturn, 1) := by decide +kernel
theorem dX8_law_0 : decode cX8_law 0 = .ok (.aload_n 0, 1) := by decide +kernel
theorem dX8_law_1 : decode cX8_law 1 = .ok (.getfield 45, 3) := by decide +kernel
theorem dX8_law_4 : decode cX8_law 4 = .ok (.getfield 101, 3) := by decide +kernel
theorem dX8_law_7 : decode cX8_law 7 = .ok (.bipush 20, 2) := by decide +kernel
theorem dX8_law_9 : decode cX8_law 9 = .ok (.if_icmp .lt 5, 3) := by decide +kernel
theorem dX8_law_12 : decode cX8_law 12 = .ok (.iconst (-1), 1) := by decide +kernel
theorem dX8_law_13 : decode cX8_law 13 = .ok (.ireturn, 1) := by decide +kernel
theorem dX8_law_14 : decode cX8_law 14 = .ok (.aload_n 0, 1) := by decide +kernel
theorem dX8_law_15 : decode cX8_law 15 = .ok (.getfield 38, 3) := by decide +kernel
theorem dX8_law_18 : decode cX8_law 18 = .ok (.aload_n 0, 1) := by decide +kernel
theorem dX8_law_19 : decode cX8_law 19 = .ok (.getfield 31, 3) := by decide +kernel
theorem dX8_law_22 : decode cX8_law 22 = .ok (.aload_n 0, 1) := by decide +kernel
theorem dX8_law_23 : decode cX8_law 23 = .ok (.getfield 10, 3) := by decide +kernel
theorem dX8_law_26 : decode cX8_law 26 = .ok (.invokevirtual 60, 3) := by decide +kernel
theorem dX8_law_29 : decode cX8_law 29 = .ok (.invokevirtual 104, 3) := by decide +kernel
theorem dX8_law_32 : decode cX8_law 32 = .ok (.aload_n 0, 1) := by decide +kernel
theorem dX8_law_33 : decode cX8_law 33 = .ok (.getfield 31, 3) := by decide +kernel
theorem dX8_law_36 : decode cX8_law 36 = .ok (.iconst 0, 1) := by decide +kernel
theorem dX8_law_37 : decode cX8_law 37 = .ok (.putfield 98, 3) := by decide +kernel
theorem dX8_law_40 : decode cX8_law 40 = .ok (.aload_n 0, 1) := by decide +kernel
theorem dX8_law_41 : decode cX8_law 41 = .ok (.getfield 45, 3) := by decide +kernel
theorem dX8_law_44 : decode cX8_law 44 = .ok (.aload_n 0, 1) := by decide +kernel
theorem dX8_law_45 : decode cX8_law 45 = .ok (.getfield 38, 3) := by decide +kernel
theorem dX8_law_48 : decode cX8_law 48 = .ok (.getfield 108, 3) := by decide +kernel
theorem dX8_law_51 : decode cX8_law 51 = .ok (.putfield 111, 3) := by decide +kernel
theorem dX8_law_54 : decode cX8_law 54 = .ok (.aload_n 0, 1) := by decide +kernel
theorem dX8_law_55 : decode cX8_law 55 = .ok (.getfield 38, 3) := by decide +kernel
theorem dX8_law_58 : decode cX8_law 58 = .ok (.getfield 112, 3) := by decide +kernel
theorem dX8_law_61 : decode cX8_law 61 = .ok (.ifCond .eq 13, 3) := by decide +kernel
theorem dX8_law_64 : decode cX8_law 64 = .ok (.iconst (-1), 1) := by decide +kernel
theorem dX8_law_65 : decode cX8_law 65 = .ok (.aload_n 0, 1) := by decide +kernel
theorem dX8_law_66 : decode cX8_law 66 = .ok (.getfield 38, 3) := by decide +kernel
theorem dX8_law_69 : decode cX8_law 69 = .ok (.getfield 112, 3) := by decide +kernel
theorem dX8_law_72 : decode cX8_law 72 = .ok (.isub, 1) := by decide +kernel
theorem dX8_law_73 : decode cX8_law 73 = .ok (.ireturn, 1) := by decide +kernel
theorem dX8_law_74 : decode cX8_law 74 = .ok (.aload_n 0, 1) := by decide +kernel
theorem dX8_law_75 : decode cX8_law 75 = .ok (.getfield 45, 3) := by decide +kernel
theorem dX8_law_78 : decode cX8_law 78 = .ok (.aload_n 0, 1) := by decide +kernel
theorem dX8_law_79 : decode cX8_law 79 = .ok (.getfield 38, 3) := by decide +kernel
theorem dX8_law_82 : decode cX8_law 82 = .ok (.getfield 115, 3) := by decide +kernel
theorem dX8_law_85 : decode cX8_law 85 = .ok (.invokevirtual 119, 3) := by decide +kernel
theorem dX8_law_88 : decode cX8_law 88 = .ok (.aload_n 0, 1) := by decide +kernel
theorem dX8_law_89 : decode cX8_law 89 = .ok (.getfield 45, 3) := by decide +kernel
theorem dX8_law_92 : decode cX8_law 92 = .ok (.getfield 101, 3) := by decide +kernel
theorem dX8_law_95 : decode cX8_law 95 = .ok (.iconst 1, 1) := by decide +kernel
theorem dX8_law_96 : decode cX8_law 96 = .ok (.isub, 1) := by decide +kernel
theorem dX8_law_97 : decode cX8_law 97 = .ok (.ireturn, 1) := by decide +kernel
theorem dX8_place_0 : decode cX8_place 0 = .ok (.aload_n 0, 1) := by decide +kernel
theorem dX8_place_1 : decode cX8_place 1 = .ok (.getfield 45, 3) := by decide +kernel
theorem dX8_place_4 : decode cX8_place 4 = .ok (.getfield 111, 3) := by decide +kernel
theorem dX8_place_7 : decode cX8_place 7 = .ok (.ireturn, 1) := by decide +kernel
theorem dX8_look_0 : decode cX8_look 0 = .ok (.aload_n 0, 1) := by decide +kernel
theorem dX8_look_1 : decode cX8_look 1 = .ok (.iload_n 1, 1) := by decide +kernel
theorem dX8_look_2 : decode cX8_look 2 = .ok (.invokevirtual 123, 3) := by decide +kernel
theorem dX8_look_5 : decode cX8_look 5 = .ok (.astore_n 2, 1) := by decide +kernel
theorem dX8_look_6 : decode cX8_look 6 = .ok (.aload_n 2, 1) := by decide +kernel
theorem dX8_look_7 : decode cX8_look 7 = .ok (.ifnull 10, 3) := by decide +kernel
theorem dX8_look_10 : decode cX8_look 10 = .ok (.aload_n 2, 1) := by decide +kernel
theorem dX8_look_11 : decode cX8_look 11 = .ok (.getfield 127, 3) := by decide +kernel
theorem dX8_look_14 : decode cX8_look 14 = .ok (.ifnull 5, 3) := by decide +kernel
theorem dX8_look_17 : decode cX8_look 17 = .ok (.iconst 0, 1) := by decide +kernel
theorem dX8_look_18 : decode cX8_look 18 = .ok (.ireturn, 1) := by decide +kernel
theorem dX8_look_19 : decode cX8_look 19 = .ok (.aload_n 2, 1) := by decide +kernel
theorem dX8_look_20 : decode cX8_look 20 = .ok (.aload_n 0, 1) := by decide +kernel
theorem dX8_look_21 : decode cX8_look 21 = .ok (.getfield 56, 3) := by decide +kernel
theorem dX8_look_24 : decode cX8_look 24 = .ok (.putfield 131, 3) := by decide +kernel
theorem dX8_look_27 : decode cX8_look 27 = .ok (.iconst 1, 1) := by decide +kernel
theorem dX8_look_28 : decode cX8_look 28 = .ok (.ireturn, 1) := by decide +kernel
theorem dX8_lawful_0 : decode cX8_lawful 0 = .ok (.aload_n 0, 1) := by decide +kernel
theorem dX8_lawful_1 : decode cX8_lawful 1 = .ok (.iload_n 1, 1) := by decide +kernel
theorem dX8_lawful_2 : decode cX8_lawful 2 = .ok (.invokevirtual 123, 3) := by decide +kernel
theorem dX8_lawful_5 : decode cX8_lawful 5 = .ok (.astore_n 3, 1) := by decide +kernel
theorem dX8_lawful_6 : decode cX8_lawful 6 = .ok (.aload_n 3, 1) := by decide +kernel
theorem dX8_lawful_7 : decode cX8_lawful 7 = .ok (.ifnull 11, 3) := by decide +kernel
theorem dX8_lawful_10 : decode cX8_lawful 10 = .ok (.iload_n 2, 1) := by decide +kernel
theorem dX8_lawful_11 : decode cX8_lawful 11 = .ok (.aload_n 0, 1) := by decide +kernel
theorem dX8_lawful_12 : decode cX8_lawful 12 = .ok (.getfield 56, 3) := by decide +kernel
theorem dX8_lawful_15 : decode cX8_lawful 15 = .ok (.if_icmp .ge 5, 3) := by decide +kernel
theorem dX8_lawful_18 : decode cX8_lawful 18 = .ok (.iconst (-1), 1) := by decide +kernel
theorem dX8_lawful_19 : decode cX8_lawful 19 = .ok (.ireturn, 1) := by decide +kernel
theorem dX8_lawful_20 : decode cX8_lawful 20 = .ok (.aload_n 0, 1) := by decide +kernel
theorem dX8_lawful_21 : decode cX8_lawful 21 = .ok (.getfield 45, 3) := by decide +kernel
theorem dX8_lawful_24 : decode cX8_lawful 24 = .ok (.aload_n 3, 1) := by decide +kernel
theorem dX8_lawful_25 : decode cX8_lawful 25 = .ok (.iload_n 2, 1) := by decide +kernel
theorem dX8_lawful_26 : decode cX8_lawful 26 = .ok (.invokevirtual 134, 3) := by decide +kernel
theorem dX8_lawful_29 : decode cX8_lawful 29 = .ok (.ifCond .eq 7, 3) := by decide +kernel
theorem dX8_lawful_32 : decode cX8_lawful 32 = .ok (.iconst 1, 1) := by decide +kernel
theorem dX8_lawful_33 : decode cX8_lawful 33 = .ok (.goto 4, 3) := by decide +kernel
theorem dX8_lawful_36 : decode cX8_lawful 36 = .ok (.iconst 0, 1) := by decide +kernel
theorem dX8_lawful_37 : decode cX8_lawful 37 = .ok (.ireturn, 1) := by decide +kernel
theorem dX8_ask_0 : decode cX8_ask 0 = .ok (.aload_n 0, 1) := by decide +kernel
theorem dX8_ask_1 : decode cX8_ask 1 = .ok (.iload_n 1, 1) := by decide +kernel
theorem dX8_ask_2 : decode cX8_ask 2 = .ok (.invokevirtual 138, 3) := by decide +kernel
theorem dX8_ask_5 : decode cX8_ask 5 = .ok (.astore 7, 2) := by decide +kernel
theorem dX8_ask_7 : decode cX8_ask 7 = .ok (.aload_n 0, 1) := by decide +kernel
theorem dX8_ask_8 : decode cX8_ask 8 = .ok (.iload_n 2, 1) := by decide +kernel
theorem dX8_ask_9 : decode cX8_ask 9 = .ok (.invokevirtual 77, 3) := by decide +kernel
theorem dX8_ask_12 : decode cX8_ask 12 = .ok (.astore 8, 2) := by decide +kernel
theorem dX8_ask_14 : decode cX8_ask 14 = .ok (.aload 7, 2) := by decide +kernel
theorem dX8_ask_16 : decode cX8_ask 16 = .ok (.ifnull 40, 3) := by decide +kernel
theorem dX8_ask_19 : decode cX8_ask 19 = .ok (.aload 8, 2) := by decide +kernel
theorem dX8_ask_21 : decode cX8_ask 21 = .ok (.ifnull 35, 3) := by decide +kernel
theorem dX8_ask_24 : decode cX8_ask 24 = .ok (.iload_n 3, 1) := by decide +kernel
theorem dX8_ask_25 : decode cX8_ask 25 = .ok (.iconst 0, 1) := by decide +kernel
theorem dX8_ask_26 : decode cX8_ask 26 = .ok (.sipush 255, 3) := by decide +kernel
theorem dX8_ask_29 : decode cX8_ask 29 = .ok (.invokestatic 64, 3) := by decide +kernel
theorem dX8_ask_32 : decode cX8_ask 32 = .ok (.ifCond .eq 24, 3) := by decide +kernel
theorem dX8_ask_35 : decode cX8_ask 35 = .ok (.iload 6, 2) := by decide +kernel
theorem dX8_ask_37 : decode cX8_ask 37 = .ok (.iconst 0, 1) := by decide +kernel
theorem dX8_ask_38 : decode cX8_ask 38 = .ok (.iconst 2, 1) := by decide +kernel
theorem dX8_ask_39 : decode cX8_ask 39 = .ok (.invokestatic 64, 3) := by decide +kernel
theorem dX8_ask_42 : decode cX8_ask 42 = .ok (.ifCond .eq 14, 3) := by decide +kernel
theorem dX8_ask_45 : decode cX8_ask 45 = .ok (.aload_n 0, 1) := by decide +kernel
theorem dX8_ask_46 : decode cX8_ask 46 = .ok (.iload 4, 2) := by decide +kernel
theorem dX8_ask_48 : decode cX8_ask 48 = .ok (.iload 5, 2) := by decide +kernel
theorem dX8_ask_50 : decode cX8_ask 50 = .ok (.invokevirtual 142, 3) := by decide +kernel
theorem dX8_ask_53 : decode cX8_ask 53 = .ok (.ifCond .ne 5, 3) := by decide +kernel
theorem dX8_ask_56 : decode cX8_ask 56 = .ok (.iconst (-1), 1) := by decide +kernel
theorem dX8_ask_57 : decode cX8_ask 57 = .ok (.ireturn, 1) := by decide +kernel
theorem dX8_ask_58 : decode cX8_ask 58 = .ok (.aload_n 0, 1) := by decide +kernel
theorem dX8_ask_59 : decode cX8_ask 59 = .ok (.getfield 22, 3) := by decide +kernel
theorem dX8_ask_62 : decode cX8_ask 62 = .ok (.invokevirtual 60, 3) := by decide +kernel
theorem dX8_ask_65 : decode cX8_ask 65 = .ok (.bipush 120, 2) := by decide +kernel
theorem dX8_ask_67 : decode cX8_ask 67 = .ok (.if_icmp .ge 12, 3) := by decide +kernel
theorem dX8_ask_70 : decode cX8_ask 70 = .ok (.aload_n 0, 1) := by decide +kernel
theorem dX8_ask_71 : decode cX8_ask 71 = .ok (.iconst 0, 1) := by decide +kernel
theorem dX8_ask_72 : decode cX8_ask 72 = .ok (.invokevirtual 146, 3) := by decide +kernel
theorem dX8_ask_75 : decode cX8_ask 75 = .ok (.iconst 5, 1) := by decide +kernel
theorem dX8_ask_76 : decode cX8_ask 76 = .ok (.if_icmp .lt 5, 3) := by decide +kernel
theorem dX8_ask_79 : decode cX8_ask 79 = .ok (.iconst (-1), 1) := by decide +kernel
theorem dX8_ask_80 : decode cX8_ask 80 = .ok (.ireturn, 1) := by decide +kernel
theorem dX8_ask_81 : decode cX8_ask 81 = .ok (.aload_n 0, 1) := by decide +kernel
theorem dX8_ask_82 : decode cX8_ask 82 = .ok (.getfield 22, 3) := by decide +kernel
theorem dX8_ask_85 : decode cX8_ask 85 = .ok (.new 150, 3) := by decide +kernel
theorem dX8_ask_88 : decode cX8_ask 88 = .ok (.dup, 1) := by decide +kernel
theorem dX8_ask_89 : decode cX8_ask 89 = .ok (.aload_n 0, 1) := by decide +kernel
theorem dX8_ask_90 : decode cX8_ask 90 = .ok (.getfield 22, 3) := by decide +kernel
theorem dX8_ask_93 : decode cX8_ask 93 = .ok (.invokevirtual 60, 3) := by decide +kernel
theorem dX8_ask_96 : decode cX8_ask 96 = .ok (.aload 7, 2) := by decide +kernel
theorem dX8_ask_98 : decode cX8_ask 98 = .ok (.aload 8, 2) := by decide +kernel
theorem dX8_ask_100 : decode cX8_ask 100 = .ok (.iload_n 3, 1) := by decide +kernel
theorem dX8_ask_101 : decode cX8_ask 101 = .ok (.iload 4, 2) := by decide +kernel
theorem dX8_ask_103 : decode cX8_ask 103 = .ok (.iload 5, 2) := by decide +kernel
theorem dX8_ask_105 : decode cX8_ask 105 = .ok (.iload 6, 2) := by decide +kernel
theorem dX8_ask_107 : decode cX8_ask 107 = .ok (.invokespecial 152, 3) := by decide +kernel
theorem dX8_ask_110 : decode cX8_ask 110 = .ok (.invokevirtual 73, 3) := by decide +kernel
theorem dX8_ask_113 : decode cX8_ask 113 = .ok (.pop, 1) := by decide +kernel
theorem dX8_ask_114 : decode cX8_ask 114 = .ok (.aload_n 0, 1) := by decide +kernel
theorem dX8_ask_115 : decode cX8_ask 115 = .ok (.getfield 22, 3) := by decide +kernel
theorem dX8_ask_118 : decode cX8_ask 118 = .ok (.invokevirtual 60, 3) := by decide +kernel
theorem dX8_ask_121 : decode cX8_ask 121 = .ok (.iconst 1, 1) := by decide +kernel
theorem dX8_ask_122 : decode cX8_ask 122 = .ok (.isub, 1) := by decide +kernel
theorem dX8_ask_123 : decode cX8_ask 123 = .ok (.ireturn, 1) := by decide +kernel
theorem dX8_plan_0 : decode cX8_plan 0 = .ok (.aload_n 0, 1) := by decide +kernel
theorem dX8_plan_1 : decode cX8_plan 1 = .ok (.getfield 52, 3) := by decide +kernel
theorem dX8_plan_4 : decode cX8_plan 4 = .ok (.invokevirtual 155, 3) := by decide +kernel
theorem dX8_plan_7 : decode cX8_plan 7 = .ok (.iconst 0, 1) := by decide +kernel
theorem dX8_plan_8 : decode cX8_plan 8 = .ok (.istore_n 1, 1) := by decide +kernel
theorem dX8_plan_9 : decode cX8_plan 9 = .ok (.iload_n 1, 1) := by decide +kernel
theorem dX8_plan_10 : decode cX8_plan 10 = .ok (.aload_n 0, 1) := by decide +kernel
theorem dX8_plan_11 : decode cX8_plan 11 = .ok (.getfield 22, 3) := by decide +kernel
theorem dX8_plan_14 : decode cX8_plan 14 = .ok (.invokevirtual 60, 3) := by decide +kernel
theorem dX8_plan_17 : decode cX8_plan 17 = .ok (.if_icmp .ge 36, 3) := by decide +kernel
theorem dX8_plan_20 : decode cX8_plan 20 = .ok (.aload_n 0, 1) := by decide +kernel
theorem dX8_plan_21 : decode cX8_plan 21 = .ok (.getfield 22, 3) := by decide +kernel
theorem dX8_plan_24 : decode cX8_plan 24 = .ok (.iload_n 1, 1) := by decide +kernel
theorem dX8_plan_25 : decode cX8_plan 25 = .ok (.invokevirtual 158, 3) := by decide +kernel
theorem dX8_plan_28 : decode cX8_plan 28 = .ok (.checkcast 150, 3) := by decide +kernel
theorem dX8_plan_31 : decode cX8_plan 31 = .ok (.astore_n 2, 1) := by decide +kernel
theorem dX8_plan_32 : decode cX8_plan 32 = .ok (.aload_n 2, 1) := by decide +kernel
theorem dX8_plan_33 : decode cX8_plan 33 = .ok (.getfield 162, 3) := by decide +kernel
theorem dX8_plan_36 : decode cX8_plan 36 = .ok (.ifCond .ne 11, 3) := by decide +kernel
theorem dX8_plan_39 : decode cX8_plan 39 = .ok (.aload_n 0, 1) := by decide +kernel
theorem dX8_plan_40 : decode cX8_plan 40 = .ok (.getfield 52, 3) := by decide +kernel
theorem dX8_plan_43 : decode cX8_plan 43 = .ok (.aload_n 2, 1) := by decide +kernel
theorem dX8_plan_44 : decode cX8_plan 44 = .ok (.invokevirtual 165, 3) := by decide +kernel
theorem dX8_plan_47 : decode cX8_plan 47 = .ok (.iinc 1 1, 3) := by decide +kernel
theorem dX8_plan_50 : decode cX8_plan 50 = .ok (.goto (-41), 3) := by decide +kernel
theorem dX8_plan_53 : decode cX8_plan 53 = .ok (.iconst 0, 1) := by decide +kernel
theorem dX8_plan_54 : decode cX8_plan 54 = .ok (.istore_n 1, 1) := by decide +kernel
theorem dX8_plan_55 : decode cX8_plan 55 = .ok (.iload_n 1, 1) := by decide +kernel
theorem dX8_plan_56 : decode cX8_plan 56 = .ok (.aload_n 0, 1) := by decide +kernel
theorem dX8_plan_57 : decode cX8_plan 57 = .ok (.getfield 16, 3) := by decide +kernel
theorem dX8_plan_60 : decode cX8_plan 60 = .ok (.invokevirtual 60, 3) := by decide +kernel
theorem dX8_plan_63 : decode cX8_plan 63 = .ok (.if_icmp .ge 34, 3) := by decide +kernel
theorem dX8_plan_66 : decode cX8_plan 66 = .ok (.aload_n 0, 1) := by decide +kernel
theorem dX8_plan_67 : decode cX8_plan 67 = .ok (.getfield 16, 3) := by decide +kernel
theorem dX8_plan_70 : decode cX8_plan 70 = .ok (.iload_n 1, 1) := by decide +kernel
theorem dX8_plan_71 : decode cX8_plan 71 = .ok (.invokevirtual 158, 3) := by decide +kernel
theorem dX8_plan_74 : decode cX8_plan 74 = .ok (.checkcast 81, 3) := by decide +kernel
theorem dX8_plan_77 : decode cX8_plan 77 = .ok (.astore_n 2, 1) := by decide +kernel
theorem dX8_plan_78 : decode cX8_plan 78 = .ok (.aload_n 0, 1) := by decide +kernel
theorem dX8_plan_79 : decode cX8_plan 79 = .ok (.getfield 52, 3) := by decide +kernel
theorem dX8_plan_82 : decode cX8_plan 82 = .ok (.aload_n 2, 1) := by decide +kernel
theorem dX8_plan_83 : decode cX8_plan 83 = .ok (.aload_n 0, 1) := by decide +kernel
theorem dX8_plan_84 : decode cX8_plan 84 = .ok (.aload_n 2, 1) := by decide +kernel
theorem dX8_plan_85 : decode cX8_plan 85 = .ok (.invokevirtual 168, 3) := by decide +kernel
theorem dX8_plan_88 : decode cX8_plan 88 = .ok (.invokevirtual 172, 3) := by decide +kernel
theorem dX8_plan_91 : decode cX8_plan 91 = .ok (.iinc 1 1, 3) := by decide +kernel
theorem dX8_plan_94 : decode cX8_plan 94 = .ok (.goto (-39), 3) := by decide +kernel
theorem dX8_plan_97 : decode cX8_plan 97 = .ok (.aload_n 0, 1) := by decide +kernel
theorem dX8_plan_98 : decode cX8_plan 98 = .ok (.invokevirtual 176, 3) := by decide +kernel
theorem dX8_plan_101 : decode cX8_plan 101 = .ok (.ireturn, 1) := by decide +kernel
theorem dX8_off_0 : decode cX8_off 0 = .ok (.aload_n 0, 1) := by decide +kernel
theorem dX8_off_1 : decode cX8_off 1 = .ok (.iload_n 1, 1) := by decide +kernel
theorem dX8_off_2 : decode cX8_off 2 = .ok (.invokevirtual 179, 3) := by decide +kernel
theorem dX8_off_5 : decode cX8_off 5 = .ok (.astore_n 2, 1) := by decide +kernel
theorem dX8_off_6 : decode cX8_off 6 = .ok (.aload_n 2, 1) := by decide +kernel
theorem dX8_off_7 : decode cX8_off 7 = .ok (.ifnull 18, 3) := by decide +kernel
theorem dX8_off_10 : decode cX8_off 10 = .ok (.aload_n 2, 1) := by decide +kernel
theorem dX8_off_11 : decode cX8_off 11 = .ok (.getfield 162, 3) := by decide +kernel
theorem dX8_off_14 : decode cX8_off 14 = .ok (.ifCond .eq 13, 3) := by decide +kernel
theorem dX8_off_17 : decode cX8_off 17 = .ok (.aload_n 2, 1) := by decide +kernel
theorem dX8_off_18 : decode cX8_off 18 = .ok (.getfield 162, 3) := by decide +kernel
theorem dX8_off_21 : decode cX8_off 21 = .ok (.iconst 1, 1) := by decide +kernel
theorem dX8_off_22 : decode cX8_off 22 = .ok (.if_icmp .eq 5, 3) := by decide +kernel
theorem dX8_off_25 : decode cX8_off 25 = .ok (.iconst 0, 1) := by decide +kernel
theorem dX8_off_26 : decode cX8_off 26 = .ok (.ireturn, 1) := by decide +kernel
theorem dX8_off_27 : decode cX8_off 27 = .ok (.aload_n 2, 1) := by decide +kernel
theorem dX8_off_28 : decode cX8_off 28 = .ok (.bipush 6, 2) := by decide +kernel
theorem dX8_off_30 : decode cX8_off 30 = .ok (.putfield 162, 3) := by decide +kernel
theorem dX8_off_33 : decode cX8_off 33 = .ok (.iconst 1, 1) := by decide +kernel
theorem dX8_off_34 : decode cX8_off 34 = .ok (.ireturn, 1) := by decide +kernel
theorem dX8_out_0 : decode cX8_out 0 = .ok (.aload_n 0, 1) := by decide +kernel
theorem dX8_out_1 : decode cX8_out 1 = .ok (.iload_n 1, 1) := by decide +kernel
theorem dX8_out_2 : decode cX8_out 2 = .ok (.invokevirtual 179, 3) := by decide +kernel
theorem dX8_out_5 : decode cX8_out 5 = .ok (.astore_n 2, 1) := by decide +kernel
theorem dX8_out_6 : decode cX8_out 6 = .ok (.aload_n 2, 1) := by decide +kernel
theorem dX8_out_7 : decode cX8_out 7 = .ok (.ifnull 18, 3) := by decide +kernel
theorem dX8_out_10 : decode cX8_out 10 = .ok (.aload_n 2, 1) := by decide +kernel
theorem dX8_out_11 : decode cX8_out 11 = .ok (.getfield 162, 3) := by decide +kernel
theorem dX8_out_14 : decode cX8_out 14 = .ok (.iconst 1, 1) := by decide +kernel
theorem dX8_out_15 : decode cX8_out 15 = .ok (.if_icmp .ne 10, 3) := by decide +kernel
theorem dX8_out_18 : decode cX8_out 18 = .ok (.aload_n 2, 1) := by decide +kernel
theorem dX8_out_19 : decode cX8_out 19 = .ok (.getfield 183, 3) := by decide +kernel
theorem dX8_out_22 : decode cX8_out 22 = .ok (.ifnonnull 5, 3) := by decide +kernel
theorem dX8_out_25 : decode cX8_out 25 = .ok (.iconst (-1), 1) := by decide +kernel
theorem dX8_out_26 : decode cX8_out 26 = .ok (.ireturn, 1) := by decide +kernel
theorem dX8_out_27 : decode cX8_out 27 = .ok (.aload_n 0, 1) := by decide +kernel
theorem dX8_out_28 : decode cX8_out 28 = .ok (.aload_n 2, 1) := by decide +kernel
theorem dX8_out_29 : decode cX8_out 29 = .ok (.aload_n 2, 1) := by decide +kernel
theorem dX8_out_30 : decode cX8_out 30 = .ok (.getfield 183, 3) := by decide +kernel
theorem dX8_out_33 : decode cX8_out 33 = .ok (.invokevirtual 187, 3) := by decide +kernel
theorem dX8_out_36 : decode cX8_out 36 = .ok (.istore_n 3, 1) := by decide +kernel
theorem dX8_out_37 : decode cX8_out 37 = .ok (.iload_n 3, 1) := by decide +kernel
theorem dX8_out_38 : decode cX8_out 38 = .ok (.ifCond .eq 5, 3) := by decide +kernel
theorem dX8_out_41 : decode cX8_out 41 = .ok (.iload_n 3, 1) := by decide +kernel
theorem dX8_out_42 : decode cX8_out 42 = .ok (.ireturn, 1) := by decide +kernel
theorem dX8_out_43 : decode cX8_out 43 = .ok (.aload_n 2, 1) := by decide +kernel
theorem dX8_out_44 : decode cX8_out 44 = .ok (.iconst 3, 1) := by decide +kernel
theorem dX8_out_45 : decode cX8_out 45 = .ok (.putfield 162, 3) := by decide +kernel
theorem dX8_out_48 : decode cX8_out 48 = .ok (.aload_n 2, 1) := by decide +kernel
theorem dX8_out_49 : decode cX8_out 49 = .ok (.getfield 183, 3) := by decide +kernel
theorem dX8_out_52 : decode cX8_out 52 = .ok (.aload_n 2, 1) := by decide +kernel
theorem dX8_out_53 : decode cX8_out 53 = .ok (.putfield 127, 3) := by decide +kernel
theorem dX8_out_56 : decode cX8_out 56 = .ok (.aload_n 2, 1) := by decide +kernel
theorem dX8_out_57 : decode cX8_out 57 = .ok (.getfield 191, 3) := by decide +kernel
theorem dX8_out_60 : decode cX8_out 60 = .ok (.dup, 1) := by decide +kernel
theorem dX8_out_61 : decode cX8_out 61 = .ok (.getfield 195, 3) := by decide +kernel
theorem dX8_out_64 : decode cX8_out 64 = .ok (.iconst 1, 1) := by decide +kernel
theorem dX8_out_65 : decode cX8_out 65 = .ok (.iadd, 1) := by decide +kernel
theorem dX8_out_66 : decode cX8_out 66 = .ok (.putfield 195, 3) := by decide +kernel
theorem dX8_out_69 : decode cX8_out 69 = .ok (.iconst 0, 1) := by decide +kernel
theorem dX8_out_70 : decode cX8_out 70 = .ok (.ireturn, 1) := by decide +kernel
theorem dX8_back_0 : decode cX8_back 0 = .ok (.aload_n 0, 1) := by decide +kernel
theorem dX8_back_1 : decode cX8_back 1 = .ok (.iload_n 1, 1) := by decide +kernel
theorem dX8_back_2 : decode cX8_back 2 = .ok (.invokevirtual 179, 3) := by decide +kernel
theorem dX8_back_5 : decode cX8_back 5 = .ok (.astore_n 2, 1) := by decide +kernel
theorem dX8_back_6 : decode cX8_back 6 = .ok (.aload_n 2, 1) := by decide +kernel
theorem dX8_back_7 : decode cX8_back 7 = .ok (.ifnull 18, 3) := by decide +kernel
theorem dX8_back_10 : decode cX8_back 10 = .ok (.aload_n 2, 1) := by decide +kernel
theorem dX8_back_11 : decode cX8_back 11 = .ok (.getfield 162, 3) := by decide +kernel
theorem dX8_back_14 : decode cX8_back 14 = .ok (.iconst 3, 1) := by decide +kernel
theorem dX8_back_15 : decode cX8_back 15 = .ok (.if_icmp .ne 10, 3) := by decide +kernel
theorem dX8_back_18 : decode cX8_back 18 = .ok (.aload_n 2, 1) := by decide +kernel
theorem dX8_back_19 : decode cX8_back 19 = .ok (.getfield 183, 3) := by decide +kernel
theorem dX8_back_22 : decode cX8_back 22 = .ok (.ifnonnull 5, 3) := by decide +kernel
theorem dX8_back_25 : decode cX8_back 25 = .ok (.iconst (-1), 1) := by decide +kernel
theorem dX8_back_26 : decode cX8_back 26 = .ok (.ireturn, 1) := by decide +kernel
theorem dX8_back_27 : decode cX8_back 27 = .ok (.iconst 0, 1) := by decide +kernel
theorem dX8_back_28 : decode cX8_back 28 = .ok (.aload_n 0, 1) := by decide +kernel
theorem dX8_back_29 : decode cX8_back 29 = .ok (.getfield 56, 3) := by decide +kernel
theorem dX8_back_32 : decode cX8_back 32 = .ok (.aload_n 2, 1) := by decide +kernel
theorem dX8_back_33 : decode cX8_back 33 = .ok (.getfield 198, 3) := by decide +kernel
theorem dX8_back_36 : decode cX8_back 36 = .ok (.isub, 1) := by decide +kernel
theorem dX8_back_37 : decode cX8_back 37 = .ok (.invokestatic 201, 3) := by decide +kernel
theorem dX8_back_40 : decode cX8_back 40 = .ok (.istore_n 3, 1) := by decide +kernel
theorem dX8_back_41 : decode cX8_back 41 = .ok (.aload_n 2, 1) := by decide +kernel
theorem dX8_back_42 : decode cX8_back 42 = .ok (.getfield 191, 3) := by decide +kernel
theorem dX8_back_45 : decode cX8_back 45 = .ok (.aload_n 2, 1) := by decide +kernel
theorem dX8_back_46 : decode cX8_back 46 = .ok (.getfield 198, 3) := by decide +kernel
theorem dX8_back_49 : decode cX8_back 49 = .ok (.aload_n 2, 1) := by decide +kernel
theorem dX8_back_50 : decode cX8_back 50 = .ok (.getfield 207, 3) := by decide +kernel
theorem dX8_back_53 : decode cX8_back 53 = .ok (.isub, 1) := by decide +kernel
theorem dX8_back_54 : decode cX8_back 54 = .ok (.iconst 1, 1) := by decide +kernel
theorem dX8_back_55 : decode cX8_back 55 = .ok (.iadd, 1) := by decide +kernel
theorem dX8_back_56 : decode cX8_back 56 = .ok (.iconst 2, 1) := by decide +kernel
theorem dX8_back_57 : decode cX8_back 57 = .ok (.iload_n 3, 1) := by decide +kernel
theorem dX8_back_58 : decode cX8_back 58 = .ok (.imul, 1) := by decide +kernel
theorem dX8_back_59 : decode cX8_back 59 = .ok (.iadd, 1) := by decide +kernel
theorem dX8_back_60 : decode cX8_back 60 = .ok (.aload_n 2, 1) := by decide +kernel
theorem dX8_back_61 : decode cX8_back 61 = .ok (.getfield 183, 3) := by decide +kernel
theorem dX8_back_64 : decode cX8_back 64 = .ok (.getfield 210, 3) := by decide +kernel
theorem dX8_back_67 : decode cX8_back 67 = .ok (.getfield 214, 3) := by decide +kernel
theorem dX8_back_70 : decode cX8_back 70 = .ok (.invokevirtual 217, 3) := by decide +kernel
theorem dX8_back_73 : decode cX8_back 73 = .ok (.aload_n 2, 1) := by decide +kernel
theorem dX8_back_74 : decode cX8_back 74 = .ok (.getfield 191, 3) := by decide +kernel
theorem dX8_back_77 : decode cX8_back 77 = .ok (.dup, 1) := by decide +kernel
theorem dX8_back_78 : decode cX8_back 78 = .ok (.getfield 195, 3) := by decide +kernel
theorem dX8_back_81 : decode cX8_back 81 = .ok (.iconst 1, 1) := by decide +kernel
theorem dX8_back_82 : decode cX8_back 82 = .ok (.isub, 1) := by decide +kernel
theorem dX8_back_83 : decode cX8_back 83 = .ok (.putfield 195, 3) := by decide +kernel
theorem dX8_back_86 : decode cX8_back 86 = .ok (.aload_n 2, 1) := by decide +kernel
theorem dX8_back_87 : decode cX8_back 87 = .ok (.getfield 183, 3) := by decide +kernel
theorem dX8_back_90 : decode cX8_back 90 = .ok (.aconst_null, 1) := by decide +kernel
theorem dX8_back_91 : decode cX8_back 91 = .ok (.putfield 127, 3) := by decide +kernel
theorem dX8_back_94 : decode cX8_back 94 = .ok (.aload_n 2, 1) := by decide +kernel
theorem dX8_back_95 : decode cX8_back 95 = .ok (.getfield 183, 3) := by decide +kernel
theorem dX8_back_98 : decode cX8_back 98 = .ok (.aload_n 0, 1) := by decide +kernel
theorem dX8_back_99 : decode cX8_back 99 = .ok (.getfield 56, 3) := by decide +kernel
theorem dX8_back_102 : decode cX8_back 102 = .ok (.putfield 221, 3) := by decide +kernel
theorem dX8_back_105 : decode cX8_back 105 = .ok (.aload_n 2, 1) := by decide +kernel
theorem dX8_back_106 : decode cX8_back 106 = .ok (.iconst 4, 1) := by decide +kernel
theorem dX8_back_107 : decode cX8_back 107 = .ok (.putfield 162, 3) := by decide +kernel
theorem dX8_back_110 : decode cX8_back 110 = .ok (.aload_n 2, 1) := by decide +kernel
theorem dX8_back_111 : decode cX8_back 111 = .ok (.aload_n 0, 1) := by decide +kernel
theorem dX8_back_112 : decode cX8_back 112 = .ok (.getfield 56, 3) := by decide +kernel
theorem dX8_back_115 : decode cX8_back 115 = .ok (.putfield 224, 3) := by decide +kernel
theorem dX8_back_118 : decode cX8_back 118 = .ok (.iload_n 3, 1) := by decide +kernel
theorem dX8_back_119 : decode cX8_back 119 = .ok (.ireturn, 1) := by decide +kernel
theorem dX8_work_0 : decode cX8_work 0 = .ok (.aload_n 0, 1) := by decide +kernel
theorem dX8_work_1 : decode cX8_work 1 = .ok (.iload_n 1, 1) := by decide +kernel
theorem dX8_work_2 : decode cX8_work 2 = .ok (.invokevirtual 138, 3) := by decide +kernel
theorem dX8_work_5 : decode cX8_work 5 = .ok (.astore_n 3, 1) := by decide +kernel
theorem dX8_work_6 : decode cX8_work 6 = .ok (.aload_n 3, 1) := by decide +kernel
theorem dX8_work_7 : decode cX8_work 7 = .ok (.ifnull 13, 3) := by decide +kernel
theorem dX8_work_10 : decode cX8_work 10 = .ok (.iload_n 2, 1) := by decide +kernel
theorem dX8_work_11 : decode cX8_work 11 = .ok (.iconst 1, 1) := by decide +kernel
theorem dX8_work_12 : decode cX8_work 12 = .ok (.bipush 100, 2) := by decide +kernel
theorem dX8_work_14 : decode cX8_work 14 = .ok (.invokestatic 64, 3) := by decide +kernel
theorem dX8_work_17 : decode cX8_work 17 = .ok (.ifCond .ne 5, 3) := by decide +kernel
theorem dX8_work_20 : decode cX8_work 20 = .ok (.iconst (-1), 1) := by decide +kernel
theorem dX8_work_21 : decode cX8_work 21 = .ok (.ireturn, 1) := by decide +kernel
theorem dX8_work_22 : decode cX8_work 22 = .ok (.aload_n 3, 1) := by decide +kernel
theorem dX8_work_23 : decode cX8_work 23 = .ok (.iconst 0, 1) := by decide +kernel
theorem dX8_work_24 : decode cX8_work 24 = .ok (.aload_n 3, 1) := by decide +kernel
theorem dX8_work_25 : decode cX8_work 25 = .ok (.getfield 227, 3) := by decide +kernel
theorem dX8_work_28 : decode cX8_work 28 = .ok (.iload_n 2, 1) := by decide +kernel
theorem dX8_work_29 : decode cX8_work 29 = .ok (.isub, 1) := by decide +kernel
theorem dX8_work_30 : decode cX8_work 30 = .ok (.invokestatic 201, 3) := by decide +kernel
theorem dX8_work_33 : decode cX8_work 33 = .ok (.putfield 227, 3) := by decide +kernel
theorem dX8_work_36 : decode cX8_work 36 = .ok (.aload_n 3, 1) := by decide +kernel
theorem dX8_work_37 : decode cX8_work 37 = .ok (.getfield 227, 3) := by decide +kernel
theorem dX8_work_40 : decode cX8_work 40 = .ok (.ireturn, 1) := by decide +kernel
theorem dX8_days_0 : decode cX8_days 0 = .ok (.iload_n 1, 1) := by decide +kernel
theorem dX8_days_1 : decode cX8_days 1 = .ok (.iconst 1, 1) := by decide +kernel
theorem dX8_days_2 : decode cX8_days 2 = .ok (.bipush 60, 2) := by decide +kernel
theorem dX8_days_4 : decode cX8_days 4 = .ok (.invokestatic 64, 3) := by decide +kernel
theorem dX8_days_7 : decode cX8_days 7 = .ok (.ifCond .eq 15, 3) := by decide +kernel
theorem dX8_days_10 : decode cX8_days 10 = .ok (.aload_n 0, 1) := by decide +kernel
theorem dX8_days_11 : decode cX8_days 11 = .ok (.getfield 56, 3) := by decide +kernel
theorem dX8_days_14 : decode cX8_days 14 = .ok (.iload_n 1, 1) := by decide +kernel
theorem dX8_days_15 : decode cX8_days 15 = .ok (.iadd, 1) := by decide +kernel
theorem dX8_days_16 : decode cX8_days 16 = .ok (.sipush 5000, 3) := by decide +kernel
theorem dX8_days_19 : decode cX8_days 19 = .ok (.if_icmp .le 5, 3) := by decide +kernel
theorem dX8_days_22 : decode cX8_days 22 = .ok (.iconst (-1), 1) := by decide +kernel
theorem dX8_days_23 : decode cX8_days 23 = .ok (.ireturn, 1) := by decide +kernel
theorem dX8_days_24 : decode cX8_days 24 = .ok (.iconst 0, 1) := by decide +kernel
theorem dX8_days_25 : decode cX8_days 25 = .ok (.istore_n 2, 1) := by decide +kernel
theorem dX8_days_26 : decode cX8_days 26 = .ok (.iload_n 2, 1) := by decide +kernel
theorem dX8_days_27 : decode cX8_days 27 = .ok (.iload_n 1, 1) := by decide +kernel
theorem dX8_days_28 : decode cX8_days 28 = .ok (.if_icmp .ge 27, 3) := by decide +kernel
theorem dX8_days_31 : decode cX8_days 31 = .ok (.aload_n 0, 1) := by decide +kernel
theorem dX8_days_32 : decode cX8_days 32 = .ok (.dup, 1) := by decide +kernel
theorem dX8_days_33 : decode cX8_days 33 = .ok (.getfield 56, 3) := by decide +kernel
theorem dX8_days_36 : decode cX8_days 36 = .ok (.iconst 1, 1) := by decide +kernel
theorem dX8_days_37 : decode cX8_days 37 = .ok (.iadd, 1) := by decide +kernel
theorem dX8_days_38 : decode cX8_days 38 = .ok (.putfield 56, 3) := by decide +kernel
theorem dX8_days_41 : decode cX8_days 41 = .ok (.aload_n 0, 1) := by decide +kernel
theorem dX8_days_42 : decode cX8_days 42 = .ok (.invokevirtual 230, 3) := by decide +kernel
theorem dX8_days_45 : decode cX8_days 45 = .ok (.aload_n 0, 1) := by decide +kernel
theorem dX8_days_46 : decode cX8_days 46 = .ok (.invokevirtual 233, 3) := by decide +kernel
theorem dX8_days_49 : decode cX8_days 49 = .ok (.iinc 2 1, 3) := by decide +kernel
theorem dX8_days_52 : decode cX8_days 52 = .ok (.goto (-26), 3) := by decide +kernel
theorem dX8_days_55 : decode cX8_days 55 = .ok (.aload_n 0, 1) := by decide +kernel
theorem dX8_days_56 : decode cX8_days 56 = .ok (.getfield 56, 3) := by decide +kernel
theorem dX8_days_59 : decode cX8_days 59 = .ok (.ireturn, 1) := by decide +kernel
theorem dX8_buy_0 : decode cX8_buy 0 = .ok (.aload_n 0, 1) := by decide +kernel
theorem dX8_buy_1 : decode cX8_buy 1 = .ok (.iload_n 1, 1) := by decide +kernel
theorem dX8_buy_2 : decode cX8_buy 2 = .ok (.invokevirtual 77, 3) := by decide +kernel
theorem dX8_buy_5 : decode cX8_buy 5 = .ok (.astore_n 2, 1) := by decide +kernel
theorem dX8_buy_6 : decode cX8_buy 6 = .ok (.aload_n 2, 1) := by decide +kernel
theorem dX8_buy_7 : decode cX8_buy 7 = .ok (.ifnonnull 5, 3) := by decide +kernel
theorem dX8_buy_10 : decode cX8_buy 10 = .ok (.iconst (-1), 1) := by decide +kernel
theorem dX8_buy_11 : decode cX8_buy 11 = .ok (.ireturn, 1) := by decide +kernel
theorem dX8_buy_12 : decode cX8_buy 12 = .ok (.iconst 0, 1) := by decide +kernel
theorem dX8_buy_13 : decode cX8_buy 13 = .ok (.istore_n 3, 1) := by decide +kernel
theorem dX8_buy_14 : decode cX8_buy 14 = .ok (.iconst 0, 1) := by decide +kernel
theorem dX8_buy_15 : decode cX8_buy 15 = .ok (.istore 4, 2) := by decide +kernel
theorem dX8_buy_17 : decode cX8_buy 17 = .ok (.iconst 0, 1) := by decide +kernel
theorem dX8_buy_18 : decode cX8_buy 18 = .ok (.istore 5, 2) := by decide +kernel
theorem dX8_buy_20 : decode cX8_buy 20 = .ok (.iload 5, 2) := by decide +kernel
theorem dX8_buy_22 : decode cX8_buy 22 = .ok (.aload_n 0, 1) := by decide +kernel
theorem dX8_buy_23 : decode cX8_buy 23 = .ok (.getfield 25, 3) := by decide +kernel
theorem dX8_buy_26 : decode cX8_buy 26 = .ok (.invokevirtual 60, 3) := by decide +kernel
theorem dX8_buy_29 : decode cX8_buy 29 = .ok (.if_icmp .ge 59, 3) := by decide +kernel
theorem dX8_buy_32 : decode cX8_buy 32 = .ok (.aload_n 0, 1) := by decide +kernel
theorem dX8_buy_33 : decode cX8_buy 33 = .ok (.getfield 25, 3) := by decide +kernel
theorem dX8_buy_36 : decode cX8_buy 36 = .ok (.iload 5, 2) := by decide +kernel
theorem dX8_buy_38 : decode cX8_buy 38 = .ok (.invokevirtual 158, 3) := by decide +kernel
theorem dX8_buy_41 : decode cX8_buy 41 = .ok (.checkcast 150, 3) := by decide +kernel
theorem dX8_buy_44 : decode cX8_buy 44 = .ok (.astore 6, 2) := by decide +kernel
theorem dX8_buy_46 : decode cX8_buy 46 = .ok (.aload 6, 2) := by decide +kernel
theorem dX8_buy_48 : decode cX8_buy 48 = .ok (.getfield 207, 3) := by decide +kernel
theorem dX8_buy_51 : decode cX8_buy 51 = .ok (.iload 4, 2) := by decide +kernel
theorem dX8_buy_53 : decode cX8_buy 53 = .ok (.if_icmp .lt 29, 3) := by decide +kernel
theorem dX8_buy_56 : decode cX8_buy 56 = .ok (.aload_n 2, 1) := by decide +kernel
theorem dX8_buy_57 : decode cX8_buy 57 = .ok (.aload 6, 2) := by decide +kernel
theorem dX8_buy_59 : decode cX8_buy 59 = .ok (.invokevirtual 236, 3) := by decide +kernel
theorem dX8_buy_62 : decode cX8_buy 62 = .ok (.ifCond .eq 20, 3) := by decide +kernel
theorem dX8_buy_65 : decode cX8_buy 65 = .ok (.iinc 3 1, 3) := by decide +kernel
theorem dX8_buy_68 : decode cX8_buy 68 = .ok (.aload 6, 2) := by decide +kernel
theorem dX8_buy_70 : decode cX8_buy 70 = .ok (.getfield 198, 3) := by decide +kernel
theorem dX8_buy_73 : decode cX8_buy 73 = .ok (.aload_n 2, 1) := by decide +kernel
theorem dX8_buy_74 : decode cX8_buy 74 = .ok (.getfield 240, 3) := by decide +kernel
theorem dX8_buy_77 : decode cX8_buy 77 = .ok (.iadd, 1) := by decide +kernel
theorem dX8_buy_78 : decode cX8_buy 78 = .ok (.iconst 1, 1) := by decide +kernel
theorem dX8_buy_79 : decode cX8_buy 79 = .ok (.iadd, 1) := by decide +kernel
theorem dX8_buy_80 : decode cX8_buy 80 = .ok (.istore 4, 2) := by decide +kernel
theorem dX8_buy_82 : decode cX8_buy 82 = .ok (.iinc 5 1, 3) := by decide +kernel
theorem dX8_buy_85 : decode cX8_buy 85 = .ok (.goto (-65), 3) := by decide +kernel
theorem dX8_buy_88 : decode cX8_buy 88 = .ok (.iload_n 3, 1) := by decide +kernel
theorem dX8_buy_89 : decode cX8_buy 89 = .ok (.ireturn, 1) := by decide +kernel
theorem dX8_of_0 : decode cX8_of 0 = .ok (.aload_n 0, 1) := by decide +kernel
theorem dX8_of_1 : decode cX8_of 1 = .ok (.iload_n 1, 1) := by decide +kernel
theorem dX8_of_2 : decode cX8_of 2 = .ok (.invokevirtual 179, 3) := by decide +kernel
theorem dX8_of_5 : decode cX8_of 5 = .ok (.astore_n 3, 1) := by decide +kernel
theorem dX8_of_6 : decode cX8_of 6 = .ok (.aload_n 3, 1) := by decide +kernel
theorem dX8_of_7 : decode cX8_of 7 = .ok (.ifnonnull 13, 3) := by decide +kernel
theorem dX8_of_10 : decode cX8_of 10 = .ok (.new 243, 3) := by decide +kernel
theorem dX8_of_13 : decode cX8_of 13 = .ok (.dup, 1) := by decide +kernel
theorem dX8_of_14 : decode cX8_of 14 = .ok (.ldc 245, 2) := by decide +kernel
theorem dX8_of_16 : decode cX8_of 16 = .ok (.invokespecial 247, 3) := by decide +kernel
theorem dX8_of_19 : decode cX8_of 19 = .ok (.athrow, 1) := by decide +kernel
theorem dX8_of_20 : decode cX8_of 20 = .ok (.iload_n 2, 1) := by decide +kernel
theorem dX8_of_21 : decode cX8_of 21 = .ok (.tableswitch 142 0 8 #[51, 56, 75, 80, 88, 96, 101, 106, 111], 51) := by decide +kernel
theorem dX8_of_72 : decode cX8_of 72 = .ok (.aload_n 3, 1) := by decide +kernel
theorem dX8_of_73 : decode cX8_of 73 = .ok (.getfield 162, 3) := by decide +kernel
theorem dX8_of_76 : decode cX8_of 76 = .ok (.ireturn, 1) := by decide +kernel
theorem dX8_of_77 : decode cX8_of 77 = .ok (.aload_n 3, 1) := by decide +kernel
theorem dX8_of_78 : decode cX8_of 78 = .ok (.getfield 183, 3) := by decide +kernel
theorem dX8_of_81 : decode cX8_of 81 = .ok (.ifnonnull 7, 3) := by decide +kernel
theorem dX8_of_84 : decode cX8_of 84 = .ok (.iconst (-1), 1) := by decide +kernel
theorem dX8_of_85 : decode cX8_of 85 = .ok (.goto 10, 3) := by decide +kernel
theorem dX8_of_88 : decode cX8_of 88 = .ok (.aload_n 3, 1) := by decide +kernel
theorem dX8_of_89 : decode cX8_of 89 = .ok (.getfield 183, 3) := by decide +kernel
theorem dX8_of_92 : decode cX8_of 92 = .ok (.getfield 250, 3) := by decide +kernel
theorem dX8_of_95 : decode cX8_of 95 = .ok (.ireturn, 1) := by decide +kernel
theorem dX8_of_96 : decode cX8_of 96 = .ok (.aload_n 3, 1) := by decide +kernel
theorem dX8_of_97 : decode cX8_of 97 = .ok (.getfield 253, 3) := by decide +kernel
theorem dX8_of_100 : decode cX8_of 100 = .ok (.ireturn, 1) := by decide +kernel
theorem dX8_of_101 : decode cX8_of 101 = .ok (.aload_n 3, 1) := by decide +kernel
theorem dX8_of_102 : decode cX8_of 102 = .ok (.getfield 191, 3) := by decide +kernel
theorem dX8_of_105 : decode cX8_of 105 = .ok (.getfield 256, 3) := by decide +kernel
theorem dX8_of_108 : decode cX8_of 108 = .ok (.ireturn, 1) := by decide +kernel
theorem dX8_of_109 : decode cX8_of 109 = .ok (.aload_n 3, 1) := by decide +kernel
theorem dX8_of_110 : decode cX8_of 110 = .ok (.getfield 257, 3) := by decide +kernel
theorem dX8_of_113 : decode cX8_of 113 = .ok (.getfield 258, 3) := by decide +kernel
theorem dX8_of_116 : decode cX8_of 116 = .ok (.ireturn, 1) := by decide +kernel
theorem dX8_of_117 : decode cX8_of 117 = .ok (.aload_n 3, 1) := by decide +kernel
theorem dX8_of_118 : decode cX8_of 118 = .ok (.getfield 207, 3) := by decide +kernel
theorem dX8_of_121 : decode cX8_of 121 = .ok (.ireturn, 1) := by decide +kernel
theorem dX8_of_122 : decode cX8_of 122 = .ok (.aload_n 3, 1) := by decide +kernel
theorem dX8_of_123 : decode cX8_of 123 = .ok (.getfield 198, 3) := by decide +kernel
theorem dX8_of_126 : decode cX8_of 126 = .ok (.ireturn, 1) := by decide +kernel
theorem dX8_of_127 : decode cX8_of 127 = .ok (.aload_n 3, 1) := by decide +kernel
theorem dX8_of_128 : decode cX8_of 128 = .ok (.getfield 259, 3) := by decide +kernel
theorem dX8_of_131 : decode cX8_of 131 = .ok (.ireturn, 1) := by decide +kernel
theorem dX8_of_132 : decode cX8_of 132 = .ok (.aload_n 3, 1) := by decide +kernel
theorem dX8_of_133 : decode cX8_of 133 = .ok (.getfield 183, 3) := by decide +kernel
theorem dX8_of_136 : decode cX8_of 136 = .ok (.ifnonnull 7, 3) := by decide +kernel
theorem dX8_of_139 : decode cX8_of 139 = .ok (.iconst (-1), 1) := by decide +kernel
theorem dX8_of_140 : decode cX8_of 140 = .ok (.goto 22, 3) := by decide +kernel
theorem dX8_of_143 : decode cX8_of 143 = .ok (.aload_n 3, 1) := by decide +kernel
theorem dX8_of_144 : decode cX8_of 144 = .ok (.getfield 183, 3) := by decide +kernel
theorem dX8_of_147 : decode cX8_of 147 = .ok (.getfield 210, 3) := by decide +kernel
theorem dX8_of_150 : decode cX8_of 150 = .ok (.aload_n 3, 1) := by decide +kernel
theorem dX8_of_151 : decode cX8_of 151 = .ok (.getfield 257, 3) := by decide +kernel
theorem dX8_of_154 : decode cX8_of 154 = .ok (.if_acmp .ne 7, 3) := by decide +kernel
theorem dX8_of_157 : decode cX8_of 157 = .ok (.iconst 0, 1) := by decide +kernel
theorem dX8_of_158 : decode cX8_of 158 = .ok (.goto 4, 3) := by decide +kernel
theorem dX8_of_161 : decode cX8_of 161 = .ok (.iconst 1, 1) := by decide +kernel
theorem dX8_of_162 : decode cX8_of 162 = .ok (.ireturn, 1) := by decide +kernel
theorem dX8_of_163 : decode cX8_of 163 = .ok (.new 243, 3) := by decide +kernel
theorem dX8_of_166 : decode cX8_of 166 = .ok (.dup, 1) := by decide +kernel
theorem dX8_of_167 : decode cX8_of 167 = .ok (.ldc_w 262, 3) := by decide +kernel
theorem dX8_of_170 : decode cX8_of 170 = .ok (.invokespecial 247, 3) := by decide +kernel
theorem dX8_of_173 : decode cX8_of 173 = .ok (.athrow, 1) := by decide +kernel
theorem dX8_thingOf_0 : decode cX8_thingOf 0 = .ok (.aload_n 0, 1) := by decide +kernel
theorem dX8_thingOf_1 : decode cX8_thingOf 1 = .ok (.iload_n 1, 1) := by decide +kernel
theorem dX8_thingOf_2 : decode cX8_thingOf 2 = .ok (.invokevirtual 123, 3) := by decide +kernel
theorem dX8_thingOf_5 : decode cX8_thingOf 5 = .ok (.astore_n 3, 1) := by decide +kernel
theorem dX8_thingOf_6 : decode cX8_thingOf 6 = .ok (.aload_n 3, 1) := by decide +kernel
theorem dX8_thingOf_7 : decode cX8_thingOf 7 = .ok (.ifnonnull 5, 3) := by decide +kernel
theorem dX8_thingOf_10 : decode cX8_thingOf 10 = .ok (.iconst (-1), 1) := by decide +kernel
theorem dX8_thingOf_11 : decode cX8_thingOf 11 = .ok (.ireturn, 1) := by decide +kernel
theorem dX8_thingOf_12 : decode cX8_thingOf 12 = .ok (.iload_n 2, 1) := by decide +kernel
theorem dX8_thingOf_13 : decode cX8_thingOf 13 = .ok (.tableswitch 90 0 4 #[35, 43, 48, 67, 84], 35) := by decide +kernel
theorem dX8_thingOf_48 : decode cX8_thingOf 48 = .ok (.aload_n 3, 1) := by decide +kernel
theorem dX8_thingOf_49 : decode cX8_thingOf 49 = .ok (.getfield 210, 3) := by decide +kernel
theorem dX8_thingOf_52 : decode cX8_thingOf 52 = .ok (.getfield 258, 3) := by decide +kernel
theorem dX8_thingOf_55 : decode cX8_thingOf 55 = .ok (.ireturn, 1) := by decide +kernel
theorem dX8_thingOf_56 : decode cX8_thingOf 56 = .ok (.aload_n 3, 1) := by decide +kernel
theorem dX8_thingOf_57 : decode cX8_thingOf 57 = .ok (.getfield 131, 3) := by decide +kernel
theorem dX8_thingOf_60 : decode cX8_thingOf 60 = .ok (.ireturn, 1) := by decide +kernel
theorem dX8_thingOf_61 : decode cX8_thingOf 61 = .ok (.aload_n 3, 1) := by decide +kernel
theorem dX8_thingOf_62 : decode cX8_thingOf 62 = .ok (.getfield 127, 3) := by decide +kernel
theorem dX8_thingOf_65 : decode cX8_thingOf 65 = .ok (.ifnonnull 7, 3) := by decide +kernel
theorem dX8_thingOf_68 : decode cX8_thingOf 68 = .ok (.iconst (-1), 1) := by decide +kernel
theorem dX8_thingOf_69 : decode cX8_thingOf 69 = .ok (.goto 10, 3) := by decide +kernel
theorem dX8_thingOf_72 : decode cX8_thingOf 72 = .ok (.aload_n 3, 1) := by decide +kernel
theorem dX8_thingOf_73 : decode cX8_thingOf 73 = .ok (.getfield 127, 3) := by decide +kernel
theorem dX8_thingOf_76 : decode cX8_thingOf 76 = .ok (.getfield 264, 3) := by decide +kernel
theorem dX8_thingOf_79 : decode cX8_thingOf 79 = .ok (.ireturn, 1) := by decide +kernel
theorem dX8_thingOf_80 : decode cX8_thingOf 80 = .ok (.aload_n 3, 1) := by decide +kernel
theorem dX8_thingOf_81 : decode cX8_thingOf 81 = .ok (.aload_n 0, 1) := by decide +kernel
theorem dX8_thingOf_82 : decode cX8_thingOf 82 = .ok (.getfield 56, 3) := by decide +kernel
theorem dX8_thingOf_85 : decode cX8_thingOf 85 = .ok (.invokevirtual 265, 3) := by decide +kernel
theorem dX8_thingOf_88 : decode cX8_thingOf 88 = .ok (.ifCond .eq 7, 3) := by decide +kernel
theorem dX8_thingOf_91 : decode cX8_thingOf 91 = .ok (.iconst 1, 1) := by decide +kernel
theorem dX8_thingOf_92 : decode cX8_thingOf 92 = .ok (.goto 4, 3) := by decide +kernel
theorem dX8_thingOf_95 : decode cX8_thingOf 95 = .ok (.iconst 0, 1) := by decide +kernel
theorem dX8_thingOf_96 : decode cX8_thingOf 96 = .ok (.ireturn, 1) := by decide +kernel
theorem dX8_thingOf_97 : decode cX8_thingOf 97 = .ok (.aload_n 0, 1) := by decide +kernel
theorem dX8_thingOf_98 : decode cX8_thingOf 98 = .ok (.aload_n 3, 1) := by decide +kernel
theorem dX8_thingOf_99 : decode cX8_thingOf 99 = .ok (.invokevirtual 269, 3) := by decide +kernel
theorem dX8_thingOf_102 : decode cX8_thingOf 102 = .ok (.ireturn, 1) := by decide +kernel
theorem dX8_thingOf_103 : decode cX8_thingOf 103 = .ok (.iconst (-1), 1) := by decide +kernel
theorem dX8_thingOf_104 : decode cX8_thingOf 104 = .ok (.ireturn, 1) := by decide +kernel
theorem dX8_isFree_0 : decode cX8_isFree 0 = .ok (.aload_n 0, 1) := by decide +kernel
theorem dX8_isFree_1 : decode cX8_isFree 1 = .ok (.iload_n 1, 1) := by decide +kernel
theorem dX8_isFree_2 : decode cX8_isFree 2 = .ok (.invokevirtual 123, 3) := by decide +kernel
theorem dX8_isFree_5 : decode cX8_isFree 5 = .ok (.astore 4, 2) := by decide +kernel
theorem dX8_isFree_7 : decode cX8_isFree 7 = .ok (.aload 4, 2) := by decide +kernel
theorem dX8_isFree_9 : decode cX8_isFree 9 = .ok (.ifnull 16, 3) := by decide +kernel
theorem dX8_isFree_12 : decode cX8_isFree 12 = .ok (.iload_n 2, 1) := by decide +kernel
theorem dX8_isFree_13 : decode cX8_isFree 13 = .ok (.aload_n 0, 1) := by decide +kernel
theorem dX8_isFree_14 : decode cX8_isFree 14 = .ok (.getfield 56, 3) := by decide +kernel
theorem dX8_isFree_17 : decode cX8_isFree 17 = .ok (.if_icmp .lt 8, 3) := by decide +kernel
theorem dX8_isFree_20 : decode cX8_isFree 20 = .ok (.iload_n 3, 1) := by decide +kernel
theorem dX8_isFree_21 : decode cX8_isFree 21 = .ok (.iload_n 2, 1) := by decide +kernel
theorem dX8_isFree_22 : decode cX8_isFree 22 = .ok (.if_icmp .ge 5, 3) := by decide +kernel
theorem dX8_isFree_25 : decode cX8_isFree 25 = .ok (.iconst (-1), 1) := by decide +kernel
theorem dX8_isFree_26 : decode cX8_isFree 26 = .ok (.ireturn, 1) := by decide +kernel
theorem dX8_isFree_27 : decode cX8_isFree 27 = .ok (.aload_n 0, 1) := by decide +kernel
theorem dX8_isFree_28 : decode cX8_isFree 28 = .ok (.aconst_null, 1) := by decide +kernel
theorem dX8_isFree_29 : decode cX8_isFree 29 = .ok (.aload 4, 2) := by decide +kernel
theorem dX8_isFree_31 : decode cX8_isFree 31 = .ok (.iload_n 2, 1) := by decide +kernel
theorem dX8_isFree_32 : decode cX8_isFree 32 = .ok (.iload_n 3, 1) := by decide +kernel
theorem dX8_isFree_33 : decode cX8_isFree 33 = .ok (.invokevirtual 272, 3) := by decide +kernel
theorem dX8_isFree_36 : decode cX8_isFree 36 = .ok (.ifCond .eq 7, 3) := by decide +kernel
theorem dX8_isFree_39 : decode cX8_isFree 39 = .ok (.iconst 1, 1) := by decide +kernel
theorem dX8_isFree_40 : decode cX8_isFree 40 = .ok (.goto 4, 3) := by decide +kernel
theorem dX8_isFree_43 : decode cX8_isFree 43 = .ok (.iconst 0, 1) := by decide +kernel
theorem dX8_isFree_44 : decode cX8_isFree 44 = .ok (.ireturn, 1) := by decide +kernel
theorem dX8_memberOf_0 : decode cX8_memberOf 0 = .ok (.aload_n 0, 1) := by decide +kernel
theorem dX8_memberOf_1 : decode cX8_memberOf 1 = .ok (.iload_n 1, 1) := by decide +kernel
theorem dX8_memberOf_2 : decode cX8_memberOf 2 = .ok (.invokevirtual 138, 3) := by decide +kernel
theorem dX8_memberOf_5 : decode cX8_memberOf 5 = .ok (.astore_n 3, 1) := by decide +kernel
theorem dX8_memberOf_6 : decode cX8_memberOf 6 = .ok (.aload_n 3, 1) := by decide +kernel
theorem dX8_memberOf_7 : decode cX8_memberOf 7 = .ok (.ifnonnull 5, 3) := by decide +kernel
theorem dX8_memberOf_10 : decode cX8_memberOf 10 = .ok (.iconst (-1), 1) := by decide +kernel
theorem dX8_memberOf_11 : decode cX8_memberOf 11 = .ok (.ireturn, 1) := by decide +kernel
theorem dX8_memberOf_12 : decode cX8_memberOf 12 = .ok (.iload_n 2, 1) := by decide +kernel
theorem dX8_memberOf_13 : decode cX8_memberOf 13 = .ok (.tableswitch 42 0 2 #[27, 32, 37], 27) := by decide +kernel
theorem dX8_memberOf_40 : decode cX8_memberOf 40 = .ok (.aload_n 3, 1) := by decide +kernel
theorem dX8_memberOf_41 : decode cX8_memberOf 41 = .ok (.getfield 227, 3) := by decide +kernel
theorem dX8_memberOf_44 : decode cX8_memberOf 44 = .ok (.ireturn, 1) := by decide +kernel
theorem dX8_memberOf_45 : decode cX8_memberOf 45 = .ok (.aload_n 3, 1) := by decide +kernel
theorem dX8_memberOf_46 : decode cX8_memberOf 46 = .ok (.getfield 276, 3) := by decide +kernel
theorem dX8_memberOf_49 : decode cX8_memberOf 49 = .ok (.ireturn, 1) := by decide +kernel
theorem dX8_memberOf_50 : decode cX8_memberOf 50 = .ok (.aload_n 3, 1) := by decide +kernel
theorem dX8_memberOf_51 : decode cX8_memberOf 51 = .ok (.getfield 195, 3) := by decide +kernel
theorem dX8_memberOf_54 : decode cX8_memberOf 54 = .ok (.ireturn, 1) := by decide +kernel
theorem dX8_memberOf_55 : decode cX8_memberOf 55 = .ok (.iconst (-1), 1) := by decide +kernel
theorem dX8_memberOf_56 : decode cX8_memberOf 56 = .ok (.ireturn, 1) := by decide +kernel
theorem dX8_count_0 : decode cX8_count 0 = .ok (.iload_n 1, 1) := by decide +kernel
theorem dX8_count_1 : decode cX8_count 1 = .ok (.bipush 10, 2) := by decide +kernel
theorem dX8_count_3 : decode cX8_count 3 = .ok (.bipush 16, 2) := by decide +kernel
theorem dX8_count_5 : decode cX8_count 5 = .ok (.invokestatic 64, 3) := by decide +kernel
theorem dX8_count_8 : decode cX8_count 8 = .ok (.ifCond .eq 12, 3) := by decide +kernel
theorem dX8_count_11 : decode cX8_count 11 = .ok (.aload_n 0, 1) := by decide +kernel
theorem dX8_count_12 : decode cX8_count 12 = .ok (.iload_n 1, 1) := by decide +kernel
theorem dX8_count_13 : decode cX8_count 13 = .ok (.bipush 10, 2) := by decide +kernel
theorem dX8_count_15 : decode cX8_count 15 = .ok (.isub, 1) := by decide +kernel
theorem dX8_count_16 : decode cX8_count 16 = .ok (.invokevirtual 146, 3) := by decide +kernel
theorem dX8_count_19 : decode cX8_count 19 = .ok (.ireturn, 1) := by decide +kernel
theorem dX8_count_20 : decode cX8_count 20 = .ok (.iload_n 1, 1) := by decide +kernel
theorem dX8_count_21 : decode cX8_count 21 = .ok (.bipush 20, 2) := by decide +kernel
theorem dX8_count_23 : decode cX8_count 23 = .ok (.bipush 27, 2) := by decide +kernel
theorem dX8_count_25 : decode cX8_count 25 = .ok (.invokestatic 64, 3) := by decide +kernel
theorem dX8_count_28 : decode cX8_count 28 = .ok (.ifCond .eq 15, 3) := by decide +kernel
theorem dX8_count_31 : decode cX8_count 31 = .ok (.aload_n 0, 1) := by decide +kernel
theorem dX8_count_32 : decode cX8_count 32 = .ok (.getfield 45, 3) := by decide +kernel
theorem dX8_count_35 : decode cX8_count 35 = .ok (.iload_n 1, 1) := by decide +kernel
theorem dX8_count_36 : decode cX8_count 36 = .ok (.bipush 20, 2) := by decide +kernel
theorem dX8_count_38 : decode cX8_count 38 = .ok (.isub, 1) := by decide +kernel
theorem dX8_count_39 : decode cX8_count 39 = .ok (.invokevirtual 279, 3) := by decide +kernel
theorem dX8_count_42 : decode cX8_count 42 = .ok (.ireturn, 1) := by decide +kernel
theorem dX8_count_43 : decode cX8_count 43 = .ok (.iload_n 1, 1) := by decide +kernel
theorem dX8_count_44 : decode cX8_count 44 = .ok (.tableswitch 97 0 6 #[44, 52, 60, 68, 76, 81, 89], 44) := by decide +kernel
theorem dX8_count_88 : decode cX8_count 88 = .ok (.aload_n 0, 1) := by decide +kernel
theorem dX8_count_89 : decode cX8_count 89 = .ok (.getfield 10, 3) := by decide +kernel
theorem dX8_count_92 : decode cX8_count 92 = .ok (.invokevirtual 60, 3) := by decide +kernel
theorem dX8_count_95 : decode cX8_count 95 = .ok (.ireturn, 1) := by decide +kernel
theorem dX8_count_96 : decode cX8_count 96 = .ok (.aload_n 0, 1) := by decide +kernel
theorem dX8_count_97 : decode cX8_count 97 = .ok (.getfield 16, 3) := by decide +kernel
theorem dX8_count_100 : decode cX8_count 100 = .ok (.invokevirtual 60, 3) := by decide +kernel
theorem dX8_count_103 : decode cX8_count 103 = .ok (.ireturn, 1) := by decide +kernel
theorem dX8_count_104 : decode cX8_count 104 = .ok (.aload_n 0, 1) := by decide +kernel
theorem dX8_count_105 : decode cX8_count 105 = .ok (.getfield 19, 3) := by decide +kernel
theorem dX8_count_108 : decode cX8_count 108 = .ok (.invokevirtual 60, 3) := by decide +kernel
theorem dX8_count_111 : decode cX8_count 111 = .ok (.ireturn, 1) := by decide +kernel
theorem dX8_count_112 : decode cX8_count 112 = .ok (.aload_n 0, 1) := by decide +kernel
theorem dX8_count_113 : decode cX8_count 113 = .ok (.getfield 45, 3) := by decide +kernel
theorem dX8_count_116 : decode cX8_count 116 = .ok (.getfield 101, 3) := by decide +kernel
theorem dX8_count_119 : decode cX8_count 119 = .ok (.ireturn, 1) := by decide +kernel
theorem dX8_count_120 : decode cX8_count 120 = .ok (.aload_n 0, 1) := by decide +kernel
theorem dX8_count_121 : decode cX8_count 121 = .ok (.getfield 56, 3) := by decide +kernel
theorem dX8_count_124 : decode cX8_count 124 = .ok (.ireturn, 1) := by decide +kernel
theorem dX8_count_125 : decode cX8_count 125 = .ok (.aload_n 0, 1) := by decide +kernel
theorem dX8_count_126 : decode cX8_count 126 = .ok (.getfield 22, 3) := by decide +kernel
theorem dX8_count_129 : decode cX8_count 129 = .ok (.invokevirtual 60, 3) := by decide +kernel
theorem dX8_count_132 : decode cX8_count 132 = .ok (.ireturn, 1) := by decide +kernel
theorem dX8_count_133 : decode cX8_count 133 = .ok (.aload_n 0, 1) := by decide +kernel
theorem dX8_count_134 : decode cX8_count 134 = .ok (.getfield 31, 3) := by decide +kernel
theorem dX8_count_137 : decode cX8_count 137 = .ok (.getfield 98, 3) := by decide +kernel
theorem dX8_count_140 : decode cX8_count 140 = .ok (.ireturn, 1) := by decide +kernel
theorem dX8_count_141 : decode cX8_count 141 = .ok (.iconst (-1), 1) := by decide +kernel
theorem dX8_count_142 : decode cX8_count 142 = .ok (.ireturn, 1) := by decide +kernel
theorem dX8_isWithin_0 : decode cX8_isWithin 0 = .ok (.iload_n 0, 1) := by decide +kernel
theorem dX8_isWithin_1 : decode cX8_isWithin 1 = .ok (.iload_n 1, 1) := by decide +kernel
theorem dX8_isWithin_2 : decode cX8_isWithin 2 = .ok (.if_icmp .lt 12, 3) := by decide +kernel
theorem dX8_isWithin_5 : decode cX8_isWithin 5 = .ok (.iload_n 0, 1) := by decide +kernel
theorem dX8_isWithin_6 : decode cX8_isWithin 6 = .ok (.iload_n 2, 1) := by decide +kernel
theorem dX8_isWithin_7 : decode cX8_isWithin 7 = .ok (.if_icmp .gt 7, 3) := by decide +kernel
theorem dX8_isWithin_10 : decode cX8_isWithin 10 = .ok (.iconst 1, 1) := by decide +kernel
theorem dX8_isWithin_11 : decode cX8_isWithin 11 = .ok (.goto 4, 3) := by decide +kernel
theorem dX8_isWithin_14 : decode cX8_isWithin 14 = .ok (.iconst 0, 1) := by decide +kernel
theorem dX8_isWithin_15 : decode cX8_isWithin 15 = .ok (.ireturn, 1) := by decide +kernel
theorem dX8_areNear_0 : decode cX8_areNear 0 = .ok (.iload_n 0, 1) := by decide +kernel
theorem dX8_areNear_1 : decode cX8_areNear 1 = .ok (.i2l, 1) := by decide +kernel
theorem dX8_areNear_2 : decode cX8_areNear 2 = .ok (.iload_n 3, 1) := by decide +kernel
theorem dX8_areNear_3 : decode cX8_areNear 3 = .ok (.i2l, 1) := by decide +kernel
theorem dX8_areNear_4 : decode cX8_areNear 4 = .ok (.iload 4, 2) := by decide +kernel
theorem dX8_areNear_6 : decode cX8_areNear 6 = .ok (.i2l, 1) := by decide +kernel
theorem dX8_areNear_7 : decode cX8_areNear 7 = .ok (.ladd, 1) := by decide +kernel
theorem dX8_areNear_8 : decode cX8_areNear 8 = .ok (.lcmp, 1) := by decide +kernel
theorem dX8_areNear_9 : decode cX8_areNear 9 = .ok (.ifCond .gt 19, 3) := by decide +kernel
theorem dX8_areNear_12 : decode cX8_areNear 12 = .ok (.iload_n 2, 1) := by decide +kernel
theorem dX8_areNear_13 : decode cX8_areNear 13 = .ok (.i2l, 1) := by decide +kernel
theorem dX8_areNear_14 : decode cX8_areNear 14 = .ok (.iload_n 1, 1) := by decide +kernel
theorem dX8_areNear_15 : decode cX8_areNear 15 = .ok (.i2l, 1) := by decide +kernel
theorem dX8_areNear_16 : decode cX8_areNear 16 = .ok (.iload 4, 2) := by decide +kernel
theorem dX8_areNear_18 : decode cX8_areNear 18 = .ok (.i2l, 1) := by decide +kernel
theorem dX8_areNear_19 : decode cX8_areNear 19 = .ok (.ladd, 1) := by decide +kernel
theorem dX8_areNear_20 : decode cX8_areNear 20 = .ok (.lcmp, 1) := by decide +kernel
theorem dX8_areNear_21 : decode cX8_areNear 21 = .ok (.ifCond .gt 7, 3) := by decide +kernel
theorem dX8_areNear_24 : decode cX8_areNear 24 = .ok (.iconst 1, 1) := by decide +kernel
theorem dX8_areNear_25 : decode cX8_areNear 25 = .ok (.goto 4, 3) := by decide +kernel
theorem dX8_areNear_28 : decode cX8_areNear 28 = .ok (.iconst 0, 1) := by decide +kernel
theorem dX8_areNear_29 : decode cX8_areNear 29 = .ok (.ireturn, 1) := by decide +kernel
theorem dX8_kindAt_0 : decode cX8_kindAt 0 = .ok (.iload_n 1, 1) := by decide +kernel
theorem dX8_kindAt_1 : decode cX8_kindAt 1 = .ok (.ifCond .lt 28, 3) := by decide +kernel
theorem dX8_kindAt_4 : decode cX8_kindAt 4 = .ok (.iload_n 1, 1) := by decide +kernel
theorem dX8_kindAt_5 : decode cX8_kindAt 5 = .ok (.aload_n 0, 1) := by decide +kernel
theorem dX8_kindAt_6 : decode cX8_kindAt 6 = .ok (.getfield 10, 3) := by decide +kernel
theorem dX8_kindAt_9 : decode cX8_kindAt 9 = .ok (.invokevirtual 60, 3) := by decide +kernel
theorem dX8_kindAt_12 : decode cX8_kindAt 12 = .ok (.if_icmp .ge 17, 3) := by decide +kernel
theorem dX8_kindAt_15 : decode cX8_kindAt 15 = .ok (.aload_n 0, 1) := by decide +kernel
theorem dX8_kindAt_16 : decode cX8_kindAt 16 = .ok (.getfield 10, 3) := by decide +kernel
theorem dX8_kindAt_19 : decode cX8_kindAt 19 = .ok (.iload_n 1, 1) := by decide +kernel
theorem dX8_kindAt_20 : decode cX8_kindAt 20 = .ok (.invokevirtual 158, 3) := by decide +kernel
theorem dX8_kindAt_23 : decode cX8_kindAt 23 = .ok (.checkcast 68, 3) := by decide +kernel
theorem dX8_kindAt_26 : decode cX8_kindAt 26 = .ok (.goto 4, 3) := by decide +kernel
theorem dX8_kindAt_29 : decode cX8_kindAt 29 = .ok (.aconst_null, 1) := by decide +kernel
theorem dX8_kindAt_30 : decode cX8_kindAt 30 = .ok (.areturn, 1) := by decide +kernel
theorem dX8_thingAt_0 : decode cX8_thingAt 0 = .ok (.iload_n 1, 1) := by decide +kernel
theorem dX8_thingAt_1 : decode cX8_thingAt 1 = .ok (.ifCond .lt 28, 3) := by decide +kernel
theorem dX8_thingAt_4 : decode cX8_thingAt 4 = .ok (.iload_n 1, 1) := by decide +kernel
theorem dX8_thingAt_5 : decode cX8_thingAt 5 = .ok (.aload_n 0, 1) := by decide +kernel
theorem dX8_thingAt_6 : decode cX8_thingAt 6 = .ok (.getfield 16, 3) := by decide +kernel
theorem dX8_thingAt_9 : decode cX8_thingAt 9 = .ok (.invokevirtual 60, 3) := by decide +kernel
theorem dX8_thingAt_12 : decode cX8_thingAt 12 = .ok (.if_icmp .ge 17, 3) := by decide +kernel
theorem dX8_thingAt_15 : decode cX8_thingAt 15 = .ok (.aload_n 0, 1) := by decide +kernel
theorem dX8_thingAt_16 : decode cX8_thingAt 16 = .ok (.getfield 16, 3) := by decide +kernel
theorem dX8_thingAt_19 : decode cX8_thingAt 19 = .ok (.iload_n 1, 1) := by decide +kernel
theorem dX8_thingAt_20 : decode cX8_thingAt 20 = .ok (.invokevirtual 158, 3) := by decide +kernel
theorem dX8_thingAt_23 : decode cX8_thingAt 23 = .ok (.checkcast 81, 3) := by decide +kernel
theorem dX8_thingAt_26 : decode cX8_thingAt 26 = .ok (.goto 4, 3) := by decide +kernel
theorem dX8_thingAt_29 : decode cX8_thingAt 29 = .ok (.aconst_null, 1) := by decide +kernel
theorem dX8_thingAt_30 : decode cX8_thingAt 30 = .ok (.areturn, 1) := by decide +kernel
theorem dX8_memberAt_0 : decode cX8_memberAt 0 = .ok (.iload_n 1, 1) := by decide +kernel
theorem dX8_memberAt_1 : decode cX8_memberAt 1 = .ok (.ifCond .lt 28, 3) := by decide +kernel
theorem dX8_memberAt_4 : decode cX8_memberAt 4 = .ok (.iload_n 1, 1) := by decide +kernel
