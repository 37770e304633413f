theorem dX0_init_0 : decode cX0_init 0 = .ok (.aload_n 0, 1) := by decide +kernel
theorem dX0_init_1 : decode cX0_init 1 = .ok (.invokespecial 1, 3) := by decide +kernel
theorem dX0_init_4 : decode cX0_init 4 = .ok (.return_, 1) := by decide +kernel
theorem dX0_reset_0 : decode cX0_reset 0 = .ok (.aload_n 0, 1) := by decide +kernel
theorem dX0_reset_1 : decode cX0_reset 1 = .ok (.invokevirtual 7, 3) := by decide +kernel
theorem dX0_reset_4 : decode cX0_reset 4 = .ok (.aload_n 0, 1) := by decide +kernel
theorem dX0_reset_5 : decode cX0_reset 5 = .ok (.iconst 0, 1) := by decide +kernel
theorem dX0_reset_6 : decode cX0_reset 6 = .ok (.putfield 12, 3) := by decide +kernel
theorem dX0_reset_9 : decode cX0_reset 9 = .ok (.aload_n 0, 1) := by decide +kernel
theorem dX0_reset_10 : decode cX0_reset 10 = .ok (.iconst 0, 1) := by decide +kernel
theorem dX0_reset_11 : decode cX0_reset 11 = .ok (.putfield 16, 3) := by decide +kernel
theorem dX0_reset_14 : decode cX0_reset 14 = .ok (.aload_n 0, 1) := by decide +kernel
theorem dX0_reset_15 : decode cX0_reset 15 = .ok (.iconst 0, 1) := by decide +kernel
theorem dX0_reset_16 : decode cX0_reset 16 = .ok (.putfield 20, 3) := by decide +kernel
theorem dX0_reset_19 : decode cX0_reset 19 = .ok (.return_, 1) := by decide +kernel
theorem dX0_forget_0 : decode cX0_forget 0 = .ok (.aload_n 0, 1) := by decide +kernel
theorem dX0_forget_1 : decode cX0_forget 1 = .ok (.iconst 0, 1) := by decide +kernel
theorem dX0_forget_2 : decode cX0_forget 2 = .ok (.putfield 23, 3) := by decide +kernel
theorem dX0_forget_5 : decode cX0_forget 5 = .ok (.aload_n 0, 1) := by decide +kernel
theorem dX0_forget_6 : decode cX0_forget 6 = .ok (.lconst 0, 1) := by decide +kernel
theorem dX0_forget_7 : decode cX0_forget 7 = .ok (.putfield 26, 3) := by decide +kernel
theorem dX0_forget_10 : decode cX0_forget 10 = .ok (.return_, 1) := by decide +kernel
theorem dX0_hasSeen_0 : decode cX0_hasSeen 0 = .ok (.aload_n 0, 1) := by decide +kernel
theorem dX0_hasSeen_1 : decode cX0_hasSeen 1 = .ok (.getfield 26, 3) := by decide +kernel
theorem dX0_hasSeen_4 : decode cX0_hasSeen 4 = .ok (.iload_n 1, 1) := by decide +kernel
theorem dX0_hasSeen_5 : decode cX0_hasSeen 5 = .ok (.lshr, 1) := by decide +kernel
theorem dX0_hasSeen_6 : decode cX0_hasSeen 6 = .ok (.lconst 1, 1) := by decide +kernel
theorem dX0_hasSeen_7 : decode cX0_hasSeen 7 = .ok (.land, 1) := by decide +kernel
theorem dX0_hasSeen_8 : decode cX0_hasSeen 8 = .ok (.lconst 0, 1) := by decide +kernel
theorem dX0_hasSeen_9 : decode cX0_hasSeen 9 = .ok (.lcmp, 1) := by decide +kernel
theorem dX0_hasSeen_10 : decode cX0_hasSeen 10 = .ok (.ifCond .eq 7, 3) := by decide +kernel
theorem dX0_hasSeen_13 : decode cX0_hasSeen 13 = .ok (.iconst 1, 1) := by decide +kernel
theorem dX0_hasSeen_14 : decode cX0_hasSeen 14 = .ok (.goto 4, 3) := by decide +kernel
theorem dX0_hasSeen_17 : decode cX0_hasSeen 17 = .ok (.iconst 0, 1) := by decide +kernel
theorem dX0_hasSeen_18 : decode cX0_hasSeen 18 = .ok (.ireturn, 1) := by decide +kernel
theorem dX0_see_0 : decode cX0_see 0 = .ok (.aload_n 0, 1) := by decide +kernel
theorem dX0_see_1 : decode cX0_see 1 = .ok (.aload_n 0, 1) := by decide +kernel
theorem dX0_see_2 : decode cX0_see 2 = .ok (.getfield 26, 3) := by decide +kernel
theorem dX0_see_5 : decode cX0_see 5 = .ok (.lconst 1, 1) := by decide +kernel
theorem dX0_see_6 : decode cX0_see 6 = .ok (.iload_n 1, 1) := by decide +kernel
theorem dX0_see_7 : decode cX0_see 7 = .ok (.lshl, 1) := by decide +kernel
theorem dX0_see_8 : decode cX0_see 8 = .ok (.lor, 1) := by decide +kernel
theorem dX0_see_9 : decode cX0_see 9 = .ok (.putfield 26, 3) := by decide +kernel
theorem dX0_see_12 : decode cX0_see 12 = .ok (.return_, 1) := by decide +kernel
theorem dX0_stopAttempt_0 : decode cX0_stopAttempt 0 = .ok (.aload_n 0, 1) := by decide +kernel
theorem dX0_stopAttempt_1 : decode cX0_stopAttempt 1 = .ok (.dup, 1) := by decide +kernel
theorem dX0_stopAttempt_2 : decode cX0_stopAttempt 2 = .ok (.getfield 16, 3) := by decide +kernel
theorem dX0_stopAttempt_5 : decode cX0_stopAttempt 5 = .ok (.iconst 1, 1) := by decide +kernel
theorem dX0_stopAttempt_6 : decode cX0_stopAttempt 6 = .ok (.iadd, 1) := by decide +kernel
theorem dX0_stopAttempt_7 : decode cX0_stopAttempt 7 = .ok (.putfield 16, 3) := by decide +kernel
theorem dX0_stopAttempt_10 : decode cX0_stopAttempt 10 = .ok (.return_, 1) := by decide +kernel
theorem dX0_stopConnect_0 : decode cX0_stopConnect 0 = .ok (.aload_n 0, 1) := by decide +kernel
theorem dX0_stopConnect_1 : decode cX0_stopConnect 1 = .ok (.dup, 1) := by decide +kernel
theorem dX0_stopConnect_2 : decode cX0_stopConnect 2 = .ok (.getfield 16, 3) := by decide +kernel
theorem dX0_stopConnect_5 : decode cX0_stopConnect 5 = .ok (.iconst 1, 1) := by decide +kernel
theorem dX0_stopConnect_6 : decode cX0_stopConnect 6 = .ok (.iadd, 1) := by decide +kernel
theorem dX0_stopConnect_7 : decode cX0_stopConnect 7 = .ok (.putfield 16, 3) := by decide +kernel
theorem dX0_stopConnect_10 : decode cX0_stopConnect 10 = .ok (.iload_n 1, 1) := by decide +kernel
theorem dX0_stopConnect_11 : decode cX0_stopConnect 11 = .ok (.ifCond .eq 13, 3) := by decide +kernel
theorem dX0_stopConnect_14 : decode cX0_stopConnect 14 = .ok (.aload_n 0, 1) := by decide +kernel
theorem dX0_stopConnect_15 : decode cX0_stopConnect 15 = .ok (.dup, 1) := by decide +kernel
theorem dX0_stopConnect_16 : decode cX0_stopConnect 16 = .ok (.getfield 20, 3) := by decide +kernel
theorem dX0_stopConnect_19 : decode cX0_stopConnect 19 = .ok (.iconst 1, 1) := by decide +kernel
theorem dX0_stopConnect_20 : decode cX0_stopConnect 20 = .ok (.iadd, 1) := by decide +kernel
theorem dX0_stopConnect_21 : decode cX0_stopConnect 21 = .ok (.putfield 20, 3) := by decide +kernel
theorem dX0_stopConnect_24 : decode cX0_stopConnect 24 = .ok (.return_, 1) := by decide +kernel
theorem dX1_init_0 : decode cX1_init 0 = .ok (.aload_n 0, 1) := by decide +kernel
theorem dX1_init_1 : decode cX1_init 1 = .ok (.invokespecial 3, 3) := by decide +kernel
theorem dX1_init_4 : decode cX1_init 4 = .ok (.aload_n 0, 1) := by decide +kernel
theorem dX1_init_5 : decode cX1_init 5 = .ok (.bipush 59, 2) := by decide +kernel
theorem dX1_init_7 : decode cX1_init 7 = .ok (.newarray .int, 2) := by decide +kernel
theorem dX1_init_9 : decode cX1_init 9 = .ok (.putfield 9, 3) := by decide +kernel
theorem dX1_init_12 : decode cX1_init 12 = .ok (.aload_n 0, 1) := by decide +kernel
theorem dX1_init_13 : decode cX1_init 13 = .ok (.iconst 0, 1) := by decide +kernel
theorem dX1_init_14 : decode cX1_init 14 = .ok (.putfield 15, 3) := by decide +kernel
theorem dX1_init_17 : decode cX1_init 17 = .ok (.return_, 1) := by decide +kernel
theorem dX1_put_0 : decode cX1_put 0 = .ok (.aload_n 0, 1) := by decide +kernel
theorem dX1_put_1 : decode cX1_put 1 = .ok (.getfield 15, 3) := by decide +kernel
theorem dX1_put_4 : decode cX1_put 4 = .ok (.bipush 59, 2) := by decide +kernel
theorem dX1_put_6 : decode cX1_put 6 = .ok (.if_icmp .lt 5, 3) := by decide +kernel
theorem dX1_put_9 : decode cX1_put 9 = .ok (.iconst 0, 1) := by decide +kernel
theorem dX1_put_10 : decode cX1_put 10 = .ok (.ireturn, 1) := by decide +kernel
theorem dX1_put_11 : decode cX1_put 11 = .ok (.aload_n 0, 1) := by decide +kernel
theorem dX1_put_12 : decode cX1_put 12 = .ok (.getfield 9, 3) := by decide +kernel
theorem dX1_put_15 : decode cX1_put 15 = .ok (.aload_n 0, 1) := by decide +kernel
theorem dX1_put_16 : decode cX1_put 16 = .ok (.getfield 15, 3) := by decide +kernel
theorem dX1_put_19 : decode cX1_put 19 = .ok (.iload_n 1, 1) := by decide +kernel
theorem dX1_put_20 : decode cX1_put 20 = .ok (.iastore, 1) := by decide +kernel
theorem dX1_put_21 : decode cX1_put 21 = .ok (.aload_n 0, 1) := by decide +kernel
theorem dX1_put_22 : decode cX1_put 22 = .ok (.dup, 1) := by decide +kernel
theorem dX1_put_23 : decode cX1_put 23 = .ok (.getfield 15, 3) := by decide +kernel
theorem dX1_put_26 : decode cX1_put 26 = .ok (.iconst 1, 1) := by decide +kernel
theorem dX1_put_27 : decode cX1_put 27 = .ok (.iadd, 1) := by decide +kernel
theorem dX1_put_28 : decode cX1_put 28 = .ok (.putfield 15, 3) := by decide +kernel
theorem dX1_put_31 : decode cX1_put 31 = .ok (.iconst 1, 1) := by decide +kernel
theorem dX1_put_32 : decode cX1_put 32 = .ok (.ireturn, 1) := by decide +kernel
theorem dX1_findError_0 : decode cX1_findError 0 = .ok (.iconst 0, 1) := by decide +kernel
theorem dX1_findError_1 : decode cX1_findError 1 = .ok (.istore_n 1, 1) := by decide +kernel
theorem dX1_findError_2 : decode cX1_findError 2 = .ok (.iload_n 1, 1) := by decide +kernel
theorem dX1_findError_3 : decode cX1_findError 3 = .ok (.aload_n 0, 1) := by decide +kernel
theorem dX1_findError_4 : decode cX1_findError 4 = .ok (.getfield 15, 3) := by decide +kernel
theorem dX1_findError_7 : decode cX1_findError 7 = .ok (.if_icmp .ge 19, 3) := by decide +kernel
theorem dX1_findError_10 : decode cX1_findError 10 = .ok (.aload_n 0, 1) := by decide +kernel
theorem dX1_findError_11 : decode cX1_findError 11 = .ok (.iload_n 1, 1) := by decide +kernel
theorem dX1_findError_12 : decode cX1_findError 12 = .ok (.invokevirtual 19, 3) := by decide +kernel
theorem dX1_findError_15 : decode cX1_findError 15 = .ok (.ifCond .ne 5, 3) := by decide +kernel
theorem dX1_findError_18 : decode cX1_findError 18 = .ok (.iload_n 1, 1) := by decide +kernel
theorem dX1_findError_19 : decode cX1_findError 19 = .ok (.ireturn, 1) := by decide +kernel
theorem dX1_findError_20 : decode cX1_findError 20 = .ok (.iinc 1 1, 3) := by decide +kernel
theorem dX1_findError_23 : decode cX1_findError 23 = .ok (.goto (-21), 3) := by decide +kernel
theorem dX1_findError_26 : decode cX1_findError 26 = .ok (.aload_n 0, 1) := by decide +kernel
theorem dX1_findError_27 : decode cX1_findError 27 = .ok (.getfield 15, 3) := by decide +kernel
theorem dX1_findError_30 : decode cX1_findError 30 = .ok (.ireturn, 1) := by decide +kernel
theorem dX1_fits_0 : decode cX1_fits 0 = .ok (.aload_n 0, 1) := by decide +kernel
theorem dX1_fits_1 : decode cX1_fits 1 = .ok (.getfield 9, 3) := by decide +kernel
theorem dX1_fits_4 : decode cX1_fits 4 = .ok (.iload_n 1, 1) := by decide +kernel
theorem dX1_fits_5 : decode cX1_fits 5 = .ok (.iaload, 1) := by decide +kernel
theorem dX1_fits_6 : decode cX1_fits 6 = .ok (.istore_n 2, 1) := by decide +kernel
theorem dX1_fits_7 : decode cX1_fits 7 = .ok (.iload_n 1, 1) := by decide +kernel
theorem dX1_fits_8 : decode cX1_fits 8 = .ok (.bipush 6, 2) := by decide +kernel
theorem dX1_fits_10 : decode cX1_fits 10 = .ok (.irem, 1) := by decide +kernel
theorem dX1_fits_11 : decode cX1_fits 11 = .ok (.tableswitch 95 0 4 #[33, 42, 54, 63, 90], 33) := by decide +kernel
theorem dX1_fits_44 : decode cX1_fits 44 = .ok (.iload_n 2, 1) := by decide +kernel
theorem dX1_fits_45 : decode cX1_fits 45 = .ok (.bipush 48, 2) := by decide +kernel
theorem dX1_fits_47 : decode cX1_fits 47 = .ok (.bipush 55, 2) := by decide +kernel
theorem dX1_fits_49 : decode cX1_fits 49 = .ok (.invokestatic 23, 3) := by decide +kernel
theorem dX1_fits_52 : decode cX1_fits 52 = .ok (.ireturn, 1) := by decide +kernel
theorem dX1_fits_53 : decode cX1_fits 53 = .ok (.iload_n 2, 1) := by decide +kernel
theorem dX1_fits_54 : decode cX1_fits 54 = .ok (.bipush 62, 2) := by decide +kernel
theorem dX1_fits_56 : decode cX1_fits 56 = .ok (.if_icmp .ne 7, 3) := by decide +kernel
theorem dX1_fits_59 : decode cX1_fits 59 = .ok (.iconst 1, 1) := by decide +kernel
theorem dX1_fits_60 : decode cX1_fits 60 = .ok (.goto 4, 3) := by decide +kernel
theorem dX1_fits_63 : decode cX1_fits 63 = .ok (.iconst 0, 1) := by decide +kernel
theorem dX1_fits_64 : decode cX1_fits 64 = .ok (.ireturn, 1) := by decide +kernel
theorem dX1_fits_65 : decode cX1_fits 65 = .ok (.iload_n 2, 1) := by decide +kernel
theorem dX1_fits_66 : decode cX1_fits 66 = .ok (.bipush 48, 2) := by decide +kernel
theorem dX1_fits_68 : decode cX1_fits 68 = .ok (.bipush 51, 2) := by decide +kernel
theorem dX1_fits_70 : decode cX1_fits 70 = .ok (.invokestatic 23, 3) := by decide +kernel
theorem dX1_fits_73 : decode cX1_fits 73 = .ok (.ireturn, 1) := by decide +kernel
theorem dX1_fits_74 : decode cX1_fits 74 = .ok (.iload_n 2, 1) := by decide +kernel
theorem dX1_fits_75 : decode cX1_fits 75 = .ok (.bipush 48, 2) := by decide +kernel
theorem dX1_fits_77 : decode cX1_fits 77 = .ok (.aload_n 0, 1) := by decide +kernel
theorem dX1_fits_78 : decode cX1_fits 78 = .ok (.getfield 9, 3) := by decide +kernel
theorem dX1_fits_81 : decode cX1_fits 81 = .ok (.iload_n 1, 1) := by decide +kernel
theorem dX1_fits_82 : decode cX1_fits 82 = .ok (.iconst 1, 1) := by decide +kernel
theorem dX1_fits_83 : decode cX1_fits 83 = .ok (.isub, 1) := by decide +kernel
theorem dX1_fits_84 : decode cX1_fits 84 = .ok (.iaload, 1) := by decide +kernel
theorem dX1_fits_85 : decode cX1_fits 85 = .ok (.bipush 51, 2) := by decide +kernel
theorem dX1_fits_87 : decode cX1_fits 87 = .ok (.if_icmp .ne 8, 3) := by decide +kernel
theorem dX1_fits_90 : decode cX1_fits 90 = .ok (.bipush 49, 2) := by decide +kernel
theorem dX1_fits_92 : decode cX1_fits 92 = .ok (.goto 5, 3) := by decide +kernel
theorem dX1_fits_95 : decode cX1_fits 95 = .ok (.bipush 57, 2) := by decide +kernel
theorem dX1_fits_97 : decode cX1_fits 97 = .ok (.invokestatic 23, 3) := by decide +kernel
theorem dX1_fits_100 : decode cX1_fits 100 = .ok (.ireturn, 1) := by decide +kernel
theorem dX1_fits_101 : decode cX1_fits 101 = .ok (.iload_n 2, 1) := by decide +kernel
theorem dX1_fits_102 : decode cX1_fits 102 = .ok (.invokestatic 27, 3) := by decide +kernel
theorem dX1_fits_105 : decode cX1_fits 105 = .ok (.ireturn, 1) := by decide +kernel
theorem dX1_fits_106 : decode cX1_fits 106 = .ok (.iload_n 2, 1) := by decide +kernel
theorem dX1_fits_107 : decode cX1_fits 107 = .ok (.bipush 44, 2) := by decide +kernel
theorem dX1_fits_109 : decode cX1_fits 109 = .ok (.if_icmp .ne 7, 3) := by decide +kernel
theorem dX1_fits_112 : decode cX1_fits 112 = .ok (.iconst 1, 1) := by decide +kernel
theorem dX1_fits_113 : decode cX1_fits 113 = .ok (.goto 4, 3) := by decide +kernel
theorem dX1_fits_116 : decode cX1_fits 116 = .ok (.iconst 0, 1) := by decide +kernel
theorem dX1_fits_117 : decode cX1_fits 117 = .ok (.ireturn, 1) := by decide +kernel
theorem dX1_isOutcome_0 : decode cX1_isOutcome 0 = .ok (.iload_n 0, 1) := by decide +kernel
theorem dX1_isOutcome_1 : decode cX1_isOutcome 1 = .ok (.bipush 43, 2) := by decide +kernel
theorem dX1_isOutcome_3 : decode cX1_isOutcome 3 = .ok (.if_icmp .eq 9, 3) := by decide +kernel
theorem dX1_isOutcome_6 : decode cX1_isOutcome 6 = .ok (.iload_n 0, 1) := by decide +kernel
theorem dX1_isOutcome_7 : decode cX1_isOutcome 7 = .ok (.bipush 45, 2) := by decide +kernel
theorem dX1_isOutcome_9 : decode cX1_isOutcome 9 = .ok (.if_icmp .ne 7, 3) := by decide +kernel
theorem dX1_isOutcome_12 : decode cX1_isOutcome 12 = .ok (.iconst 1, 1) := by decide +kernel
theorem dX1_isOutcome_13 : decode cX1_isOutcome 13 = .ok (.goto 4, 3) := by decide +kernel
theorem dX1_isOutcome_16 : decode cX1_isOutcome 16 = .ok (.iconst 0, 1) := by decide +kernel
theorem dX1_isOutcome_17 : decode cX1_isOutcome 17 = .ok (.ireturn, 1) := by decide +kernel
theorem dX1_isComplete_0 : decode cX1_isComplete 0 = .ok (.aload_n 0, 1) := by decide +kernel
theorem dX1_isComplete_1 : decode cX1_isComplete 1 = .ok (.getfield 15, 3) := by decide +kernel
theorem dX1_isComplete_4 : decode cX1_isComplete 4 = .ok (.ifCond .le 35, 3) := by decide +kernel
theorem dX1_isComplete_7 : decode cX1_isComplete 7 = .ok (.aload_n 0, 1) := by decide +kernel
theorem dX1_isComplete_8 : decode cX1_isComplete 8 = .ok (.getfield 9, 3) := by decide +kernel
theorem dX1_isComplete_11 : decode cX1_isComplete 11 = .ok (.aload_n 0, 1) := by decide +kernel
theorem dX1_isComplete_12 : decode cX1_isComplete 12 = .ok (.getfield 15, 3) := by decide +kernel
theorem dX1_isComplete_15 : decode cX1_isComplete 15 = .ok (.iconst 1, 1) := by decide +kernel
theorem dX1_isComplete_16 : decode cX1_isComplete 16 = .ok (.isub, 1) := by decide +kernel
theorem dX1_isComplete_17 : decode cX1_isComplete 17 = .ok (.iaload, 1) := by decide +kernel
theorem dX1_isComplete_18 : decode cX1_isComplete 18 = .ok (.invokestatic 27, 3) := by decide +kernel
theorem dX1_isComplete_21 : decode cX1_isComplete 21 = .ok (.ifCond .eq 18, 3) := by decide +kernel
theorem dX1_isComplete_24 : decode cX1_isComplete 24 = .ok (.aload_n 0, 1) := by decide +kernel
theorem dX1_isComplete_25 : decode cX1_isComplete 25 = .ok (.invokevirtual 30, 3) := by decide +kernel
theorem dX1_isComplete_28 : decode cX1_isComplete 28 = .ok (.aload_n 0, 1) := by decide +kernel
theorem dX1_isComplete_29 : decode cX1_isComplete 29 = .ok (.getfield 15, 3) := by decide +kernel
theorem dX1_isComplete_32 : decode cX1_isComplete 32 = .ok (.if_icmp .ne 7, 3) := by decide +kernel
theorem dX1_isComplete_35 : decode cX1_isComplete 35 = .ok (.iconst 1, 1) := by decide +kernel
theorem dX1_isComplete_36 : decode cX1_isComplete 36 = .ok (.goto 4, 3) := by decide +kernel
theorem dX1_isComplete_39 : decode cX1_isComplete 39 = .ok (.iconst 0, 1) := by decide +kernel
theorem dX1_isComplete_40 : decode cX1_isComplete 40 = .ok (.ireturn, 1) := by decide +kernel
theorem dX1_sourceAt_0 : decode cX1_sourceAt 0 = .ok (.aload_n 0, 1) := by decide +kernel
theorem dX1_sourceAt_1 : decode cX1_sourceAt 1 = .ok (.getfield 9, 3) := by decide +kernel
theorem dX1_sourceAt_4 : decode cX1_sourceAt 4 = .ok (.iload_n 1, 1) := by decide +kernel
theorem dX1_sourceAt_5 : decode cX1_sourceAt 5 = .ok (.iaload, 1) := by decide +kernel
theorem dX1_sourceAt_6 : decode cX1_sourceAt 6 = .ok (.bipush 48, 2) := by decide +kernel
theorem dX1_sourceAt_8 : decode cX1_sourceAt 8 = .ok (.isub, 1) := by decide +kernel
theorem dX1_sourceAt_9 : decode cX1_sourceAt 9 = .ok (.ireturn, 1) := by decide +kernel
theorem dX1_destinationAt_0 : decode cX1_destinationAt 0 = .ok (.bipush 10, 2) := by decide +kernel
theorem dX1_destinationAt_2 : decode cX1_destinationAt 2 = .ok (.aload_n 0, 1) := by decide +kernel
theorem dX1_destinationAt_3 : decode cX1_destinationAt 3 = .ok (.getfield 9, 3) := by decide +kernel
theorem dX1_destinationAt_6 : decode cX1_destinationAt 6 = .ok (.iload_n 1, 1) := by decide +kernel
theorem dX1_destinationAt_7 : decode cX1_destinationAt 7 = .ok (.iconst 2, 1) := by decide +kernel
theorem dX1_destinationAt_8 : decode cX1_destinationAt 8 = .ok (.iadd, 1) := by decide +kernel
theorem dX1_destinationAt_9 : decode cX1_destinationAt 9 = .ok (.iaload, 1) := by decide +kernel
theorem dX1_destinationAt_10 : decode cX1_destinationAt 10 = .ok (.bipush 48, 2) := by decide +kernel
theorem dX1_destinationAt_12 : decode cX1_destinationAt 12 = .ok (.isub, 1) := by decide +kernel
theorem dX1_destinationAt_13 : decode cX1_destinationAt 13 = .ok (.imul, 1) := by decide +kernel
theorem dX1_destinationAt_14 : decode cX1_destinationAt 14 = .ok (.aload_n 0, 1) := by decide +kernel
theorem dX1_destinationAt_15 : decode cX1_destinationAt 15 = .ok (.getfield 9, 3) := by decide +kernel
theorem dX1_destinationAt_18 : decode cX1_destinationAt 18 = .ok (.iload_n 1, 1) := by decide +kernel
theorem dX1_destinationAt_19 : decode cX1_destinationAt 19 = .ok (.iconst 3, 1) := by decide +kernel
theorem dX1_destinationAt_20 : decode cX1_destinationAt 20 = .ok (.iadd, 1) := by decide +kernel
theorem dX1_destinationAt_21 : decode cX1_destinationAt 21 = .ok (.iaload, 1) := by decide +kernel
theorem dX1_destinationAt_22 : decode cX1_destinationAt 22 = .ok (.iadd, 1) := by decide +kernel
theorem dX1_destinationAt_23 : decode cX1_destinationAt 23 = .ok (.bipush 48, 2) := by decide +kernel
theorem dX1_destinationAt_25 : decode cX1_destinationAt 25 = .ok (.isub, 1) := by decide +kernel
theorem dX1_destinationAt_26 : decode cX1_destinationAt 26 = .ok (.ireturn, 1) := by decide +kernel
theorem dX1_successAt_0 : decode cX1_successAt 0 = .ok (.aload_n 0, 1) := by decide +kernel
theorem dX1_successAt_1 : decode cX1_successAt 1 = .ok (.getfield 9, 3) := by decide +kernel
theorem dX1_successAt_4 : decode cX1_successAt 4 = .ok (.iload_n 1, 1) := by decide +kernel
theorem dX1_successAt_5 : decode cX1_successAt 5 = .ok (.iconst 4, 1) := by decide +kernel
theorem dX1_successAt_6 : decode cX1_successAt 6 = .ok (.iadd, 1) := by decide +kernel
theorem dX1_successAt_7 : decode cX1_successAt 7 = .ok (.iaload, 1) := by decide +kernel
theorem dX1_successAt_8 : decode cX1_successAt 8 = .ok (.bipush 43, 2) := by decide +kernel
theorem dX1_successAt_10 : decode cX1_successAt 10 = .ok (.if_icmp .ne 7, 3) := by decide +kernel
theorem dX1_successAt_13 : decode cX1_successAt 13 = .ok (.iconst 1, 1) := by decide +kernel
theorem dX1_successAt_14 : decode cX1_successAt 14 = .ok (.goto 4, 3) := by decide +kernel
theorem dX1_successAt_17 : decode cX1_successAt 17 = .ok (.iconst 0, 1) := by decide +kernel
theorem dX1_successAt_18 : decode cX1_successAt 18 = .ok (.ireturn, 1) := by decide +kernel
theorem dX2_init_0 : decode cX2_init 0 = .ok (.aload_n 0, 1) := by decide +kernel
theorem dX2_init_1 : decode cX2_init 1 = .ok (.invokespecial 3, 3) := by decide +kernel
theorem dX2_init_4 : decode cX2_init 4 = .ok (.aload_n 0, 1) := by decide +kernel
theorem dX2_init_5 : decode cX2_init 5 = .ok (.bipush 12, 2) := by decide +kernel
theorem dX2_init_7 : decode cX2_init 7 = .ok (.newarray .int, 2) := by decide +kernel
theorem dX2_init_9 : decode cX2_init 9 = .ok (.putfield 9, 3) := by decide +kernel
theorem dX2_init_12 : decode cX2_init 12 = .ok (.aload_n 0, 1) := by decide +kernel
theorem dX2_init_13 : decode cX2_init 13 = .ok (.bipush 12, 2) := by decide +kernel
theorem dX2_init_15 : decode cX2_init 15 = .ok (.newarray .int, 2) := by decide +kernel
theorem dX2_init_17 : decode cX2_init 17 = .ok (.putfield 15, 3) := by decide +kernel
theorem dX2_init_20 : decode cX2_init 20 = .ok (.aload_n 0, 1) := by decide +kernel
theorem dX2_init_21 : decode cX2_init 21 = .ok (.bipush 12, 2) := by decide +kernel
theorem dX2_init_23 : decode cX2_init 23 = .ok (.newarray .int, 2) := by decide +kernel
theorem dX2_init_25 : decode cX2_init 25 = .ok (.putfield 18, 3) := by decide +kernel
theorem dX2_init_28 : decode cX2_init 28 = .ok (.aload_n 0, 1) := by decide +kernel
theorem dX2_init_29 : decode cX2_init 29 = .ok (.iconst 0, 1) := by decide +kernel
theorem dX2_init_30 : decode cX2_init 30 = .ok (.putfield 21, 3) := by decide +kernel
theorem dX2_init_33 : decode cX2_init 33 = .ok (.return_, 1) := by decide +kernel
theorem dX2_put_0 : decode cX2_put 0 = .ok (.aload_n 0, 1) := by decide +kernel
theorem dX2_put_1 : decode cX2_put 1 = .ok (.getfield 21, 3) := by decide +kernel
theorem dX2_put_4 : decode cX2_put 4 = .ok (.bipush 12, 2) := by decide +kernel
theorem dX2_put_6 : decode cX2_put 6 = .ok (.if_icmp .lt 5, 3) := by decide +kernel
theorem dX2_put_9 : decode cX2_put 9 = .ok (.iconst 0, 1) := by decide +kernel
theorem dX2_put_10 : decode cX2_put 10 = .ok (.ireturn, 1) := by decide +kernel
theorem dX2_put_11 : decode cX2_put 11 = .ok (.aload_n 0, 1) := by decide +kernel
theorem dX2_put_12 : decode cX2_put 12 = .ok (.getfield 9, 3) := by decide +kernel
theorem dX2_put_15 : decode cX2_put 15 = .ok (.aload_n 0, 1) := by decide +kernel
theorem dX2_put_16 : decode cX2_put 16 = .ok (.getfield 21, 3) := by decide +kernel
theorem dX2_put_19 : decode cX2_put 19 = .ok (.iload_n 1, 1) := by decide +kernel
theorem dX2_put_20 : decode cX2_put 20 = .ok (.iastore, 1) := by decide +kernel
theorem dX2_put_21 : decode cX2_put 21 = .ok (.aload_n 0, 1) := by decide +kernel
theorem dX2_put_22 : decode cX2_put 22 = .ok (.getfield 15, 3) := by decide +kernel
theorem dX2_put_25 : decode cX2_put 25 = .ok (.aload_n 0, 1) := by decide +kernel
theorem dX2_put_26 : decode cX2_put 26 = .ok (.getfield 21, 3) := by decide +kernel
theorem dX2_put_29 : decode cX2_put 29 = .ok (.iload_n 2, 1) := by decide +kernel
theorem dX2_put_30 : decode cX2_put 30 = .ok (.iastore, 1) := by decide +kernel
theorem dX2_put_31 : decode cX2_put 31 = .ok (.aload_n 0, 1) := by decide +kernel
theorem dX2_put_32 : decode cX2_put 32 = .ok (.getfield 18, 3) := by decide +kernel
theorem dX2_put_35 : decode cX2_put 35 = .ok (.aload_n 0, 1) := by decide +kernel
theorem dX2_put_36 : decode cX2_put 36 = .ok (.getfield 21, 3) := by decide +kernel
theorem dX2_put_39 : decode cX2_put 39 = .ok (.iload_n 3, 1) := by decide +kernel
theorem dX2_put_40 : decode cX2_put 40 = .ok (.iastore, 1) := by decide +kernel
theorem dX2_put_41 : decode cX2_put 41 = .ok (.aload_n 0, 1) := by decide +kernel
theorem dX2_put_42 : decode cX2_put 42 = .ok (.dup, 1) := by decide +kernel
theorem dX2_put_43 : decode cX2_put 43 = .ok (.getfield 21, 3) := by decide +kernel
theorem dX2_put_46 : decode cX2_put 46 = .ok (.iconst 1, 1) := by decide +kernel
theorem dX2_put_47 : decode cX2_put 47 = .ok (.iadd, 1) := by decide +kernel
theorem dX2_put_48 : decode cX2_put 48 = .ok (.putfield 21, 3) := by decide +kernel
theorem dX2_put_51 : decode cX2_put 51 = .ok (.iconst 1, 1) := by decide +kernel
theorem dX2_put_52 : decode cX2_put 52 = .ok (.ireturn, 1) := by decide +kernel
theorem dX2_find_0 : decode cX2_find 0 = .ok (.iconst 0, 1) := by decide +kernel
theorem dX2_find_1 : decode cX2_find 1 = .ok (.istore_n 3, 1) := by decide +kernel
theorem dX2_find_2 : decode cX2_find 2 = .ok (.iload_n 3, 1) := by decide +kernel
theorem dX2_find_3 : decode cX2_find 3 = .ok (.aload_n 0, 1) := by decide +kernel
theorem dX2_find_4 : decode cX2_find 4 = .ok (.getfield 21, 3) := by decide +kernel
theorem dX2_find_7 : decode cX2_find 7 = .ok (.if_icmp .ge 31, 3) := by decide +kernel
theorem dX2_find_10 : decode cX2_find 10 = .ok (.aload_n 0, 1) := by decide +kernel
theorem dX2_find_11 : decode cX2_find 11 = .ok (.getfield 9, 3) := by decide +kernel
theorem dX2_find_14 : decode cX2_find 14 = .ok (.iload_n 3, 1) := by decide +kernel
theorem dX2_find_15 : decode cX2_find 15 = .ok (.iaload, 1) := by decide +kernel
theorem dX2_find_16 : decode cX2_find 16 = .ok (.iload_n 1, 1) := by decide +kernel
theorem dX2_find_17 : decode cX2_find 17 = .ok (.if_icmp .ne 15, 3) := by decide +kernel
theorem dX2_find_20 : decode cX2_find 20 = .ok (.aload_n 0, 1) := by decide +kernel
theorem dX2_find_21 : decode cX2_find 21 = .ok (.getfield 15, 3) := by decide +kernel
theorem dX2_find_24 : decode cX2_find 24 = .ok (.iload_n 3, 1) := by decide +kernel
theorem dX2_find_25 : decode cX2_find 25 = .ok (.iaload, 1) := by decide +kernel
theorem dX2_find_26 : decode cX2_find 26 = .ok (.iload_n 2, 1) := by decide +kernel
theorem dX2_find_27 : decode cX2_find 27 = .ok (.if_icmp .ne 5, 3) := by decide +kernel
theorem dX2_find_30 : decode cX2_find 30 = .ok (.iload_n 3, 1) := by decide +kernel
theorem dX2_find_31 : decode cX2_find 31 = .ok (.ireturn, 1) := by decide +kernel
theorem dX2_find_32 : decode cX2_find 32 = .ok (.iinc 3 1, 3) := by decide +kernel
theorem dX2_find_35 : decode cX2_find 35 = .ok (.goto (-33), 3) := by decide +kernel
theorem dX2_find_38 : decode cX2_find 38 = .ok (.iconst (-1), 1) := by decide +kernel
theorem dX2_find_39 : decode cX2_find 39 = .ok (.ireturn, 1) := by decide +kernel
theorem dX2_firstDue_0 : decode cX2_firstDue 0 = .ok (.iconst 0, 1) := by decide +kernel
theorem dX2_firstDue_1 : decode cX2_firstDue 1 = .ok (.istore_n 2, 1) := by decide +kernel
theorem dX2_firstDue_2 : decode cX2_firstDue 2 = .ok (.iload_n 2, 1) := by decide +kernel
theorem dX2_firstDue_3 : decode cX2_firstDue 3 = .ok (.aload_n 0, 1) := by decide +kernel
theorem dX2_firstDue_4 : decode cX2_firstDue 4 = .ok (.getfield 21, 3) := by decide +kernel
theorem dX2_firstDue_7 : decode cX2_firstDue 7 = .ok (.if_icmp .ge 21, 3) := by decide +kernel
theorem dX2_firstDue_10 : decode cX2_firstDue 10 = .ok (.aload_n 0, 1) := by decide +kernel
theorem dX2_firstDue_11 : decode cX2_firstDue 11 = .ok (.getfield 18, 3) := by decide +kernel
theorem dX2_firstDue_14 : decode cX2_firstDue 14 = .ok (.iload_n 2, 1) := by decide +kernel
theorem dX2_firstDue_15 : decode cX2_firstDue 15 = .ok (.iaload, 1) := by decide +kernel
theorem dX2_firstDue_16 : decode cX2_firstDue 16 = .ok (.iload_n 1, 1) := by decide +kernel
theorem dX2_firstDue_17 : decode cX2_firstDue 17 = .ok (.if_icmp .ne 5, 3) := by decide +kernel
theorem dX2_firstDue_20 : decode cX2_firstDue 20 = .ok (.iload_n 2, 1) := by decide +kernel
theorem dX2_firstDue_21 : decode cX2_firstDue 21 = .ok (.ireturn, 1) := by decide +kernel
theorem dX2_firstDue_22 : decode cX2_firstDue 22 = .ok (.iinc 2 1, 3) := by decide +kernel
theorem dX2_firstDue_25 : decode cX2_firstDue 25 = .ok (.goto (-23), 3) := by decide +kernel
theorem dX2_firstDue_28 : decode cX2_firstDue 28 = .ok (.iconst (-1), 1) := by decide +kernel
theorem dX2_firstDue_29 : decode cX2_firstDue 29 = .ok (.ireturn, 1) := by decide +kernel
theorem dX2_drop_0 : decode cX2_drop 0 = .ok (.iload_n 1, 1) := by decide +kernel
theorem dX2_drop_1 : decode cX2_drop 1 = .ok (.ifCond .lt 11, 3) := by decide +kernel
theorem dX2_drop_4 : decode cX2_drop 4 = .ok (.iload_n 1, 1) := by decide +kernel
theorem dX2_drop_5 : decode cX2_drop 5 = .ok (.aload_n 0, 1) := by decide +kernel
theorem dX2_drop_6 : decode cX2_drop 6 = .ok (.getfield 21, 3) := by decide +kernel
theorem dX2_drop_9 : decode cX2_drop 9 = .ok (.if_icmp .lt 4, 3) := by decide +kernel
theorem dX2_drop_12 : decode cX2_drop 12 = .ok (.return_, 1) := by decide +kernel
theorem dX2_drop_13 : decode cX2_drop 13 = .ok (.aload_n 0, 1) := by decide +kernel
theorem dX2_drop_14 : decode cX2_drop 14 = .ok (.dup, 1) := by decide +kernel
theorem dX2_drop_15 : decode cX2_drop 15 = .ok (.getfield 21, 3) := by decide +kernel
theorem dX2_drop_18 : decode cX2_drop 18 = .ok (.iconst 1, 1) := by decide +kernel
theorem dX2_drop_19 : decode cX2_drop 19 = .ok (.isub, 1) := by decide +kernel
theorem dX2_drop_20 : decode cX2_drop 20 = .ok (.putfield 21, 3) := by decide +kernel
theorem dX2_drop_23 : decode cX2_drop 23 = .ok (.iload_n 1, 1) := by decide +kernel
theorem dX2_drop_24 : decode cX2_drop 24 = .ok (.istore_n 2, 1) := by decide +kernel
theorem dX2_drop_25 : decode cX2_drop 25 = .ok (.iload_n 2, 1) := by decide +kernel
theorem dX2_drop_26 : decode cX2_drop 26 = .ok (.aload_n 0, 1) := by decide +kernel
theorem dX2_drop_27 : decode cX2_drop 27 = .ok (.getfield 21, 3) := by decide +kernel
theorem dX2_drop_30 : decode cX2_drop 30 = .ok (.if_icmp .ge 51, 3) := by decide +kernel
theorem dX2_drop_33 : decode cX2_drop 33 = .ok (.aload_n 0, 1) := by decide +kernel
theorem dX2_drop_34 : decode cX2_drop 34 = .ok (.getfield 9, 3) := by decide +kernel
theorem dX2_drop_37 : decode cX2_drop 37 = .ok (.iload_n 2, 1) := by decide +kernel
theorem dX2_drop_38 : decode cX2_drop 38 = .ok (.aload_n 0, 1) := by decide +kernel
theorem dX2_drop_39 : decode cX2_drop 39 = .ok (.getfield 9, 3) := by decide +kernel
theorem dX2_drop_42 : decode cX2_drop 42 = .ok (.iload_n 2, 1) := by decide +kernel
theorem dX2_drop_43 : decode cX2_drop 43 = .ok (.iconst 1, 1) := by decide +kernel
theorem dX2_drop_44 : decode cX2_drop 44 = .ok (.iadd, 1) := by decide +kernel
theorem dX2_drop_45 : decode cX2_drop 45 = .ok (.iaload, 1) := by decide +kernel
theorem dX2_drop_46 : decode cX2_drop 46 = .ok (.iastore, 1) := by decide +kernel
theorem dX2_drop_47 : decode cX2_drop 47 = .ok (.aload_n 0, 1) := by decide +kernel
theorem dX2_drop_48 : decode cX2_drop 48 = .ok (.getfield 15, 3) := by decide +kernel
theorem dX2_drop_51 : decode cX2_drop 51 = .ok (.iload_n 2, 1) := by decide +kernel
theorem dX2_drop_52 : decode cX2_drop 52 = .ok (.aload_n 0, 1) := by decide +kernel
theorem dX2_drop_53 : decode cX2_drop 53 = .ok (.getfield 15, 3) := by decide +kernel
theorem dX2_drop_56 : decode cX2_drop 56 = .ok (.iload_n 2, 1) := by decide +kernel
theorem dX2_drop_57 : decode cX2_drop 57 = .ok (.iconst 1, 1) := by decide +kernel
theorem dX2_drop_58 : decode cX2_drop 58 = .ok (.iadd, 1) := by decide +kernel
theorem dX2_drop_59 : decode cX2_drop 59 = .ok (.iaload, 1) := by decide +kernel
theorem dX2_drop_60 : decode cX2_drop 60 = .ok (.iastore, 1) := by decide +kernel
theorem dX2_drop_61 : decode cX2_drop 61 = .ok (.aload_n 0, 1) := by decide +kernel
theorem dX2_drop_62 : decode cX2_drop 62 = .ok (.getfield 18, 3) := by decide +kernel
theorem dX2_drop_65 : decode cX2_drop 65 = .ok (.iload_n 2, 1) := by decide +kernel
theorem dX2_drop_66 : decode cX2_drop 66 = .ok (.aload_n 0, 1) := by decide +kernel
theorem dX2_drop_67 : decode cX2_drop 67 = .ok (.getfield 18, 3) := by decide +kernel
theorem dX2_drop_70 : decode cX2_drop 70 = .ok (.iload_n 2, 1) := by decide +kernel
theorem dX2_drop_71 : decode cX2_drop 71 = .ok (.iconst 1, 1) := by decide +kernel
theorem dX2_drop_72 : decode cX2_drop 72 = .ok (.iadd, 1) := by decide +kernel
theorem dX2_drop_73 : decode cX2_drop 73 = .ok (.iaload, 1) := by decide +kernel
theorem dX2_drop_74 : decode cX2_drop 74 = .ok (.iastore, 1) := by decide +kernel
theorem dX2_drop_75 : decode cX2_drop 75 = .ok (.iinc 2 1, 3) := by decide +kernel
theorem dX2_drop_78 : decode cX2_drop 78 = .ok (.goto (-53), 3) := by decide +kernel
theorem dX2_drop_81 : decode cX2_drop 81 = .ok (.return_, 1) := by decide +kernel
theorem dX3_init_0 : decode cX3_init 0 = .ok (.aload_n 0, 1) := by decide +kernel
theorem dX3_init_1 : decode cX3_init 1 = .ok (.invokespecial 3, 3) := by decide +kernel
theorem dX3_init_4 : decode cX3_init 4 = .ok (.aload_n 0, 1) := by decide +kernel
theorem dX3_init_5 : decode cX3_init 5 = .ok (.bipush 16, 2) := by decide +kernel
theorem dX3_init_7 : decode cX3_init 7 = .ok (.newarray .int, 2) := by decide +kernel
theorem dX3_init_9 : decode cX3_init 9 = .ok (.putfield 9, 3) := by decide +kernel
theorem dX3_init_12 : decode cX3_init 12 = .ok (.aload_n 0, 1) := by decide +kernel
theorem dX3_init_13 : decode cX3_init 13 = .ok (.iconst 0, 1) := by decide +kernel
theorem dX3_init_14 : decode cX3_init 14 = .ok (.putfield 15, 3) := by decide +kernel
theorem dX3_init_17 : decode cX3_init 17 = .ok (.return_, 1) := by decide +kernel
theorem dX3_note_0 : decode cX3_note 0 = .ok (.aload_n 0, 1) := by decide +kernel
theorem dX3_note_1 : decode cX3_note 1 = .ok (.getfield 9, 3) := by decide +kernel
theorem dX3_note_4 : decode cX3_note 4 = .ok (.aload_n 0, 1) := by decide +kernel
theorem dX3_note_5 : decode cX3_note 5 = .ok (.getfield 15, 3) := by decide +kernel
theorem dX3_note_8 : decode cX3_note 8 = .ok (.bipush 16, 2) := by decide +kernel
theorem dX3_note_10 : decode cX3_note 10 = .ok (.invokestatic 19, 3) := by decide +kernel
theorem dX3_note_13 : decode cX3_note 13 = .ok (.iload_n 1, 1) := by decide +kernel
theorem dX3_note_14 : decode cX3_note 14 = .ok (.iastore, 1) := by decide +kernel
theorem dX3_note_15 : decode cX3_note 15 = .ok (.aload_n 0, 1) := by decide +kernel
theorem dX3_note_16 : decode cX3_note 16 = .ok (.dup, 1) := by decide +kernel
theorem dX3_note_17 : decode cX3_note 17 = .ok (.getfield 15, 3) := by decide +kernel
theorem dX3_note_20 : decode cX3_note 20 = .ok (.iconst 1, 1) := by decide +kernel
theorem dX3_note_21 : decode cX3_note 21 = .ok (.iadd, 1) := by decide +kernel
theorem dX3_note_22 : decode cX3_note 22 = .ok (.putfield 15, 3) := by decide +kernel
theorem dX3_note_25 : decode cX3_note 25 = .ok (.return_, 1) := by decide +kernel
theorem dX3_kept_0 : decode cX3_kept 0 = .ok (.aload_n 0, 1) := by decide +kernel
theorem dX3_kept_1 : decode cX3_kept 1 = .ok (.getfield 15, 3) := by decide +kernel
theorem dX3_kept_4 : decode cX3_kept 4 = .ok (.bipush 16, 2) := by decide +kernel
theorem dX3_kept_6 : decode cX3_kept 6 = .ok (.if_icmp .ge 10, 3) := by decide +kernel
theorem dX3_kept_9 : decode cX3_kept 9 = .ok (.aload_n 0, 1) := by decide +kernel
theorem dX3_kept_10 : decode cX3_kept 10 = .ok (.getfield 15, 3) := by decide +kernel
theorem dX3_kept_13 : decode cX3_kept 13 = .ok (.goto 5, 3) := by decide +kernel
theorem dX3_kept_16 : decode cX3_kept 16 = .ok (.bipush 16, 2) := by decide +kernel
theorem dX3_kept_18 : decode cX3_kept 18 = .ok (.ireturn, 1) := by decide +kernel
theorem dX3_recall_0 : decode cX3_recall 0 = .ok (.aload_n 0, 1) := by decide +kernel
theorem dX3_recall_1 : decode cX3_recall 1 = .ok (.getfield 9, 3) := by decide +kernel
theorem dX3_recall_4 : decode cX3_recall 4 = .ok (.aload_n 0, 1) := by decide +kernel
theorem dX3_recall_5 : decode cX3_recall 5 = .ok (.getfield 15, 3) := by decide +kernel
theorem dX3_recall_8 : decode cX3_recall 8 = .ok (.iconst 1, 1) := by decide +kernel
theorem dX3_recall_9 : decode cX3_recall 9 = .ok (.isub, 1) := by decide +kernel
theorem dX3_recall_10 : decode cX3_recall 10 = .ok (.iload_n 1, 1) := by decide +kernel
theorem dX3_recall_11 : decode cX3_recall 11 = .ok (.isub, 1) := by decide +kernel
theorem dX3_recall_12 : decode cX3_recall 12 = .ok (.bipush 16, 2) := by decide +kernel
theorem dX3_recall_14 : decode cX3_recall 14 = .ok (.invokestatic 19, 3) := by decide +kernel
theorem dX3_recall_17 : decode cX3_recall 17 = .ok (.iaload, 1) := by decide +kernel
theorem dX3_recall_18 : decode cX3_recall 18 = .ok (.ireturn, 1) := by decide +kernel
theorem dX4_init_0 : decode cX4_init 0 = .ok (.aload_n 0, 1) := by decide +kernel
theorem dX4_init_1 : decode cX4_init 1 = .ok (.invokespecial 3, 3) := by decide +kernel
theorem dX4_init_4 : decode cX4_init 4 = .ok (.aload_n 0, 1) := by decide +kernel
theorem dX4_init_5 : decode cX4_init 5 = .ok (.bipush 119, 2) := by decide +kernel
theorem dX4_init_7 : decode cX4_init 7 = .ok (.newarray .int, 2) := by decide +kernel
theorem dX4_init_9 : decode cX4_init 9 = .ok (.putfield 11, 3) := by decide +kernel
theorem dX4_init_12 : decode cX4_init 12 = .ok (.aload_n 0, 1) := by decide +kernel
theorem dX4_init_13 : decode cX4_init 13 = .ok (.bipush 119, 2) := by decide +kernel
theorem dX4_init_15 : decode cX4_init 15 = .ok (.newarray .int, 2) := by decide +kernel
theorem dX4_init_17 : decode cX4_init 17 = .ok (.putfield 15, 3) := by decide +kernel
theorem dX4_init_20 : decode cX4_init 20 = .ok (.aload_n 0, 1) := by decide +kernel
theorem dX4_init_21 : decode cX4_init 21 = .ok (.bipush 119, 2) := by decide +kernel
theorem dX4_init_23 : decode cX4_init 23 = .ok (.newarray .double, 2) := by decide +kernel
theorem dX4_init_25 : decode cX4_init 25 = .ok (.putfield 18, 3) := by decide +kernel
theorem dX4_init_28 : decode cX4_init 28 = .ok (.aload_n 0, 1) := by decide +kernel
theorem dX4_init_29 : decode cX4_init 29 = .ok (.bipush 119, 2) := by decide +kernel
theorem dX4_init_31 : decode cX4_init 31 = .ok (.newarray .double, 2) := by decide +kernel
theorem dX4_init_33 : decode cX4_init 33 = .ok (.putfield 22, 3) := by decide +kernel
theorem dX4_init_36 : decode cX4_init 36 = .ok (.aload_n 0, 1) := by decide +kernel
theorem dX4_init_37 : decode cX4_init 37 = .ok (.iconst 3, 1) := by decide +kernel
theorem dX4_init_38 : decode cX4_init 38 = .ok (.iconst 2, 1) := by decide +kernel
theorem dX4_init_39 : decode cX4_init 39 = .ok (.bipush 12, 2) := by decide +kernel
theorem dX4_init_41 : decode cX4_init 41 = .ok (.bipush (-8), 2) := by decide +kernel
theorem dX4_init_43 : decode cX4_init 43 = .ok (.invokevirtual 25, 3) := by decide +kernel
theorem dX4_init_46 : decode cX4_init 46 = .ok (.return_, 1) := by decide +kernel
theorem dX4_setParameters_0 : decode cX4_setParameters 0 = .ok (.aload_n 0, 1) := by decide +kernel
theorem dX4_setParameters_1 : decode cX4_setParameters 1 = .ok (.iload_n 1, 1) := by decide +kernel
theorem dX4_setParameters_2 : decode cX4_setParameters 2 = .ok (.putfield 29, 3) := by decide +kernel
theorem dX4_setParameters_5 : decode cX4_setParameters 5 = .ok (.aload_n 0, 1) := by decide +kernel
theorem dX4_setParameters_6 : decode cX4_setParameters 6 = .ok (.iload_n 2, 1) := by decide +kernel
theorem dX4_setParameters_7 : decode cX4_setParameters 7 = .ok (.putfield 33, 3) := by decide +kernel
theorem dX4_setParameters_10 : decode cX4_setParameters 10 = .ok (.aload_n 0, 1) := by decide +kernel
theorem dX4_setParameters_11 : decode cX4_setParameters 11 = .ok (.iload_n 3, 1) := by decide +kernel
theorem dX4_setParameters_12 : decode cX4_setParameters 12 = .ok (.putfield 36, 3) := by decide +kernel
theorem dX4_setParameters_15 : decode cX4_setParameters 15 = .ok (.aload_n 0, 1) := by decide +kernel
theorem dX4_setParameters_16 : decode cX4_setParameters 16 = .ok (.iload 4, 2) := by decide +kernel
theorem dX4_setParameters_18 : decode cX4_setParameters 18 = .ok (.putfield 39, 3) := by decide +kernel
theorem dX4_setParameters_21 : decode cX4_setParameters 21 = .ok (.aload_n 0, 1) := by decide +kernel
theorem dX4_setParameters_22 : decode cX4_setParameters 22 = .ok (.iload_n 3, 1) := by decide +kernel
theorem dX4_setParameters_23 : decode cX4_setParameters 23 = .ok (.iload 4, 2) := by decide +kernel
theorem dX4_setParameters_25 : decode cX4_setParameters 25 = .ok (.isub, 1) := by decide +kernel
theorem dX4_setParameters_26 : decode cX4_setParameters 26 = .ok (.iconst 1, 1) := by decide +kernel
theorem dX4_setParameters_27 : decode cX4_setParameters 27 = .ok (.isub, 1) := by decide +kernel
theorem dX4_setParameters_28 : decode cX4_setParameters 28 = .ok (.putfield 42, 3) := by decide +kernel
theorem dX4_setParameters_31 : decode cX4_setParameters 31 = .ok (.return_, 1) := by decide +kernel
theorem dX4_after_0 : decode cX4_after 0 = .ok (.iload_n 2, 1) := by decide +kernel
theorem dX4_after_1 : decode cX4_after 1 = .ok (.ifCond .eq 12, 3) := by decide +kernel
theorem dX4_after_4 : decode cX4_after 4 = .ok (.iload_n 1, 1) := by decide +kernel
theorem dX4_after_5 : decode cX4_after 5 = .ok (.aload_n 0, 1) := by decide +kernel
theorem dX4_after_6 : decode cX4_after 6 = .ok (.getfield 33, 3) := by decide +kernel
theorem dX4_after_9 : decode cX4_after 9 = .ok (.isub, 1) := by decide +kernel
theorem dX4_after_10 : decode cX4_after 10 = .ok (.goto 9, 3) := by decide +kernel
theorem dX4_after_13 : decode cX4_after 13 = .ok (.iload_n 1, 1) := by decide +kernel
theorem dX4_after_14 : decode cX4_after 14 = .ok (.aload_n 0, 1) := by decide +kernel
theorem dX4_after_15 : decode cX4_after 15 = .ok (.getfield 29, 3) := by decide +kernel
theorem dX4_after_18 : decode cX4_after 18 = .ok (.iadd, 1) := by decide +kernel
theorem dX4_after_19 : decode cX4_after 19 = .ok (.ireturn, 1) := by decide +kernel
theorem dX4_verdictAt_0 : decode cX4_verdictAt 0 = .ok (.iload_n 1, 1) := by decide +kernel
theorem dX4_verdictAt_1 : decode cX4_verdictAt 1 = .ok (.aload_n 0, 1) := by decide +kernel
theorem dX4_verdictAt_2 : decode cX4_verdictAt 2 = .ok (.getfield 36, 3) := by decide +kernel
theorem dX4_verdictAt_5 : decode cX4_verdictAt 5 = .ok (.if_icmp .lt 5, 3) := by decide +kernel
theorem dX4_verdictAt_8 : decode cX4_verdictAt 8 = .ok (.iconst 1, 1) := by decide +kernel
theorem dX4_verdictAt_9 : decode cX4_verdictAt 9 = .ok (.ireturn, 1) := by decide +kernel
theorem dX4_verdictAt_10 : decode cX4_verdictAt 10 = .ok (.iload_n 1, 1) := by decide +kernel
theorem dX4_verdictAt_11 : decode cX4_verdictAt 11 = .ok (.aload_n 0, 1) := by decide +kernel
theorem dX4_verdictAt_12 : decode cX4_verdictAt 12 = .ok (.getfield 39, 3) := by decide +kernel
theorem dX4_verdictAt_15 : decode cX4_verdictAt 15 = .ok (.if_icmp .gt 7, 3) := by decide +kernel
theorem dX4_verdictAt_18 : decode cX4_verdictAt 18 = .ok (.iconst 2, 1) := by decide +kernel
theorem dX4_verdictAt_19 : decode cX4_verdictAt 19 = .ok (.goto 4, 3) := by decide +kernel
theorem dX4_verdictAt_22 : decode cX4_verdictAt 22 = .ok (.iconst 0, 1) := by decide +kernel
theorem dX4_verdictAt_23 : decode cX4_verdictAt 23 = .ok (.ireturn, 1) := by decide +kernel
theorem dX4_indexOfZero_0 : decode cX4_indexOfZero 0 = .ok (.aload_n 0, 1) := by decide +kernel
theorem dX4_indexOfZero_1 : decode cX4_indexOfZero 1 = .ok (.getfield 39, 3) := by decide +kernel
theorem dX4_indexOfZero_4 : decode cX4_indexOfZero 4 = .ok (.ineg, 1) := by decide +kernel
theorem dX4_indexOfZero_5 : decode cX4_indexOfZero 5 = .ok (.iconst 1, 1) := by decide +kernel
theorem dX4_indexOfZero_6 : decode cX4_indexOfZero 6 = .ok (.isub, 1) := by decide +kernel
theorem dX4_indexOfZero_7 : decode cX4_indexOfZero 7 = .ok (.ireturn, 1) := by decide +kernel
theorem dX4_sequencesWith_0 : decode cX4_sequencesWith 0 = .ok (.aload_n 0, 1) := by decide +kernel
theorem dX4_sequencesWith_1 : decode cX4_sequencesWith 1 = .ok (.getfield 11, 3) := by decide +kernel
theorem dX4_sequencesWith_4 : decode cX4_sequencesWith 4 = .ok (.iconst 0, 1) := by decide +kernel
theorem dX4_sequencesWith_5 : decode cX4_sequencesWith 5 = .ok (.invokestatic 45, 3) := by decide +kernel
theorem dX4_sequencesWith_8 : decode cX4_sequencesWith 8 = .ok (.aload_n 0, 1) := by decide +kernel
theorem dX4_sequencesWith_9 : decode cX4_sequencesWith 9 = .ok (.getfield 11, 3) := by decide +kernel
theorem dX4_sequencesWith_12 : decode cX4_sequencesWith 12 = .ok (.aload_n 0, 1) := by decide +kernel
theorem dX4_sequencesWith_13 : decode cX4_sequencesWith 13 = .ok (.invokevirtual 51, 3) := by decide +kernel
theorem dX4_sequencesWith_16 : decode cX4_sequencesWith 16 = .ok (.iconst 1, 1) := by decide +kernel
theorem dX4_sequencesWith_17 : decode cX4_sequencesWith 17 = .ok (.iastore, 1) := by decide +kernel
theorem dX4_sequencesWith_18 : decode cX4_sequencesWith 18 = .ok (.iconst 0, 1) := by decide +kernel
theorem dX4_sequencesWith_19 : decode cX4_sequencesWith 19 = .ok (.istore_n 3, 1) := by decide +kernel
theorem dX4_sequencesWith_20 : decode cX4_sequencesWith 20 = .ok (.iconst 0, 1) := by decide +kernel
theorem dX4_sequencesWith_21 : decode cX4_sequencesWith 21 = .ok (.istore 4, 2) := by decide +kernel
theorem dX4_sequencesWith_23 : decode cX4_sequencesWith 23 = .ok (.iconst 0, 1) := by decide +kernel
theorem dX4_sequencesWith_24 : decode cX4_sequencesWith 24 = .ok (.istore 5, 2) := by decide +kernel
theorem dX4_sequencesWith_26 : decode cX4_sequencesWith 26 = .ok (.iload 5, 2) := by decide +kernel
theorem dX4_sequencesWith_28 : decode cX4_sequencesWith 28 = .ok (.iload_n 1, 1) := by decide +kernel
theorem dX4_sequencesWith_29 : decode cX4_sequencesWith 29 = .ok (.if_icmp .ge 51, 3) := by decide +kernel
theorem dX4_sequencesWith_32 : decode cX4_sequencesWith 32 = .ok (.iconst 2, 1) := by decide +kernel
theorem dX4_sequencesWith_33 : decode cX4_sequencesWith 33 = .ok (.iload_n 3, 1) := by decide +kernel
theorem dX4_sequencesWith_34 : decode cX4_sequencesWith 34 = .ok (.imul, 1) := by decide +kernel
theorem dX4_sequencesWith_35 : decode cX4_sequencesWith 35 = .ok (.aload_n 0, 1) := by decide +kernel
theorem dX4_sequencesWith_36 : decode cX4_sequencesWith 36 = .ok (.aload_n 0, 1) := by decide +kernel
theorem dX4_sequencesWith_37 : decode cX4_sequencesWith 37 = .ok (.getfield 42, 3) := by decide +kernel
theorem dX4_sequencesWith_40 : decode cX4_sequencesWith 40 = .ok (.aload_n 0, 1) := by decide +kernel
theorem dX4_sequencesWith_41 : decode cX4_sequencesWith 41 = .ok (.getfield 29, 3) := by decide +kernel
theorem dX4_sequencesWith_44 : decode cX4_sequencesWith 44 = .ok (.isub, 1) := by decide +kernel
theorem dX4_sequencesWith_45 : decode cX4_sequencesWith 45 = .ok (.aload_n 0, 1) := by decide +kernel
theorem dX4_sequencesWith_46 : decode cX4_sequencesWith 46 = .ok (.getfield 42, 3) := by decide +kernel
theorem dX4_sequencesWith_49 : decode cX4_sequencesWith 49 = .ok (.invokevirtual 55, 3) := by decide +kernel
theorem dX4_sequencesWith_52 : decode cX4_sequencesWith 52 = .ok (.iadd, 1) := by decide +kernel
theorem dX4_sequencesWith_53 : decode cX4_sequencesWith 53 = .ok (.istore_n 3, 1) := by decide +kernel
theorem dX4_sequencesWith_54 : decode cX4_sequencesWith 54 = .ok (.iconst 2, 1) := by decide +kernel
theorem dX4_sequencesWith_55 : decode cX4_sequencesWith 55 = .ok (.iload 4, 2) := by decide +kernel
theorem dX4_sequencesWith_57 : decode cX4_sequencesWith 57 = .ok (.imul, 1) := by decide +kernel
theorem dX4_sequencesWith_58 : decode cX4_sequencesWith 58 = .ok (.aload_n 0, 1) := by decide +kernel
theorem dX4_sequencesWith_59 : decode cX4_sequencesWith 59 = .ok (.iconst 0, 1) := by decide +kernel
theorem dX4_sequencesWith_60 : decode cX4_sequencesWith 60 = .ok (.aload_n 0, 1) := by decide +kernel
theorem dX4_sequencesWith_61 : decode cX4_sequencesWith 61 = .ok (.getfield 33, 3) := by decide +kernel
theorem dX4_sequencesWith_64 : decode cX4_sequencesWith 64 = .ok (.invokevirtual 55, 3) := by decide +kernel
theorem dX4_sequencesWith_67 : decode cX4_sequencesWith 67 = .ok (.iadd, 1) := by decide +kernel
theorem dX4_sequencesWith_68 : decode cX4_sequencesWith 68 = .ok (.istore 4, 2) := by decide +kernel
theorem dX4_sequencesWith_70 : decode cX4_sequencesWith 70 = .ok (.aload_n 0, 1) := by decide +kernel
theorem dX4_sequencesWith_71 : decode cX4_sequencesWith 71 = .ok (.invokevirtual 59, 3) := by decide +kernel
theorem dX4_sequencesWith_74 : decode cX4_sequencesWith 74 = .ok (.iinc 5 1, 3) := by decide +kernel
theorem dX4_sequencesWith_77 : decode cX4_sequencesWith 77 = .ok (.goto (-51), 3) := by decide +kernel
theorem dX4_sequencesWith_80 : decode cX4_sequencesWith 80 = .ok (.iload_n 2, 1) := by decide +kernel
theorem dX4_sequencesWith_81 : decode cX4_sequencesWith 81 = .ok (.iconst 1, 1) := by decide +kernel
theorem dX4_sequencesWith_82 : decode cX4_sequencesWith 82 = .ok (.if_icmp .ne 5, 3) := by decide +kernel
theorem dX4_sequencesWith_85 : decode cX4_sequencesWith 85 = .ok (.iload_n 3, 1) := by decide +kernel
theorem dX4_sequencesWith_86 : decode cX4_sequencesWith 86 = .ok (.ireturn, 1) := by decide +kernel
theorem dX4_sequencesWith_87 : decode cX4_sequencesWith 87 = .ok (.iload_n 2, 1) := by decide +kernel
theorem dX4_sequencesWith_88 : decode cX4_sequencesWith 88 = .ok (.iconst 2, 1) := by decide +kernel
theorem dX4_sequencesWith_89 : decode cX4_sequencesWith 89 = .ok (.if_icmp .ne 8, 3) := by decide +kernel
theorem dX4_sequencesWith_92 : decode cX4_sequencesWith 92 = .ok (.iload 4, 2) := by decide +kernel
theorem dX4_sequencesWith_94 : decode cX4_sequencesWith 94 = .ok (.goto 12, 3) := by decide +kernel
theorem dX4_sequencesWith_97 : decode cX4_sequencesWith 97 = .ok (.aload_n 0, 1) := by decide +kernel
theorem dX4_sequencesWith_98 : decode cX4_sequencesWith 98 = .ok (.iconst 0, 1) := by decide +kernel
theorem dX4_sequencesWith_99 : decode cX4_sequencesWith 99 = .ok (.aload_n 0, 1) := by decide +kernel
theorem dX4_sequencesWith_100 : decode cX4_sequencesWith 100 = .ok (.getfield 42, 3) := by decide +kernel
theorem dX4_sequencesWith_103 : decode cX4_sequencesWith 103 = .ok (.invokevirtual 55, 3) := by decide +kernel
theorem dX4_sequencesWith_106 : decode cX4_sequencesWith 106 = .ok (.ireturn, 1) := by decide +kernel
theorem dX4_sumOfCounts_0 : decode cX4_sumOfCounts 0 = .ok (.iconst 0, 1) := by decide +kernel
theorem dX4_sumOfCounts_1 : decode cX4_sumOfCounts 1 = .ok (.istore_n 3, 1) := by decide +kernel
theorem dX4_sumOfCounts_2 : decode cX4_sumOfCounts 2 = .ok (.iload_n 1, 1) := by decide +kernel
theorem dX4_sumOfCounts_3 : decode cX4_sumOfCounts 3 = .ok (.iconst 0, 1) := by decide +kernel
theorem dX4_sumOfCounts_4 : decode cX4_sumOfCounts 4 = .ok (.invokestatic 62, 3) := by decide +kernel
theorem dX4_sumOfCounts_7 : decode cX4_sumOfCounts 7 = .ok (.istore 4, 2) := by decide +kernel
theorem dX4_sumOfCounts_9 : decode cX4_sumOfCounts 9 = .ok (.iload 4, 2) := by decide +kernel
theorem dX4_sumOfCounts_11 : decode cX4_sumOfCounts 11 = .ok (.iload_n 2, 1) := by decide +kernel
theorem dX4_sumOfCounts_12 : decode cX4_sumOfCounts 12 = .ok (.aload_n 0, 1) := by decide +kernel
theorem dX4_sumOfCounts_13 : decode cX4_sumOfCounts 13 = .ok (.getfield 42, 3) := by decide +kernel
theorem dX4_sumOfCounts_16 : decode cX4_sumOfCounts 16 = .ok (.invokestatic 67, 3) := by decide +kernel
theorem dX4_sumOfCounts_19 : decode cX4_sumOfCounts 19 = .ok (.if_icmp .ge 19, 3) := by decide +kernel
theorem dX4_sumOfCounts_22 : decode cX4_sumOfCounts 22 = .ok (.iload_n 3, 1) := by decide +kernel
theorem dX4_sumOfCounts_23 : decode cX4_sumOfCounts 23 = .ok (.aload_n 0, 1) := by decide +kernel
theorem dX4_sumOfCounts_24 : decode cX4_sumOfCounts 24 = .ok (.getfield 11, 3) := by decide +kernel
theorem dX4_sumOfCounts_27 : decode cX4_sumOfCounts 27 = .ok (.iload 4, 2) := by decide +kernel
theorem dX4_sumOfCounts_29 : decode cX4_sumOfCounts 29 = .ok (.iaload, 1) := by decide +kernel
theorem dX4_sumOfCounts_30 : decode cX4_sumOfCounts 30 = .ok (.iadd, 1) := by decide +kernel
theorem dX4_sumOfCounts_31 : decode cX4_sumOfCounts 31 = .ok (.istore_n 3, 1) := by decide +kernel
theorem dX4_sumOfCounts_32 : decode cX4_sumOfCounts 32 = .ok (.iinc 4 1, 3) := by decide +kernel
theorem dX4_sumOfCounts_35 : decode cX4_sumOfCounts 35 = .ok (.goto (-26), 3) := by decide +kernel
theorem dX4_sumOfCounts_38 : decode cX4_sumOfCounts 38 = .ok (.iload_n 3, 1) := by decide +kernel
theorem dX4_sumOfCounts_39 : decode cX4_sumOfCounts 39 = .ok (.ireturn, 1) := by decide +kernel
theorem dX4_stepCounts_0 : decode cX4_stepCounts 0 = .ok (.aload_n 0, 1) := by decide +kernel
theorem dX4_stepCounts_1 : decode cX4_stepCounts 1 = .ok (.getfield 15, 3) := by decide +kernel
theorem dX4_stepCounts_4 : decode cX4_stepCounts 4 = .ok (.astore_n 1, 1) := by decide +kernel
theorem dX4_stepCounts_5 : decode cX4_stepCounts 5 = .ok (.aload_n 1, 1) := by decide +kernel
theorem dX4_stepCounts_6 : decode cX4_stepCounts 6 = .ok (.iconst 0, 1) := by decide +kernel
theorem dX4_stepCounts_7 : decode cX4_stepCounts 7 = .ok (.invokestatic 45, 3) := by decide +kernel
theorem dX4_stepCounts_10 : decode cX4_stepCounts 10 = .ok (.iconst 0, 1) := by decide +kernel
theorem dX4_stepCounts_11 : decode cX4_stepCounts 11 = .ok (.istore_n 2, 1) := by decide +kernel
theorem dX4_stepCounts_12 : decode cX4_stepCounts 12 = .ok (.iload_n 2, 1) := by decide +kernel
theorem dX4_stepCounts_13 : decode cX4_stepCounts 13 = .ok (.aload_n 0, 1) := by decide +kernel
theorem dX4_stepCounts_14 : decode cX4_stepCounts 14 = .ok (.getfield 42, 3) := by decide +kernel
theorem dX4_stepCounts_17 : decode cX4_stepCounts 17 = .ok (.if_icmp .ge 65, 3) := by decide +kernel
theorem dX4_stepCounts_20 : decode cX4_stepCounts 20 = .ok (.iload_n 2, 1) := by decide +kernel
theorem dX4_stepCounts_21 : decode cX4_stepCounts 21 = .ok (.aload_n 0, 1) := by decide +kernel
theorem dX4_stepCounts_22 : decode cX4_stepCounts 22 = .ok (.getfield 29, 3) := by decide +kernel
theorem dX4_stepCounts_25 : decode cX4_stepCounts 25 = .ok (.iadd, 1) := by decide +kernel
theorem dX4_stepCounts_26 : decode cX4_stepCounts 26 = .ok (.aload_n 0, 1) := by decide +kernel
theorem dX4_stepCounts_27 : decode cX4_stepCounts 27 = .ok (.getfield 42, 3) := by decide +kernel
theorem dX4_stepCounts_30 : decode cX4_stepCounts 30 = .ok (.if_icmp .ge 20, 3) := by decide +kernel
theorem dX4_stepCounts_33 : decode cX4_stepCounts 33 = .ok (.aload_n 1, 1) := by decide +kernel
theorem dX4_stepCounts_34 : decode cX4_stepCounts 34 = .ok (.iload_n 2, 1) := by decide +kernel
theorem dX4_stepCounts_35 : decode cX4_stepCounts 35 = .ok (.aload_n 0, 1) := by decide +kernel
theorem dX4_stepCounts_36 : decode cX4_stepCounts 36 = .ok (.getfield 29, 3) := by decide +kernel
theorem dX4_stepCounts_39 : decode cX4_stepCounts 39 = .ok (.iadd, 1) := by decide +kernel
theorem dX4_stepCounts_40 : decode cX4_stepCounts 40 = .ok (.dup2, 1) := by decide +kernel
theorem dX4_stepCounts_41 : decode cX4_stepCounts 41 = .ok (.iaload, 1) := by decide +kernel
theorem dX4_stepCounts_42 : decode cX4_stepCounts 42 = .ok (.aload_n 0, 1) := by decide +kernel
theorem dX4_stepCounts_43 : decode cX4_stepCounts 43 = .ok (.getfield 11, 3) := by decide +kernel
theorem dX4_stepCounts_46 : decode cX4_stepCounts 46 = .ok (.iload_n 2, 1) := by decide +kernel
theorem dX4_stepCounts_47 : decode cX4_stepCounts 47 = .ok (.iaload, 1) := by decide +kernel
theorem dX4_stepCounts_48 : decode cX4_stepCounts 48 = .ok (.iadd, 1) := by decide +kernel
theorem dX4_stepCounts_49 : decode cX4_stepCounts 49 = .ok (.iastore, 1) := by decide +kernel
theorem dX4_stepCounts_50 : decode cX4_stepCounts 50 = .ok (.iload_n 2, 1) := by decide +kernel
theorem dX4_stepCounts_51 : decode cX4_stepCounts 51 = .ok (.aload_n 0, 1) := by decide +kernel
theorem dX4_stepCounts_52 : decode cX4_stepCounts 52 = .ok (.getfield 33, 3) := by decide +kernel
theorem dX4_stepCounts_55 : decode cX4_stepCounts 55 = .ok (.isub, 1) := by decide +kernel
theorem dX4_stepCounts_56 : decode cX4_stepCounts 56 = .ok (.ifCond .lt 20, 3) := by decide +kernel
theorem dX4_stepCounts_59 : decode cX4_stepCounts 59 = .ok (.aload_n 1, 1) := by decide +kernel
theorem dX4_stepCounts_60 : decode cX4_stepCounts 60 = .ok (.iload_n 2, 1) := by decide +kernel
theorem dX4_stepCounts_61 : decode cX4_stepCounts 61 = .ok (.aload_n 0, 1) := by decide +kernel
theorem dX4_stepCounts_62 : decode cX4_stepCounts 62 = .ok (.getfield 33, 3) := by decide +kernel
theorem dX4_stepCounts_65 : decode cX4_stepCounts 65 = .ok (.isub, 1) := by decide +kernel
theorem dX4_stepCounts_66 : decode cX4_stepCounts 66 = .ok (.dup2, 1) := by decide +kernel
theorem dX4_stepCounts_67 : decode cX4_stepCounts 67 = .ok (.iaload, 1) := by decide +kernel
theorem dX4_stepCounts_68 : decode cX4_stepCounts 68 = .ok (.aload_n 0, 1) := by decide +kernel
theorem dX4_stepCounts_69 : decode cX4_stepCounts 69 = .ok (.getfield 11, 3) := by decide +kernel
theorem dX4_stepCounts_72 : decode cX4_stepCounts 72 = .ok (.iload_n 2, 1) := by decide +kernel
theorem dX4_stepCounts_73 : decode cX4_stepCounts 73 = .ok (.iaload, 1) := by decide +kernel
theorem dX4_stepCounts_74 : decode cX4_stepCounts 74 = .ok (.iadd, 1) := by decide +kernel
theorem dX4_stepCounts_75 : decode cX4_stepCounts 75 = .ok (.iastore, 1) := by decide +kernel
theorem dX4_stepCounts_76 : decode cX4_stepCounts 76 = .ok (.iinc 2 1, 3) := by decide +kernel
theorem dX4_stepCounts_79 : decode cX4_stepCounts 79 = .ok (.goto (-67), 3) := by decide +kernel
theorem dX4_stepCounts_82 : decode cX4_stepCounts 82 = .ok (.aload_n 0, 1) := by decide +kernel
theorem dX4_stepCounts_83 : decode cX4_stepCounts 83 = .ok (.aload_n 0, 1) := by decide +kernel
theorem dX4_stepCounts_84 : decode cX4_stepCounts 84 = .ok (.getfield 11, 3) := by decide +kernel
theorem dX4_stepCounts_87 : decode cX4_stepCounts 87 = .ok (.putfield 15, 3) := by decide +kernel
theorem dX4_stepCounts_90 : decode cX4_stepCounts 90 = .ok (.aload_n 0, 1) := by decide +kernel
theorem dX4_stepCounts_91 : decode cX4_stepCounts 91 = .ok (.aload_n 1, 1) := by decide +kernel
theorem dX4_stepCounts_92 : decode cX4_stepCounts 92 = .ok (.putfield 11, 3) := by decide +kernel
theorem dX4_stepCounts_95 : decode cX4_stepCounts 95 = .ok (.return_, 1) := by decide +kernel
theorem dX4_chanceOfScanner_0 : decode cX4_chanceOfScanner 0 = .ok (.aload_n 0, 1) := by decide +kernel
theorem dX4_chanceOfScanner_1 : decode cX4_chanceOfScanner 1 = .ok (.invokevirtual 70, 3) := by decide +kernel
theorem dX4_chanceOfScanner_4 : decode cX4_chanceOfScanner 4 = .ok (.dconst 0, 1) := by decide +kernel
theorem dX4_chanceOfScanner_5 : decode cX4_chanceOfScanner 5 = .ok (.dstore 4, 2) := by decide +kernel
theorem dX4_chanceOfScanner_7 : decode cX4_chanceOfScanner 7 = .ok (.iconst 0, 1) := by decide +kernel
theorem dX4_chanceOfScanner_8 : decode cX4_chanceOfScanner 8 = .ok (.istore 6, 2) := by decide +kernel
theorem dX4_chanceOfScanner_10 : decode cX4_chanceOfScanner 10 = .ok (.iload 6, 2) := by decide +kernel
theorem dX4_chanceOfScanner_12 : decode cX4_chanceOfScanner 12 = .ok (.iload_n 3, 1) := by decide +kernel
theorem dX4_chanceOfScanner_13 : decode cX4_chanceOfScanner 13 = .ok (.if_icmp .ge 18, 3) := by decide +kernel
theorem dX4_chanceOfScanner_16 : decode cX4_chanceOfScanner 16 = .ok (.aload_n 0, 1) := by decide +kernel
theorem dX4_chanceOfScanner_17 : decode cX4_chanceOfScanner 17 = .ok (.dload_n 1, 1) := by decide +kernel
theorem dX4_chanceOfScanner_18 : decode cX4_chanceOfScanner 18 = .ok (.dload 4, 2) := by decide +kernel
theorem dX4_chanceOfScanner_20 : decode cX4_chanceOfScanner 20 = .ok (.invokevirtual 73, 3) := by decide +kernel
theorem dX4_chanceOfScanner_23 : decode cX4_chanceOfScanner 23 = .ok (.dstore 4, 2) := by decide +kernel
theorem dX4_chanceOfScanner_25 : decode cX4_chanceOfScanner 25 = .ok (.iinc 6 1, 3) := by decide +kernel
theorem dX4_chanceOfScanner_28 : decode cX4_chanceOfScanner 28 = .ok (.goto (-18), 3) := by decide +kernel
theorem dX4_chanceOfScanner_31 : decode cX4_chanceOfScanner 31 = .ok (.dload 4, 2) := by decide +kernel
theorem dX4_chanceOfScanner_33 : decode cX4_chanceOfScanner 33 = .ok (.dreturn, 1) := by decide +kernel
theorem dX4_meanContacts_0 : decode cX4_meanContacts 0 = .ok (.aload_n 0, 1) := by decide +kernel
theorem dX4_meanContacts_1 : decode cX4_meanContacts 1 = .ok (.invokevirtual 70, 3) := by decide +kernel
theorem dX4_meanContacts_4 : decode cX4_meanContacts 4 = .ok (.dconst 0, 1) := by decide +kernel
theorem dX4_meanContacts_5 : decode cX4_meanContacts 5 = .ok (.dstore 4, 2) := by decide +kernel
theorem dX4_meanContacts_7 : decode cX4_meanContacts 7 = .ok (.iconst 0, 1) := by decide +kernel
theorem dX4_meanContacts_8 : decode cX4_meanContacts 8 = .ok (.istore 6, 2) := by decide +kernel
theorem dX4_meanContacts_10 : decode cX4_meanContacts 10 = .ok (.iload 6, 2) := by decide +kernel
theorem dX4_meanContacts_12 : decode cX4_meanContacts 12 = .ok (.iload_n 3, 1) := by decide +kernel
theorem dX4_meanContacts_13 : decode cX4_meanContacts 13 = .ok (.if_icmp .ge 25, 3) := by decide +kernel
theorem dX4_meanContacts_16 : decode cX4_meanContacts 16 = .ok (.dload 4, 2) := by decide +kernel
theorem dX4_meanContacts_18 : decode cX4_meanContacts 18 = .ok (.aload_n 0, 1) := by decide +kernel
theorem dX4_meanContacts_19 : decode cX4_meanContacts 19 = .ok (.invokevirtual 77, 3) := by decide +kernel
theorem dX4_meanContacts_22 : decode cX4_meanContacts 22 = .ok (.dadd, 1) := by decide +kernel
theorem dX4_meanContacts_23 : decode cX4_meanContacts 23 = .ok (.dstore 4, 2) := by decide +kernel
theorem dX4_meanContacts_25 : decode cX4_meanContacts 25 = .ok (.aload_n 0, 1) := by decide +kernel
theorem dX4_meanContacts_26 : decode cX4_meanContacts 26 = .ok (.dload_n 1, 1) := by decide +kernel
theorem dX4_meanContacts_27 : decode cX4_meanContacts 27 = .ok (.dconst 0, 1) := by decide +kernel
theorem dX4_meanContacts_28 : decode cX4_meanContacts 28 = .ok (.invokevirtual 73, 3) := by decide +kernel
theorem dX4_meanContacts_31 : decode cX4_meanContacts 31 = .ok (.pop2, 1) := by decide +kernel
theorem dX4_meanContacts_32 : decode cX4_meanContacts 32 = .ok (.iinc 6 1, 3) := by decide +kernel
theorem dX4_meanContacts_35 : decode cX4_meanContacts 35 = .ok (.goto (-25), 3) := by decide +kernel
theorem dX4_meanContacts_38 : decode cX4_meanContacts 38 = .ok (.dload 4, 2) := by decide +kernel
theorem dX4_meanContacts_40 : decode cX4_meanContacts 40 = .ok (.dreturn, 1) := by decide +kernel
theorem dX4_startChances_0 : decode cX4_startChances 0 = .ok (.aload_n 0, 1) := by decide +kernel
theorem dX4_startChances_1 : decode cX4_startChances 1 = .ok (.getfield 18, 3) := by decide +kernel
theorem dX4_startChances_4 : decode cX4_startChances 4 = .ok (.dconst 0, 1) := by decide +kernel
theorem dX4_startChances_5 : decode cX4_startChances 5 = .ok (.invokestatic 81, 3) := by decide +kernel
theorem dX4_startChances_8 : decode cX4_startChances 8 = .ok (.aload_n 0, 1) := by decide +kernel
theorem dX4_startChances_9 : decode cX4_startChances 9 = .ok (.getfield 18, 3) := by decide +kernel
theorem dX4_startChances_12 : decode cX4_startChances 12 = .ok (.aload_n 0, 1) := by decide +kernel
theorem dX4_startChances_13 : decode cX4_startChances 13 = .ok (.invokevirtual 51, 3) := by decide +kernel
theorem dX4_startChances_16 : decode cX4_startChances 16 = .ok (.dconst 1, 1) := by decide +kernel
theorem dX4_startChances_17 : decode cX4_startChances 17 = .ok (.dastore, 1) := by decide +kernel
theorem dX4_startChances_18 : decode cX4_startChances 18 = .ok (.return_, 1) := by decide +kernel
theorem dX4_sumOfChances_0 : decode cX4_sumOfChances 0 = .ok (.dconst 0, 1) := by decide +kernel
theorem dX4_sumOfChances_1 : decode cX4_sumOfChances 1 = .ok (.dstore_n 1, 1) := by decide +kernel
theorem dX4_sumOfChances_2 : decode cX4_sumOfChances 2 = .ok (.iconst 0, 1) := by decide +kernel
theorem dX4_sumOfChances_3 : decode cX4_sumOfChances 3 = .ok (.istore_n 3, 1) := by decide +kernel
theorem dX4_sumOfChances_4 : decode cX4_sumOfChances 4 = .ok (.iload_n 3, 1) := by decide +kernel
theorem dX4_sumOfChances_5 : decode cX4_sumOfChances 5 = .ok (.aload_n 0, 1) := by decide +kernel
theorem dX4_sumOfChances_6 : decode cX4_sumOfChances 6 = .ok (.getfield 42, 3) := by decide +kernel
theorem dX4_sumOfChances_9 : decode cX4_sumOfChances 9 = .ok (.if_icmp .ge 18, 3) := by decide +kernel
theorem dX4_sumOfChances_12 : decode cX4_sumOfChances 12 = .ok (.dload_n 1, 1) := by decide +kernel
theorem dX4_sumOfChances_13 : decode cX4_sumOfChances 13 = .ok (.aload_n 0, 1) := by decide +kernel
theorem dX4_sumOfChances_14 : decode cX4_sumOfChances 14 = .ok (.getfield 18, 3) := by decide +kernel
theorem dX4_sumOfChances_17 : decode cX4_sumOfChances 17 = .ok (.iload_n 3, 1) := by decide +kernel
theorem dX4_sumOfChances_18 : decode cX4_sumOfChances 18 = .ok (.daload, 1) := by decide +kernel
theorem dX4_sumOfChances_19 : decode cX4_sumOfChances 19 = .ok (.dadd, 1) := by decide +kernel
theorem dX4_sumOfChances_20 : decode cX4_sumOfChances 20 = .ok (.dstore_n 1, 1) := by decide +kernel
theorem dX4_sumOfChances_21 : decode cX4_sumOfChances 21 = .ok (.iinc 3 1, 3) := by decide +kernel
theorem dX4_sumOfChances_24 : decode cX4_sumOfChances 24 = .ok (.goto (-20), 3) := by decide +kernel
theorem dX4_sumOfChances_27 : decode cX4_sumOfChances 27 = .ok (.dload_n 1, 1) := by decide +kernel
theorem dX4_sumOfChances_28 : decode cX4_sumOfChances 28 = .ok (.dreturn, 1) := by decide +kernel
theorem dX4_stepChances_0 : decode cX4_stepChances 0 = .ok (.dconst 1, 1) := by decide +kernel
theorem dX4_stepChances_1 : decode cX4_stepChances 1 = .ok (.dload_n 1, 1) := by decide +kernel
theorem dX4_stepChances_2 : decode cX4_stepChances 2 = .ok (.dsub, 1) := by decide +kernel
theorem dX4_stepChances_3 : decode cX4_stepChances 3 = .ok (.dstore 5, 2) := by decide +kernel
theorem dX4_stepChances_5 : decode cX4_stepChances 5 = .ok (.dload_n 3, 1) := by decide +kernel
theorem dX4_stepChances_6 : decode cX4_stepChances 6 = .ok (.dstore 7, 2) := by decide +kernel
theorem dX4_stepChances_8 : decode cX4_stepChances 8 = .ok (.aload_n 0, 1) := by decide +kernel
theorem dX4_stepChances_9 : decode cX4_stepChances 9 = .ok (.getfield 22, 3) := by decide +kernel
theorem dX4_stepChances_12 : decode cX4_stepChances 12 = .ok (.astore 9, 2) := by decide +kernel
theorem dX4_stepChances_14 : decode cX4_stepChances 14 = .ok (.aload 9, 2) := by decide +kernel
theorem dX4_stepChances_16 : decode cX4_stepChances 16 = .ok (.dconst 0, 1) := by decide +kernel
theorem dX4_stepChances_17 : decode cX4_stepChances 17 = .ok (.invokestatic 81, 3) := by decide +kernel
theorem dX4_stepChances_20 : decode cX4_stepChances 20 = .ok (.iconst 0, 1) := by decide +kernel
theorem dX4_stepChances_21 : decode cX4_stepChances 21 = .ok (.istore 10, 2) := by decide +kernel
theorem dX4_stepChances_23 : decode cX4_stepChances 23 = .ok (.iload 10, 2) := by decide +kernel
theorem dX4_stepChances_25 : decode cX4_stepChances 25 = .ok (.aload_n 0, 1) := by decide +kernel
theorem dX4_stepChances_26 : decode cX4_stepChances 26 = .ok (.getfield 42, 3) := by decide +kernel
theorem dX4_stepChances_29 : decode cX4_stepChances 29 = .ok (.if_icmp .ge 96, 3) := by decide +kernel
theorem dX4_stepChances_32 : decode cX4_stepChances 32 = .ok (.iload 10, 2) := by decide +kernel
theorem dX4_stepChances_34 : decode cX4_stepChances 34 = .ok (.aload_n 0, 1) := by decide +kernel
theorem dX4_stepChances_35 : decode cX4_stepChances 35 = .ok (.getfield 29, 3) := by decide +kernel
theorem dX4_stepChances_38 : decode cX4_stepChances 38 = .ok (.iadd, 1) := by decide +kernel
theorem dX4_stepChances_39 : decode cX4_stepChances 39 = .ok (.aload_n 0, 1) := by decide +kernel
theorem dX4_stepChances_40 : decode cX4_stepChances 40 = .ok (.getfield 42, 3) := by decide +kernel
theorem dX4_stepChances_43 : decode cX4_stepChances 43 = .ok (.if_icmp .lt 21, 3) := by decide +kernel
theorem dX4_stepChances_46 : decode cX4_stepChances 46 = .ok (.dload 7, 2) := by decide +kernel
theorem dX4_stepChances_48 : decode cX4_stepChances 48 = .ok (.aload_n 0, 1) := by decide +kernel
theorem dX4_stepChances_49 : decode cX4_stepChances 49 = .ok (.getfield 18, 3) := by decide +kernel
theorem dX4_stepChances_52 : decode cX4_stepChances 52 = .ok (.iload 10, 2) := by decide +kernel
theorem dX4_stepChances_54 : decode cX4_stepChances 54 = .ok (.daload, 1) := by decide +kernel
theorem dX4_stepChances_55 : decode cX4_stepChances 55 = .ok (.dload 5, 2) := by decide +kernel
theorem dX4_stepChances_57 : decode cX4_stepChances 57 = .ok (.dmul, 1) := by decide +kernel
theorem dX4_stepChances_58 : decode cX4_stepChances 58 = .ok (.dadd, 1) := by decide +kernel
theorem dX4_stepChances_59 : decode cX4_stepChances 59 = .ok (.dstore 7, 2) := by decide +kernel
theorem dX4_stepChances_61 : decode cX4_stepChances 61 = .ok (.goto 26, 3) := by decide +kernel
theorem dX4_stepChances_64 : decode cX4_stepChances 64 = .ok (.aload 9, 2) := by decide +kernel
theorem dX4_stepChances_66 : decode cX4_stepChances 66 = .ok (.iload 10, 2) := by decide +kernel
theorem dX4_stepChances_68 : decode cX4_stepChances 68 = .ok (.aload_n 0, 1) := by decide +kernel
theorem dX4_stepChances_69 : decode cX4_stepChances 69 = .ok (.getfield 29, 3) := by decide +kernel
theorem dX4_stepChances_72 : decode cX4_stepChances 72 = .ok (.iadd, 1) := by decide +kernel
theorem dX4_stepChances_73 : decode cX4_stepChances 73 = .ok (.dup2, 1) := by decide +kernel
theorem dX4_stepChances_74 : decode cX4_stepChances 74 = .ok (.daload, 1) := by decide +kernel
theorem dX4_stepChances_75 : decode cX4_stepChances 75 = .ok (.aload_n 0, 1) := by decide +kernel
theorem dX4_stepChances_76 : decode cX4_stepChances 76 = .ok (.getfield 18, 3) := by decide +kernel
theorem dX4_stepChances_79 : decode cX4_stepChances 79 = .ok (.iload 10, 2) := by decide +kernel
theorem dX4_stepChances_81 : decode cX4_stepChances 81 = .ok (.daload, 1) := by decide +kernel
theorem dX4_stepChances_82 : decode cX4_stepChances 82 = .ok (.dload 5, 2) := by decide +kernel
theorem dX4_stepChances_84 : decode cX4_stepChances 84 = .ok (.dmul, 1) := by decide +kernel
theorem dX4_stepChances_85 : decode cX4_stepChances 85 = .ok (.dadd, 1) := by decide +kernel
theorem dX4_stepChances_86 : decode cX4_stepChances 86 = .ok (.dastore, 1) := by decide +kernel
theorem dX4_stepChances_87 : decode cX4_stepChances 87 = .ok (.iload 10, 2) := by decide +kernel
theorem dX4_stepChances_89 : decode cX4_stepChances 89 = .ok (.aload_n 0, 1) := by decide +kernel
theorem dX4_stepChances_90 : decode cX4_stepChances 90 = .ok (.getfield 33, 3) := by decide +kernel
theorem dX4_stepChances_93 : decode cX4_stepChances 93 = .ok (.isub, 1) := by decide +kernel
theorem dX4_stepChances_94 : decode cX4_stepChances 94 = .ok (.ifCond .lt 25, 3) := by decide +kernel
theorem dX4_stepChances_97 : decode cX4_stepChances 97 = .ok (.aload 9, 2) := by decide +kernel
theorem dX4_stepChances_99 : decode cX4_stepChances 99 = .ok (.iload 10, 2) := by decide +kernel
theorem dX4_stepChances_101 : decode cX4_stepChances 101 = .ok (.aload_n 0, 1) := by decide +kernel
theorem dX4_stepChances_102 : decode cX4_stepChances 102 = .ok (.getfield 33, 3) := by decide +kernel
theorem dX4_stepChances_105 : decode cX4_stepChances 105 = .ok (.isub, 1) := by decide +kernel
theorem dX4_stepChances_106 : decode cX4_stepChances 106 = .ok (.dup2, 1) := by decide +kernel
theorem dX4_stepChances_107 : decode cX4_stepChances 107 = .ok (.daload, 1) := by decide +kernel
theorem dX4_stepChances_108 : decode cX4_stepChances 108 = .ok (.aload_n 0, 1) := by decide +kernel
theorem dX4_stepChances_109 : decode cX4_stepChances 109 = .ok (.getfield 18, 3) := by decide +kernel
theorem dX4_stepChances_112 : decode cX4_stepChances 112 = .ok (.iload 10, 2) := by decide +kernel
theorem dX4_stepChances_114 : decode cX4_stepChances 114 = .ok (.daload, 1) := by decide +kernel
theorem dX4_stepChances_115 : decode cX4_stepChances 115 = .ok (.dload_n 1, 1) := by decide +kernel
theorem dX4_stepChances_116 : decode cX4_stepChances 116 = .ok (.dmul, 1) := by decide +kernel
theorem dX4_stepChances_117 : decode cX4_stepChances 117 = .ok (.dadd, 1) := by decide +kernel
theorem dX4_stepChances_118 : decode cX4_stepChances 118 = .ok (.dastore, 1) := by decide +kernel
theorem dX4_stepChances_119 : decode cX4_stepChances 119 = .ok (.iinc 10 1, 3) := by decide +kernel
theorem dX4_stepChances_122 : decode cX4_stepChances 122 = .ok (.goto (-99), 3) := by decide +kernel
theorem dX4_stepChances_125 : decode cX4_stepChances 125 = .ok (.aload_n 0, 1) := by decide +kernel
theorem dX4_stepChances_126 : decode cX4_stepChances 126 = .ok (.aload_n 0, 1) := by decide +kernel
theorem dX4_stepChances_127 : decode cX4_stepChances 127 = .ok (.getfield 18, 3) := by decide +kernel
theorem dX4_stepChances_130 : decode cX4_stepChances 130 = .ok (.putfield 22, 3) := by decide +kernel
theorem dX4_stepChances_133 : decode cX4_stepChances 133 = .ok (.aload_n 0, 1) := by decide +kernel
theorem dX4_stepChances_134 : decode cX4_stepChances 134 = .ok (.aload 9, 2) := by decide +kernel
theorem dX4_stepChances_136 : decode cX4_stepChances 136 = .ok (.putfield 18, 3) := by decide +kernel
theorem dX4_stepChances_139 : decode cX4_stepChances 139 = .ok (.dload 7, 2) := by decide +kernel
theorem dX4_stepChances_141 : decode cX4_stepChances 141 = .ok (.dreturn, 1) := by decide +kernel
theorem dX5_init_0 : decode cX5_init 0 = .ok (.aload_n 0, 1) := by decide +kernel
theorem dX5_init_1 : decode cX5_init 1 = .ok (.invokespecial 1, 3) := by decide +kernel
theorem dX5_init_4 : decode cX5_init 4 = .ok (.aload_n 0, 1) := by decide +kernel
theorem dX5_init_5 : decode cX5_init 5 = .ok (.bipush 8, 2) := by decide +kernel
theorem dX5_init_7 : decode cX5_init 7 = .ok (.anewarray 9, 3) := by decide +kernel
theorem dX5_init_10 : decode cX5_init 10 = .ok (.putfield 11, 3) := by decide +kernel
theorem dX5_init_13 : decode cX5_init 13 = .ok (.iconst 0, 1) := by decide +kernel
theorem dX5_init_14 : decode cX5_init 14 = .ok (.istore_n 1, 1) := by decide +kernel
theorem dX5_init_15 : decode cX5_init 15 = .ok (.iload_n 1, 1) := by decide +kernel
theorem dX5_init_16 : decode cX5_init 16 = .ok (.aload_n 0, 1) := by decide +kernel
theorem dX5_init_17 : decode cX5_init 17 = .ok (.getfield 11, 3) := by decide +kernel
theorem dX5_init_20 : decode cX5_init 20 = .ok (.arraylength, 1) := by decide +kernel
theorem dX5_init_21 : decode cX5_init 21 = .ok (.if_icmp .ge 22, 3) := by decide +kernel
theorem dX5_init_24 : decode cX5_init 24 = .ok (.aload_n 0, 1) := by decide +kernel
theorem dX5_init_25 : decode cX5_init 25 = .ok (.getfield 11, 3) := by decide +kernel
theorem dX5_init_28 : decode cX5_init 28 = .ok (.iload_n 1, 1) := by decide +kernel
theorem dX5_init_29 : decode cX5_init 29 = .ok (.new 9, 3) := by decide +kernel
theorem dX5_init_32 : decode cX5_init 32 = .ok (.dup, 1) := by decide +kernel
theorem dX5_init_33 : decode cX5_init 33 = .ok (.invokespecial 15, 3) := by decide +kernel
theorem dX5_init_36 : decode cX5_init 36 = .ok (.aastore, 1) := by decide +kernel
theorem dX5_init_37 : decode cX5_init 37 = .ok (.iinc 1 1, 3) := by decide +kernel
theorem dX5_init_40 : decode cX5_init 40 = .ok (.goto (-25), 3) := by decide +kernel
theorem dX5_init_43 : decode cX5_init 43 = .ok (.aload_n 0, 1) := by decide +kernel
theorem dX5_init_44 : decode cX5_init 44 = .ok (.new 16, 3) := by decide +kernel
theorem dX5_init_47 : decode cX5_init 47 = .ok (.dup, 1) := by decide +kernel
theorem dX5_init_48 : decode cX5_init 48 = .ok (.invokespecial 18, 3) := by decide +kernel
theorem dX5_init_51 : decode cX5_init 51 = .ok (.putfield 19, 3) := by decide +kernel
theorem dX5_init_54 : decode cX5_init 54 = .ok (.aload_n 0, 1) := by decide +kernel
theorem dX5_init_55 : decode cX5_init 55 = .ok (.new 23, 3) := by decide +kernel
theorem dX5_init_58 : decode cX5_init 58 = .ok (.dup, 1) := by decide +kernel
theorem dX5_init_59 : decode cX5_init 59 = .ok (.invokespecial 25, 3) := by decide +kernel
theorem dX5_init_62 : decode cX5_init 62 = .ok (.putfield 26, 3) := by decide +kernel
theorem dX5_init_65 : decode cX5_init 65 = .ok (.aload_n 0, 1) := by decide +kernel
theorem dX5_init_66 : decode cX5_init 66 = .ok (.new 30, 3) := by decide +kernel
theorem dX5_init_69 : decode cX5_init 69 = .ok (.dup, 1) := by decide +kernel
theorem dX5_init_70 : decode cX5_init 70 = .ok (.invokespecial 32, 3) := by decide +kernel
theorem dX5_init_73 : decode cX5_init 73 = .ok (.putfield 33, 3) := by decide +kernel
theorem dX5_init_76 : decode cX5_init 76 = .ok (.aload_n 0, 1) := by decide +kernel
theorem dX5_init_77 : decode cX5_init 77 = .ok (.new 37, 3) := by decide +kernel
theorem dX5_init_80 : decode cX5_init 80 = .ok (.dup, 1) := by decide +kernel
theorem dX5_init_81 : decode cX5_init 81 = .ok (.invokespecial 39, 3) := by decide +kernel
theorem dX5_init_84 : decode cX5_init 84 = .ok (.putfield 40, 3) := by decide +kernel
theorem dX5_init_87 : decode cX5_init 87 = .ok (.aload_n 0, 1) := by decide +kernel
theorem dX5_init_88 : decode cX5_init 88 = .ok (.bipush 8, 2) := by decide +kernel
theorem dX5_init_90 : decode cX5_init 90 = .ok (.putfield 44, 3) := by decide +kernel
theorem dX5_init_93 : decode cX5_init 93 = .ok (.aload_n 0, 1) := by decide +kernel
theorem dX5_init_94 : decode cX5_init 94 = .ok (.iconst 3, 1) := by decide +kernel
theorem dX5_init_95 : decode cX5_init 95 = .ok (.putfield 48, 3) := by decide +kernel
theorem dX5_init_98 : decode cX5_init 98 = .ok (.aload_n 0, 1) := by decide +kernel
theorem dX5_init_99 : decode cX5_init 99 = .ok (.iconst 0, 1) := by decide +kernel
theorem dX5_init_100 : decode cX5_init 100 = .ok (.putfield 51, 3) := by decide +kernel
theorem dX5_init_103 : decode cX5_init 103 = .ok (.return_, 1) := by decide +kernel
theorem dX5_configure_0 : decode cX5_configure 0 = .ok (.iload_n 1, 1) := by decide +kernel
theorem dX5_configure_1 : decode cX5_configure 1 = .ok (.iconst 1, 1) := by decide +kernel
theorem dX5_configure_2 : decode cX5_configure 2 = .ok (.bipush 9, 2) := by decide +kernel
theorem dX5_configure_4 : decode cX5_configure 4 = .ok (.invokestatic 54, 3) := by decide +kernel
theorem dX5_configure_7 : decode cX5_configure 7 = .ok (.ifCond .eq 13, 3) := by decide +kernel
theorem dX5_configure_10 : decode cX5_configure 10 = .ok (.iload_n 2, 1) := by decide +kernel
theorem dX5_configure_11 : decode cX5_configure 11 = .ok (.iconst 1, 1) := by decide +kernel
theorem dX5_configure_12 : decode cX5_configure 12 = .ok (.bipush 9, 2) := by decide +kernel
theorem dX5_configure_14 : decode cX5_configure 14 = .ok (.invokestatic 54, 3) := by decide +kernel
theorem dX5_configure_17 : decode cX5_configure 17 = .ok (.ifCond .ne 6, 3) := by decide +kernel
theorem dX5_configure_20 : decode cX5_configure 20 = .ok (.bipush (-104), 2) := by decide +kernel
theorem dX5_configure_22 : decode cX5_configure 22 = .ok (.ireturn, 1) := by decide +kernel
theorem dX5_configure_23 : decode cX5_configure 23 = .ok (.iload_n 3, 1) := by decide +kernel
theorem dX5_configure_24 : decode cX5_configure 24 = .ok (.iconst 1, 1) := by decide +kernel
theorem dX5_configure_25 : decode cX5_configure 25 = .ok (.bipush 60, 2) := by decide +kernel
theorem dX5_configure_27 : decode cX5_configure 27 = .ok (.invokestatic 54, 3) := by decide +kernel
theorem dX5_configure_30 : decode cX5_configure 30 = .ok (.ifCond .eq 14, 3) := by decide +kernel
theorem dX5_configure_33 : decode cX5_configure 33 = .ok (.iload 4, 2) := by decide +kernel
theorem dX5_configure_35 : decode cX5_configure 35 = .ok (.bipush (-60), 2) := by decide +kernel
theorem dX5_configure_37 : decode cX5_configure 37 = .ok (.iconst (-1), 1) := by decide +kernel
theorem dX5_configure_38 : decode cX5_configure 38 = .ok (.invokestatic 54, 3) := by decide +kernel
theorem dX5_configure_41 : decode cX5_configure 41 = .ok (.ifCond .ne 6, 3) := by decide +kernel
theorem dX5_configure_44 : decode cX5_configure 44 = .ok (.bipush (-104), 2) := by decide +kernel
theorem dX5_configure_46 : decode cX5_configure 46 = .ok (.ireturn, 1) := by decide +kernel
theorem dX5_configure_47 : decode cX5_configure 47 = .ok (.aload_n 0, 1) := by decide +kernel
theorem dX5_configure_48 : decode cX5_configure 48 = .ok (.getfield 19, 3) := by decide +kernel
theorem dX5_configure_51 : decode cX5_configure 51 = .ok (.iload_n 1, 1) := by decide +kernel
theorem dX5_configure_52 : decode cX5_configure 52 = .ok (.iload_n 2, 1) := by decide +kernel
theorem dX5_configure_53 : decode cX5_configure 53 = .ok (.iload_n 3, 1) := by decide +kernel
theorem dX5_configure_54 : decode cX5_configure 54 = .ok (.iload 4, 2) := by decide +kernel
theorem dX5_configure_56 : decode cX5_configure 56 = .ok (.invokevirtual 58, 3) := by decide +kernel
theorem dX5_configure_59 : decode cX5_configure 59 = .ok (.aload_n 0, 1) := by decide +kernel
theorem dX5_configure_60 : decode cX5_configure 60 = .ok (.invokevirtual 62, 3) := by decide +kernel
theorem dX5_configure_63 : decode cX5_configure 63 = .ok (.aload_n 0, 1) := by decide +kernel
theorem dX5_configure_64 : decode cX5_configure 64 = .ok (.getfield 44, 3) := by decide +kernel
theorem dX5_configure_67 : decode cX5_configure 67 = .ok (.ireturn, 1) := by decide +kernel
theorem dX5_setCells_0 : decode cX5_setCells 0 = .ok (.iload_n 1, 1) := by decide +kernel
theorem dX5_setCells_1 : decode cX5_setCells 1 = .ok (.iconst 1, 1) := by decide +kernel
theorem dX5_setCells_2 : decode cX5_setCells 2 = .ok (.bipush 8, 2) := by decide +kernel
theorem dX5_setCells_4 : decode cX5_setCells 4 = .ok (.invokestatic 54, 3) := by decide +kernel
theorem dX5_setCells_7 : decode cX5_setCells 7 = .ok (.ifCond .ne 6, 3) := by decide +kernel
theorem dX5_setCells_10 : decode cX5_setCells 10 = .ok (.bipush (-104), 2) := by decide +kernel
theorem dX5_setCells_12 : decode cX5_setCells 12 = .ok (.ireturn, 1) := by decide +kernel
theorem dX5_setCells_13 : decode cX5_setCells 13 = .ok (.aload_n 0, 1) := by decide +kernel
theorem dX5_setCells_14 : decode cX5_setCells 14 = .ok (.getfield 44, 3) := by decide +kernel
theorem dX5_setCells_17 : decode cX5_setCells 17 = .ok (.istore_n 2, 1) := by decide +kernel
theorem dX5_setCells_18 : decode cX5_setCells 18 = .ok (.aload_n 0, 1) := by decide +kernel
theorem dX5_setCells_19 : decode cX5_setCells 19 = .ok (.iload_n 1, 1) := by decide +kernel
theorem dX5_setCells_20 : decode cX5_setCells 20 = .ok (.putfield 44, 3) := by decide +kernel
theorem dX5_setCells_23 : decode cX5_setCells 23 = .ok (.aload_n 0, 1) := by decide +kernel
theorem dX5_setCells_24 : decode cX5_setCells 24 = .ok (.invokevirtual 62, 3) := by decide +kernel
theorem dX5_setCells_27 : decode cX5_setCells 27 = .ok (.iload_n 2, 1) := by decide +kernel
theorem dX5_setCells_28 : decode cX5_setCells 28 = .ok (.ireturn, 1) := by decide +kernel
theorem dX5_setTimeout_0 : decode cX5_setTimeout 0 = .ok (.iload_n 1, 1) := by decide +kernel
theorem dX5_setTimeout_1 : decode cX5_setTimeout 1 = .ok (.iconst 1, 1) := by decide +kernel
theorem dX5_setTimeout_2 : decode cX5_setTimeout 2 = .ok (.bipush 20, 2) := by decide +kernel
theorem dX5_setTimeout_4 : decode cX5_setTimeout 4 = .ok (.invokestatic 54, 3) := by decide +kernel
theorem dX5_setTimeout_7 : decode cX5_setTimeout 7 = .ok (.ifCond .ne 6, 3) := by decide +kernel
theorem dX5_setTimeout_10 : decode cX5_setTimeout 10 = .ok (.bipush (-104), 2) := by decide +kernel
theorem dX5_setTimeout_12 : decode cX5_setTimeout 12 = .ok (.ireturn, 1) := by decide +kernel
theorem dX5_setTimeout_13 : decode cX5_setTimeout 13 = .ok (.aload_n 0, 1) := by decide +kernel
theorem dX5_setTimeout_14 : decode cX5_setTimeout 14 = .ok (.getfield 48, 3) := by decide +kernel
theorem dX5_setTimeout_17 : decode cX5_setTimeout 17 = .ok (.istore_n 2, 1) := by decide +kernel
theorem dX5_setTimeout_18 : decode cX5_setTimeout 18 = .ok (.aload_n 0, 1) := by decide +kernel
theorem dX5_setTimeout_19 : decode cX5_setTimeout 19 = .ok (.iload_n 1, 1) := by decide +kernel
theorem dX5_setTimeout_20 : decode cX5_setTimeout 20 = .ok (.putfield 48, 3) := by decide +kernel
theorem dX5_setTimeout_23 : decode cX5_setTimeout 23 = .ok (.iload_n 2, 1) := by decide +kernel
theorem dX5_setTimeout_24 : decode cX5_setTimeout 24 = .ok (.ireturn, 1) := by decide +kernel
theorem dX5_reset_0 : decode cX5_reset 0 = .ok (.iconst 0, 1) := by decide +kernel
theorem dX5_reset_1 : decode cX5_reset 1 = .ok (.istore_n 1, 1) := by decide +kernel
theorem dX5_reset_2 : decode cX5_reset 2 = .ok (.iload_n 1, 1) := by decide +kernel
theorem dX5_reset_3 : decode cX5_reset 3 = .ok (.aload_n 0, 1) := by decide +kernel
theorem dX5_reset_4 : decode cX5_reset 4 = .ok (.getfield 11, 3) := by decide +kernel
theorem dX5_reset_7 : decode cX5_reset 7 = .ok (.arraylength, 1) := by decide +kernel
theorem dX5_reset_8 : decode cX5_reset 8 = .ok (.if_icmp .ge 18, 3) := by decide +kernel
theorem dX5_reset_11 : decode cX5_reset 11 = .ok (.aload_n 0, 1) := by decide +kernel
theorem dX5_reset_12 : decode cX5_reset 12 = .ok (.getfield 11, 3) := by decide +kernel
theorem dX5_reset_15 : decode cX5_reset 15 = .ok (.iload_n 1, 1) := by decide +kernel
theorem dX5_reset_16 : decode cX5_reset 16 = .ok (.aaload, 1) := by decide +kernel
theorem dX5_reset_17 : decode cX5_reset 17 = .ok (.invokevirtual 65, 3) := by decide +kernel
theorem dX5_reset_20 : decode cX5_reset 20 = .ok (.iinc 1 1, 3) := by decide +kernel
theorem dX5_reset_23 : decode cX5_reset 23 = .ok (.goto (-21), 3) := by decide +kernel
theorem dX5_reset_26 : decode cX5_reset 26 = .ok (.aload_n 0, 1) := by decide +kernel
theorem dX5_reset_27 : decode cX5_reset 27 = .ok (.getfield 26, 3) := by decide +kernel
theorem dX5_reset_30 : decode cX5_reset 30 = .ok (.iconst 0, 1) := by decide +kernel
theorem dX5_reset_31 : decode cX5_reset 31 = .ok (.putfield 66, 3) := by decide +kernel
theorem dX5_reset_34 : decode cX5_reset 34 = .ok (.aload_n 0, 1) := by decide +kernel
theorem dX5_reset_35 : decode cX5_reset 35 = .ok (.getfield 33, 3) := by decide +kernel
theorem dX5_reset_38 : decode cX5_reset 38 = .ok (.iconst 0, 1) := by decide +kernel
theorem dX5_reset_39 : decode cX5_reset 39 = .ok (.putfield 69, 3) := by decide +kernel
theorem dX5_reset_42 : decode cX5_reset 42 = .ok (.aload_n 0, 1) := by decide +kernel
theorem dX5_reset_43 : decode cX5_reset 43 = .ok (.iconst 0, 1) := by decide +kernel
theorem dX5_reset_44 : decode cX5_reset 44 = .ok (.putfield 51, 3) := by decide +kernel
theorem dX5_reset_47 : decode cX5_reset 47 = .ok (.return_, 1) := by decide +kernel
theorem dX5_connect_0 : decode cX5_connect 0 = .ok (.iload_n 1, 1) := by decide +kernel
theorem dX5_connect_1 : decode cX5_connect 1 = .ok (.invokestatic 70, 3) := by decide +kernel
theorem dX5_connect_4 : decode cX5_connect 4 = .ok (.ifCond .ne 6, 3) := by decide +kernel
theorem dX5_connect_7 : decode cX5_connect 7 = .ok (.bipush (-105), 2) := by decide +kernel
theorem dX5_connect_9 : decode cX5_connect 9 = .ok (.ireturn, 1) := by decide +kernel
theorem dX5_connect_10 : decode cX5_connect 10 = .ok (.iload_n 2, 1) := by decide +kernel
theorem dX5_connect_11 : decode cX5_connect 11 = .ok (.invokestatic 74, 3) := by decide +kernel
theorem dX5_connect_14 : decode cX5_connect 14 = .ok (.ifCond .ne 6, 3) := by decide +kernel
theorem dX5_connect_17 : decode cX5_connect 17 = .ok (.bipush (-106), 2) := by decide +kernel
theorem dX5_connect_19 : decode cX5_connect 19 = .ok (.ireturn, 1) := by decide +kernel
theorem dX5_connect_20 : decode cX5_connect 20 = .ok (.aload_n 0, 1) := by decide +kernel
theorem dX5_connect_21 : decode cX5_connect 21 = .ok (.iload_n 1, 1) := by decide +kernel
theorem dX5_connect_22 : decode cX5_connect 22 = .ok (.invokevirtual 77, 3) := by decide +kernel
theorem dX5_connect_25 : decode cX5_connect 25 = .ok (.istore 4, 2) := by decide +kernel
theorem dX5_connect_27 : decode cX5_connect 27 = .ok (.aload_n 0, 1) := by decide +kernel
theorem dX5_connect_28 : decode cX5_connect 28 = .ok (.getfield 11, 3) := by decide +kernel
theorem dX5_connect_31 : decode cX5_connect 31 = .ok (.iload 4, 2) := by decide +kernel
theorem dX5_connect_33 : decode cX5_connect 33 = .ok (.aaload, 1) := by decide +kernel
theorem dX5_connect_34 : decode cX5_connect 34 = .ok (.astore 5, 2) := by decide +kernel
theorem dX5_connect_36 : decode cX5_connect 36 = .ok (.aload 5, 2) := by decide +kernel
theorem dX5_connect_38 : decode cX5_connect 38 = .ok (.getfield 81, 3) := by decide +kernel
theorem dX5_connect_41 : decode cX5_connect 41 = .ok (.ifCond .eq 11, 3) := by decide +kernel
theorem dX5_connect_44 : decode cX5_connect 44 = .ok (.aload 5, 2) := by decide +kernel
theorem dX5_connect_46 : decode cX5_connect 46 = .ok (.iload_n 3, 1) := by decide +kernel
theorem dX5_connect_47 : decode cX5_connect 47 = .ok (.invokevirtual 85, 3) := by decide +kernel
theorem dX5_connect_50 : decode cX5_connect 50 = .ok (.iconst 3, 1) := by decide +kernel
theorem dX5_connect_51 : decode cX5_connect 51 = .ok (.ireturn, 1) := by decide +kernel
theorem dX5_connect_52 : decode cX5_connect 52 = .ok (.aload 5, 2) := by decide +kernel
theorem dX5_connect_54 : decode cX5_connect 54 = .ok (.iload_n 2, 1) := by decide +kernel
theorem dX5_connect_55 : decode cX5_connect 55 = .ok (.invokevirtual 89, 3) := by decide +kernel
theorem dX5_connect_58 : decode cX5_connect 58 = .ok (.ifCond .eq 5, 3) := by decide +kernel
theorem dX5_connect_61 : decode cX5_connect 61 = .ok (.iconst 4, 1) := by decide +kernel
theorem dX5_connect_62 : decode cX5_connect 62 = .ok (.ireturn, 1) := by decide +kernel
theorem dX5_connect_63 : decode cX5_connect 63 = .ok (.aload 5, 2) := by decide +kernel
theorem dX5_connect_65 : decode cX5_connect 65 = .ok (.iload_n 2, 1) := by decide +kernel
theorem dX5_connect_66 : decode cX5_connect 66 = .ok (.invokevirtual 92, 3) := by decide +kernel
theorem dX5_connect_69 : decode cX5_connect 69 = .ok (.aload_n 0, 1) := by decide +kernel
theorem dX5_connect_70 : decode cX5_connect 70 = .ok (.iload 4, 2) := by decide +kernel
theorem dX5_connect_72 : decode cX5_connect 72 = .ok (.iload_n 3, 1) := by decide +kernel
theorem dX5_connect_73 : decode cX5_connect 73 = .ok (.invokevirtual 96, 3) := by decide +kernel
theorem dX5_connect_76 : decode cX5_connect 76 = .ok (.ireturn, 1) := by decide +kernel
theorem dX5_attempt_0 : decode cX5_attempt 0 = .ok (.iload_n 1, 1) := by decide +kernel
theorem dX5_attempt_1 : decode cX5_attempt 1 = .ok (.invokestatic 70, 3) := by decide +kernel
theorem dX5_attempt_4 : decode cX5_attempt 4 = .ok (.ifCond .ne 6, 3) := by decide +kernel
theorem dX5_attempt_7 : decode cX5_attempt 7 = .ok (.bipush (-105), 2) := by decide +kernel
theorem dX5_attempt_9 : decode cX5_attempt 9 = .ok (.ireturn, 1) := by decide +kernel
theorem dX5_attempt_10 : decode cX5_attempt 10 = .ok (.iload_n 2, 1) := by decide +kernel
theorem dX5_attempt_11 : decode cX5_attempt 11 = .ok (.invokestatic 74, 3) := by decide +kernel
theorem dX5_attempt_14 : decode cX5_attempt 14 = .ok (.ifCond .ne 6, 3) := by decide +kernel
theorem dX5_attempt_17 : decode cX5_attempt 17 = .ok (.bipush (-106), 2) := by decide +kernel
theorem dX5_attempt_19 : decode cX5_attempt 19 = .ok (.ireturn, 1) := by decide +kernel
theorem dX5_attempt_20 : decode cX5_attempt 20 = .ok (.aload_n 0, 1) := by decide +kernel
theorem dX5_attempt_21 : decode cX5_attempt 21 = .ok (.getfield 11, 3) := by decide +kernel
theorem dX5_attempt_24 : decode cX5_attempt 24 = .ok (.aload_n 0, 1) := by decide +kernel
theorem dX5_attempt_25 : decode cX5_attempt 25 = .ok (.iload_n 1, 1) := by decide +kernel
theorem dX5_attempt_26 : decode cX5_attempt 26 = .ok (.invokevirtual 77, 3) := by decide +kernel
theorem dX5_attempt_29 : decode cX5_attempt 29 = .ok (.aaload, 1) := by decide +kernel
theorem dX5_attempt_30 : decode cX5_attempt 30 = .ok (.astore_n 3, 1) := by decide +kernel
theorem dX5_attempt_31 : decode cX5_attempt 31 = .ok (.aload_n 3, 1) := by decide +kernel
theorem dX5_attempt_32 : decode cX5_attempt 32 = .ok (.getfield 81, 3) := by decide +kernel
theorem dX5_attempt_35 : decode cX5_attempt 35 = .ok (.ifCond .eq 9, 3) := by decide +kernel
theorem dX5_attempt_38 : decode cX5_attempt 38 = .ok (.aload_n 3, 1) := by decide +kernel
theorem dX5_attempt_39 : decode cX5_attempt 39 = .ok (.invokevirtual 100, 3) := by decide +kernel
theorem dX5_attempt_42 : decode cX5_attempt 42 = .ok (.iconst 3, 1) := by decide +kernel
theorem dX5_attempt_43 : decode cX5_attempt 43 = .ok (.ireturn, 1) := by decide +kernel
theorem dX5_attempt_44 : decode cX5_attempt 44 = .ok (.aload_n 3, 1) := by decide +kernel
theorem dX5_attempt_45 : decode cX5_attempt 45 = .ok (.iload_n 2, 1) := by decide +kernel
theorem dX5_attempt_46 : decode cX5_attempt 46 = .ok (.invokevirtual 89, 3) := by decide +kernel
theorem dX5_attempt_49 : decode cX5_attempt 49 = .ok (.ifCond .eq 5, 3) := by decide +kernel
theorem dX5_attempt_52 : decode cX5_attempt 52 = .ok (.iconst 4, 1) := by decide +kernel
theorem dX5_attempt_53 : decode cX5_attempt 53 = .ok (.ireturn, 1) := by decide +kernel
theorem dX5_attempt_54 : decode cX5_attempt 54 = .ok (.aload_n 0, 1) := by decide +kernel
theorem dX5_attempt_55 : decode cX5_attempt 55 = .ok (.getfield 26, 3) := by decide +kernel
theorem dX5_attempt_58 : decode cX5_attempt 58 = .ok (.iload_n 1, 1) := by decide +kernel
theorem dX5_attempt_59 : decode cX5_attempt 59 = .ok (.iload_n 2, 1) := by decide +kernel
theorem dX5_attempt_60 : decode cX5_attempt 60 = .ok (.aload_n 0, 1) := by decide +kernel
theorem dX5_attempt_61 : decode cX5_attempt 61 = .ok (.getfield 51, 3) := by decide +kernel
theorem dX5_attempt_64 : decode cX5_attempt 64 = .ok (.aload_n 0, 1) := by decide +kernel
theorem dX5_attempt_65 : decode cX5_attempt 65 = .ok (.getfield 48, 3) := by decide +kernel
theorem dX5_attempt_68 : decode cX5_attempt 68 = .ok (.iadd, 1) := by decide +kernel
theorem dX5_attempt_69 : decode cX5_attempt 69 = .ok (.invokevirtual 103, 3) := by decide +kernel
theorem dX5_attempt_72 : decode cX5_attempt 72 = .ok (.ifCond .ne 6, 3) := by decide +kernel
theorem dX5_attempt_75 : decode cX5_attempt 75 = .ok (.bipush (-110), 2) := by decide +kernel
theorem dX5_attempt_77 : decode cX5_attempt 77 = .ok (.ireturn, 1) := by decide +kernel
theorem dX5_attempt_78 : decode cX5_attempt 78 = .ok (.aload_n 3, 1) := by decide +kernel
theorem dX5_attempt_79 : decode cX5_attempt 79 = .ok (.iload_n 2, 1) := by decide +kernel
theorem dX5_attempt_80 : decode cX5_attempt 80 = .ok (.invokevirtual 92, 3) := by decide +kernel
theorem dX5_attempt_83 : decode cX5_attempt 83 = .ok (.iconst 0, 1) := by decide +kernel
theorem dX5_attempt_84 : decode cX5_attempt 84 = .ok (.ireturn, 1) := by decide +kernel
theorem dX5_answer_0 : decode cX5_answer 0 = .ok (.aload_n 0, 1) := by decide +kernel
theorem dX5_answer_1 : decode cX5_answer 1 = .ok (.getfield 26, 3) := by decide +kernel
theorem dX5_answer_4 : decode cX5_answer 4 = .ok (.iload_n 1, 1) := by decide +kernel
theorem dX5_answer_5 : decode cX5_answer 5 = .ok (.iload_n 2, 1) := by decide +kernel
theorem dX5_answer_6 : decode cX5_answer 6 = .ok (.invokevirtual 106, 3) := by decide +kernel
theorem dX5_answer_9 : decode cX5_answer 9 = .ok (.istore_n 3, 1) := by decide +kernel
theorem dX5_answer_10 : decode cX5_answer 10 = .ok (.iload_n 3, 1) := by decide +kernel
theorem dX5_answer_11 : decode cX5_answer 11 = .ok (.iconst (-1), 1) := by decide +kernel
theorem dX5_answer_12 : decode cX5_answer 12 = .ok (.if_icmp .ne 6, 3) := by decide +kernel
theorem dX5_answer_15 : decode cX5_answer 15 = .ok (.bipush (-108), 2) := by decide +kernel
theorem dX5_answer_17 : decode cX5_answer 17 = .ok (.ireturn, 1) := by decide +kernel
theorem dX5_answer_18 : decode cX5_answer 18 = .ok (.aload_n 0, 1) := by decide +kernel
theorem dX5_answer_19 : decode cX5_answer 19 = .ok (.getfield 26, 3) := by decide +kernel
theorem dX5_answer_22 : decode cX5_answer 22 = .ok (.iload_n 3, 1) := by decide +kernel
theorem dX5_answer_23 : decode cX5_answer 23 = .ok (.invokevirtual 110, 3) := by decide +kernel
theorem dX5_answer_26 : decode cX5_answer 26 = .ok (.aload_n 0, 1) := by decide +kernel
theorem dX5_answer_27 : decode cX5_answer 27 = .ok (.aload_n 0, 1) := by decide +kernel
theorem dX5_answer_28 : decode cX5_answer 28 = .ok (.iload_n 1, 1) := by decide +kernel
theorem dX5_answer_29 : decode cX5_answer 29 = .ok (.invokevirtual 77, 3) := by decide +kernel
theorem dX5_answer_32 : decode cX5_answer 32 = .ok (.iconst 1, 1) := by decide +kernel
theorem dX5_answer_33 : decode cX5_answer 33 = .ok (.invokevirtual 96, 3) := by decide +kernel
theorem dX5_answer_36 : decode cX5_answer 36 = .ok (.ireturn, 1) := by decide +kernel
theorem dX5_advance_0 : decode cX5_advance 0 = .ok (.iload_n 1, 1) := by decide +kernel
theorem dX5_advance_1 : decode cX5_advance 1 = .ok (.iconst 1, 1) := by decide +kernel
theorem dX5_advance_2 : decode cX5_advance 2 = .ok (.bipush 50, 2) := by decide +kernel
theorem dX5_advance_4 : decode cX5_advance 4 = .ok (.invokestatic 54, 3) := by decide +kernel
theorem dX5_advance_7 : decode cX5_advance 7 = .ok (.ifCond .ne 6, 3) := by decide +kernel
theorem dX5_advance_10 : decode cX5_advance 10 = .ok (.bipush (-104), 2) := by decide +kernel
theorem dX5_advance_12 : decode cX5_advance 12 = .ok (.ireturn, 1) := by decide +kernel
theorem dX5_advance_13 : decode cX5_advance 13 = .ok (.iconst 0, 1) := by decide +kernel
theorem dX5_advance_14 : decode cX5_advance 14 = .ok (.istore_n 2, 1) := by decide +kernel
theorem dX5_advance_15 : decode cX5_advance 15 = .ok (.iconst 0, 1) := by decide +kernel
theorem dX5_advance_16 : decode cX5_advance 16 = .ok (.istore_n 3, 1) := by decide +kernel
theorem dX5_advance_17 : decode cX5_advance 17 = .ok (.iload_n 3, 1) := by decide +kernel
theorem dX5_advance_18 : decode cX5_advance 18 = .ok (.iload_n 1, 1) := by decide +kernel
theorem dX5_advance_19 : decode cX5_advance 19 = .ok (.if_icmp .ge 26, 3) := by decide +kernel
theorem dX5_advance_22 : decode cX5_advance 22 = .ok (.aload_n 0, 1) := by decide +kernel
theorem dX5_advance_23 : decode cX5_advance 23 = .ok (.dup, 1) := by decide +kernel
theorem dX5_advance_24 : decode cX5_advance 24 = .ok (.getfield 51, 3) := by decide +kernel
theorem dX5_advance_27 : decode cX5_advance 27 = .ok (.iconst 1, 1) := by decide +kernel
theorem dX5_advance_28 : decode cX5_advance 28 = .ok (.iadd, 1) := by decide +kernel
theorem dX5_advance_29 : decode cX5_advance 29 = .ok (.putfield 51, 3) := by decide +kernel
theorem dX5_advance_32 : decode cX5_advance 32 = .ok (.iload_n 2, 1) := by decide +kernel
theorem dX5_advance_33 : decode cX5_advance 33 = .ok (.aload_n 0, 1) := by decide +kernel
theorem dX5_advance_34 : decode cX5_advance 34 = .ok (.invokevirtual 113, 3) := by decide +kernel
theorem dX5_advance_37 : decode cX5_advance 37 = .ok (.iadd, 1) := by decide +kernel
theorem dX5_advance_38 : decode cX5_advance 38 = .ok (.istore_n 2, 1) := by decide +kernel
theorem dX5_advance_39 : decode cX5_advance 39 = .ok (.iinc 3 1, 3) := by decide +kernel
theorem dX5_advance_42 : decode cX5_advance 42 = .ok (.goto (-25), 3) := by decide +kernel
theorem dX5_advance_45 : decode cX5_advance 45 = .ok (.iload_n 2, 1) := by decide +kernel
theorem dX5_advance_46 : decode cX5_advance 46 = .ok (.ireturn, 1) := by decide +kernel
theorem dX5_failDueAttempts_0 : decode cX5_failDueAttempts 0 = .ok (.iconst 0, 1) := by decide +kernel
theorem dX5_failDueAttempts_1 : decode cX5_failDueAttempts 1 = .ok (.istore_n 1, 1) := by decide +kernel
theorem dX5_failDueAttempts_2 : decode cX5_failDueAttempts 2 = .ok (.iconst 0, 1) := by decide +kernel
theorem dX5_failDueAttempts_3 : decode cX5_failDueAttempts 3 = .ok (.istore_n 2, 1) := by decide +kernel
theorem dX5_failDueAttempts_4 : decode cX5_failDueAttempts 4 = .ok (.iload_n 2, 1) := by decide +kernel
theorem dX5_failDueAttempts_5 : decode cX5_failDueAttempts 5 = .ok (.bipush 12, 2) := by decide +kernel
theorem dX5_failDueAttempts_7 : decode cX5_failDueAttempts 7 = .ok (.if_icmp .ge 63, 3) := by decide +kernel
theorem dX5_failDueAttempts_10 : decode cX5_failDueAttempts 10 = .ok (.aload_n 0, 1) := by decide +kernel
theorem dX5_failDueAttempts_11 : decode cX5_failDueAttempts 11 = .ok (.getfield 26, 3) := by decide +kernel
theorem dX5_failDueAttempts_14 : decode cX5_failDueAttempts 14 = .ok (.aload_n 0, 1) := by decide +kernel
theorem dX5_failDueAttempts_15 : decode cX5_failDueAttempts 15 = .ok (.getfield 51, 3) := by decide +kernel
theorem dX5_failDueAttempts_18 : decode cX5_failDueAttempts 18 = .ok (.invokevirtual 117, 3) := by decide +kernel
theorem dX5_failDueAttempts_21 : decode cX5_failDueAttempts 21 = .ok (.istore_n 3, 1) := by decide +kernel
theorem dX5_failDueAttempts_22 : decode cX5_failDueAttempts 22 = .ok (.iload_n 3, 1) := by decide +kernel
theorem dX5_failDueAttempts_23 : decode cX5_failDueAttempts 23 = .ok (.iconst (-1), 1) := by decide +kernel
theorem dX5_failDueAttempts_24 : decode cX5_failDueAttempts 24 = .ok (.if_icmp .ne 6, 3) := by decide +kernel
theorem dX5_failDueAttempts_27 : decode cX5_failDueAttempts 27 = .ok (.goto 43, 3) := by decide +kernel
theorem dX5_failDueAttempts_30 : decode cX5_failDueAttempts 30 = .ok (.aload_n 0, 1) := by decide +kernel
theorem dX5_failDueAttempts_31 : decode cX5_failDueAttempts 31 = .ok (.getfield 26, 3) := by decide +kernel
theorem dX5_failDueAttempts_34 : decode cX5_failDueAttempts 34 = .ok (.getfield 120, 3) := by decide +kernel
theorem dX5_failDueAttempts_37 : decode cX5_failDueAttempts 37 = .ok (.iload_n 3, 1) := by decide +kernel
theorem dX5_failDueAttempts_38 : decode cX5_failDueAttempts 38 = .ok (.iaload, 1) := by decide +kernel
theorem dX5_failDueAttempts_39 : decode cX5_failDueAttempts 39 = .ok (.istore 4, 2) := by decide +kernel
theorem dX5_failDueAttempts_41 : decode cX5_failDueAttempts 41 = .ok (.aload_n 0, 1) := by decide +kernel
theorem dX5_failDueAttempts_42 : decode cX5_failDueAttempts 42 = .ok (.getfield 26, 3) := by decide +kernel
theorem dX5_failDueAttempts_45 : decode cX5_failDueAttempts 45 = .ok (.iload_n 3, 1) := by decide +kernel
theorem dX5_failDueAttempts_46 : decode cX5_failDueAttempts 46 = .ok (.invokevirtual 110, 3) := by decide +kernel
theorem dX5_failDueAttempts_49 : decode cX5_failDueAttempts 49 = .ok (.aload_n 0, 1) := by decide +kernel
theorem dX5_failDueAttempts_50 : decode cX5_failDueAttempts 50 = .ok (.aload_n 0, 1) := by decide +kernel
theorem dX5_failDueAttempts_51 : decode cX5_failDueAttempts 51 = .ok (.iload 4, 2) := by decide +kernel
theorem dX5_failDueAttempts_53 : decode cX5_failDueAttempts 53 = .ok (.invokevirtual 77, 3) := by decide +kernel
theorem dX5_failDueAttempts_56 : decode cX5_failDueAttempts 56 = .ok (.iconst 0, 1) := by decide +kernel
theorem dX5_failDueAttempts_57 : decode cX5_failDueAttempts 57 = .ok (.invokevirtual 96, 3) := by decide +kernel
theorem dX5_failDueAttempts_60 : decode cX5_failDueAttempts 60 = .ok (.pop, 1) := by decide +kernel
theorem dX5_failDueAttempts_61 : decode cX5_failDueAttempts 61 = .ok (.iinc 1 1, 3) := by decide +kernel
theorem dX5_failDueAttempts_64 : decode cX5_failDueAttempts 64 = .ok (.iinc 2 1, 3) := by decide +kernel
theorem dX5_failDueAttempts_67 : decode cX5_failDueAttempts 67 = .ok (.goto (-63), 3) := by decide +kernel
theorem dX5_failDueAttempts_70 : decode cX5_failDueAttempts 70 = .ok (.iload_n 1, 1) := by decide +kernel
theorem dX5_failDueAttempts_71 : decode cX5_failDueAttempts 71 = .ok (.ireturn, 1) := by decide +kernel
theorem dX5_unblock_0 : decode cX5_unblock 0 = .ok (.aload_n 0, 1) := by decide +kernel
theorem dX5_unblock_1 : decode cX5_unblock 1 = .ok (.iload_n 1, 1) := by decide +kernel
theorem dX5_unblock_2 : decode cX5_unblock 2 = .ok (.invokevirtual 124, 3) := by decide +kernel
theorem dX5_unblock_5 : decode cX5_unblock 5 = .ok (.ifCond .ne 6, 3) := by decide +kernel
theorem dX5_unblock_8 : decode cX5_unblock 8 = .ok (.bipush (-107), 2) := by decide +kernel
theorem dX5_unblock_10 : decode cX5_unblock 10 = .ok (.ireturn, 1) := by decide +kernel
theorem dX5_unblock_11 : decode cX5_unblock 11 = .ok (.aload_n 0, 1) := by decide +kernel
theorem dX5_unblock_12 : decode cX5_unblock 12 = .ok (.getfield 11, 3) := by decide +kernel
theorem dX5_unblock_15 : decode cX5_unblock 15 = .ok (.iload_n 1, 1) := by decide +kernel
theorem dX5_unblock_16 : decode cX5_unblock 16 = .ok (.aaload, 1) := by decide +kernel
theorem dX5_unblock_17 : decode cX5_unblock 17 = .ok (.astore_n 2, 1) := by decide +kernel
theorem dX5_unblock_18 : decode cX5_unblock 18 = .ok (.aload_n 2, 1) := by decide +kernel
theorem dX5_unblock_19 : decode cX5_unblock 19 = .ok (.getfield 81, 3) := by decide +kernel
theorem dX5_unblock_22 : decode cX5_unblock 22 = .ok (.ifCond .ne 6, 3) := by decide +kernel
theorem dX5_unblock_25 : decode cX5_unblock 25 = .ok (.bipush (-111), 2) := by decide +kernel
theorem dX5_unblock_27 : decode cX5_unblock 27 = .ok (.ireturn, 1) := by decide +kernel
theorem dX5_unblock_28 : decode cX5_unblock 28 = .ok (.aload_n 2, 1) := by decide +kernel
theorem dX5_unblock_29 : decode cX5_unblock 29 = .ok (.getfield 127, 3) := by decide +kernel
theorem dX5_unblock_32 : decode cX5_unblock 32 = .ok (.istore_n 3, 1) := by decide +kernel
theorem dX5_unblock_33 : decode cX5_unblock 33 = .ok (.aload_n 2, 1) := by decide +kernel
theorem dX5_unblock_34 : decode cX5_unblock 34 = .ok (.iconst 0, 1) := by decide +kernel
theorem dX5_unblock_35 : decode cX5_unblock 35 = .ok (.putfield 81, 3) := by decide +kernel
theorem dX5_unblock_38 : decode cX5_unblock 38 = .ok (.aload_n 2, 1) := by decide +kernel
theorem dX5_unblock_39 : decode cX5_unblock 39 = .ok (.invokevirtual 130, 3) := by decide +kernel
theorem dX5_unblock_42 : decode cX5_unblock 42 = .ok (.iload_n 3, 1) := by decide +kernel
theorem dX5_unblock_43 : decode cX5_unblock 43 = .ok (.ireturn, 1) := by decide +kernel
theorem dX5_settle_0 : decode cX5_settle 0 = .ok (.aload_n 0, 1) := by decide +kernel
theorem dX5_settle_1 : decode cX5_settle 1 = .ok (.getfield 11, 3) := by decide +kernel
theorem dX5_settle_4 : decode cX5_settle 4 = .ok (.iload_n 1, 1) := by decide +kernel
theorem dX5_settle_5 : decode cX5_settle 5 = .ok (.aaload, 1) := by decide +kernel
theorem dX5_settle_6 : decode cX5_settle 6 = .ok (.astore_n 3, 1) := by decide +kernel
theorem dX5_settle_7 : decode cX5_settle 7 = .ok (.aload_n 3, 1) := by decide +kernel
theorem dX5_settle_8 : decode cX5_settle 8 = .ok (.aload_n 0, 1) := by decide +kernel
theorem dX5_settle_9 : decode cX5_settle 9 = .ok (.getfield 19, 3) := by decide +kernel
theorem dX5_settle_12 : decode cX5_settle 12 = .ok (.aload_n 3, 1) := by decide +kernel
theorem dX5_settle_13 : decode cX5_settle 13 = .ok (.getfield 127, 3) := by decide +kernel
theorem dX5_settle_16 : decode cX5_settle 16 = .ok (.iload_n 2, 1) := by decide +kernel
theorem dX5_settle_17 : decode cX5_settle 17 = .ok (.invokevirtual 133, 3) := by decide +kernel
theorem dX5_settle_20 : decode cX5_settle 20 = .ok (.putfield 127, 3) := by decide +kernel
theorem dX5_settle_23 : decode cX5_settle 23 = .ok (.aload_n 0, 1) := by decide +kernel
theorem dX5_settle_24 : decode cX5_settle 24 = .ok (.getfield 19, 3) := by decide +kernel
theorem dX5_settle_27 : decode cX5_settle 27 = .ok (.aload_n 3, 1) := by decide +kernel
theorem dX5_settle_28 : decode cX5_settle 28 = .ok (.getfield 127, 3) := by decide +kernel
theorem dX5_settle_31 : decode cX5_settle 31 = .ok (.invokevirtual 136, 3) := by decide +kernel
theorem dX5_settle_34 : decode cX5_settle 34 = .ok (.istore 4, 2) := by decide +kernel
theorem dX5_settle_36 : decode cX5_settle 36 = .ok (.iload 4, 2) := by decide +kernel
theorem dX5_settle_38 : decode cX5_settle 38 = .ok (.ifCond .ne 6, 3) := by decide +kernel
theorem dX5_settle_41 : decode cX5_settle 41 = .ok (.iload 4, 2) := by decide +kernel
theorem dX5_settle_43 : decode cX5_settle 43 = .ok (.ireturn, 1) := by decide +kernel
theorem dX5_settle_44 : decode cX5_settle 44 = .ok (.iload 4, 2) := by decide +kernel
theorem dX5_settle_46 : decode cX5_settle 46 = .ok (.iconst 1, 1) := by decide +kernel
theorem dX5_settle_47 : decode cX5_settle 47 = .ok (.if_icmp .ne 16, 3) := by decide +kernel
theorem dX5_settle_50 : decode cX5_settle 50 = .ok (.aload_n 3, 1) := by decide +kernel
theorem dX5_settle_51 : decode cX5_settle 51 = .ok (.iconst 1, 1) := by decide +kernel
theorem dX5_settle_52 : decode cX5_settle 52 = .ok (.putfield 81, 3) := by decide +kernel
theorem dX5_settle_55 : decode cX5_settle 55 = .ok (.aload_n 0, 1) := by decide +kernel
theorem dX5_settle_56 : decode cX5_settle 56 = .ok (.iload_n 1, 1) := by decide +kernel
theorem dX5_settle_57 : decode cX5_settle 57 = .ok (.invokevirtual 139, 3) := by decide +kernel
theorem dX5_settle_60 : decode cX5_settle 60 = .ok (.goto 7, 3) := by decide +kernel
theorem dX5_settle_63 : decode cX5_settle 63 = .ok (.aload_n 3, 1) := by decide +kernel
theorem dX5_settle_64 : decode cX5_settle 64 = .ok (.invokevirtual 130, 3) := by decide +kernel
theorem dX5_settle_67 : decode cX5_settle 67 = .ok (.aload_n 0, 1) := by decide +kernel
theorem dX5_settle_68 : decode cX5_settle 68 = .ok (.getfield 33, 3) := by decide +kernel
theorem dX5_settle_71 : decode cX5_settle 71 = .ok (.bipush 10, 2) := by decide +kernel
theorem dX5_settle_73 : decode cX5_settle 73 = .ok (.iload_n 1, 1) := by decide +kernel
theorem dX5_settle_74 : decode cX5_settle 74 = .ok (.imul, 1) := by decide +kernel
theorem dX5_settle_75 : decode cX5_settle 75 = .ok (.iload 4, 2) := by decide +kernel
theorem dX5_settle_77 : decode cX5_settle 77 = .ok (.iadd, 1) := by decide +kernel
theorem dX5_settle_78 : decode cX5_settle 78 = .ok (.invokevirtual 142, 3) := by decide +kernel
theorem dX5_settle_81 : decode cX5_settle 81 = .ok (.iload 4, 2) := by decide +kernel
theorem dX5_settle_83 : decode cX5_settle 83 = .ok (.ireturn, 1) := by decide +kernel
theorem dX5_discardAttempts_0 : decode cX5_discardAttempts 0 = .ok (.aload_n 0, 1) := by decide +kernel
theorem dX5_discardAttempts_1 : decode cX5_discardAttempts 1 = .ok (.getfield 26, 3) := by decide +kernel
theorem dX5_discardAttempts_4 : decode cX5_discardAttempts 4 = .ok (.getfield 66, 3) := by decide +kernel
theorem dX5_discardAttempts_7 : decode cX5_discardAttempts 7 = .ok (.iconst 1, 1) := by decide +kernel
theorem dX5_discardAttempts_8 : decode cX5_discardAttempts 8 = .ok (.isub, 1) := by decide +kernel
theorem dX5_discardAttempts_9 : decode cX5_discardAttempts 9 = .ok (.istore_n 2, 1) := by decide +kernel
theorem dX5_discardAttempts_10 : decode cX5_discardAttempts 10 = .ok (.iload_n 2, 1) := by decide +kernel
theorem dX5_discardAttempts_11 : decode cX5_discardAttempts 11 = .ok (.ifCond .lt 34, 3) := by decide +kernel
theorem dX5_discardAttempts_14 : decode cX5_discardAttempts 14 = .ok (.aload_n 0, 1) := by decide +kernel
theorem dX5_discardAttempts_15 : decode cX5_discardAttempts 15 = .ok (.aload_n 0, 1) := by decide +kernel
theorem dX5_discardAttempts_16 : decode cX5_discardAttempts 16 = .ok (.getfield 26, 3) := by decide +kernel
theorem dX5_discardAttempts_19 : decode cX5_discardAttempts 19 = .ok (.getfield 120, 3) := by decide +kernel
theorem dX5_discardAttempts_22 : decode cX5_discardAttempts 22 = .ok (.iload_n 2, 1) := by decide +kernel
theorem dX5_discardAttempts_23 : decode cX5_discardAttempts 23 = .ok (.iaload, 1) := by decide +kernel
theorem dX5_discardAttempts_24 : decode cX5_discardAttempts 24 = .ok (.invokevirtual 77, 3) := by decide +kernel
theorem dX5_discardAttempts_27 : decode cX5_discardAttempts 27 = .ok (.iload_n 1, 1) := by decide +kernel
theorem dX5_discardAttempts_28 : decode cX5_discardAttempts 28 = .ok (.if_icmp .ne 11, 3) := by decide +kernel
theorem dX5_discardAttempts_31 : decode cX5_discardAttempts 31 = .ok (.aload_n 0, 1) := by decide +kernel
theorem dX5_discardAttempts_32 : decode cX5_discardAttempts 32 = .ok (.getfield 26, 3) := by decide +kernel
theorem dX5_discardAttempts_35 : decode cX5_discardAttempts 35 = .ok (.iload_n 2, 1) := by decide +kernel
theorem dX5_discardAttempts_36 : decode cX5_discardAttempts 36 = .ok (.invokevirtual 110, 3) := by decide +kernel
theorem dX5_discardAttempts_39 : decode cX5_discardAttempts 39 = .ok (.iinc 2 (-1), 3) := by decide +kernel
theorem dX5_discardAttempts_42 : decode cX5_discardAttempts 42 = .ok (.goto (-32), 3) := by decide +kernel
theorem dX5_discardAttempts_45 : decode cX5_discardAttempts 45 = .ok (.return_, 1) := by decide +kernel
theorem dX5_append_0 : decode cX5_append 0 = .ok (.iload_n 1, 1) := by decide +kernel
theorem dX5_append_1 : decode cX5_append 1 = .ok (.bipush 32, 2) := by decide +kernel
theorem dX5_append_3 : decode cX5_append 3 = .ok (.bipush 126, 2) := by decide +kernel
theorem dX5_append_5 : decode cX5_append 5 = .ok (.invokestatic 54, 3) := by decide +kernel
theorem dX5_append_8 : decode cX5_append 8 = .ok (.ifCond .ne 6, 3) := by decide +kernel
theorem dX5_append_11 : decode cX5_append 11 = .ok (.bipush (-101), 2) := by decide +kernel
theorem dX5_append_13 : decode cX5_append 13 = .ok (.ireturn, 1) := by decide +kernel
theorem dX5_append_14 : decode cX5_append 14 = .ok (.aload_n 0, 1) := by decide +kernel
theorem dX5_append_15 : decode cX5_append 15 = .ok (.getfield 40, 3) := by decide +kernel
theorem dX5_append_18 : decode cX5_append 18 = .ok (.iload_n 1, 1) := by decide +kernel
theorem dX5_append_19 : decode cX5_append 19 = .ok (.invokevirtual 145, 3) := by decide +kernel
theorem dX5_append_22 : decode cX5_append 22 = .ok (.ifCond .ne 6, 3) := by decide +kernel
theorem dX5_append_25 : decode cX5_append 25 = .ok (.bipush (-102), 2) := by decide +kernel
theorem dX5_append_27 : decode cX5_append 27 = .ok (.ireturn, 1) := by decide +kernel
theorem dX5_append_28 : decode cX5_append 28 = .ok (.aload_n 0, 1) := by decide +kernel
theorem dX5_append_29 : decode cX5_append 29 = .ok (.getfield 40, 3) := by decide +kernel
theorem dX5_append_32 : decode cX5_append 32 = .ok (.getfield 147, 3) := by decide +kernel
theorem dX5_append_35 : decode cX5_append 35 = .ok (.ireturn, 1) := by decide +kernel
theorem dX5_clearInput_0 : decode cX5_clearInput 0 = .ok (.aload_n 0, 1) := by decide +kernel
theorem dX5_clearInput_1 : decode cX5_clearInput 1 = .ok (.getfield 40, 3) := by decide +kernel
theorem dX5_clearInput_4 : decode cX5_clearInput 4 = .ok (.getfield 147, 3) := by decide +kernel
theorem dX5_clearInput_7 : decode cX5_clearInput 7 = .ok (.istore_n 1, 1) := by decide +kernel
theorem dX5_clearInput_8 : decode cX5_clearInput 8 = .ok (.aload_n 0, 1) := by decide +kernel
theorem dX5_clearInput_9 : decode cX5_clearInput 9 = .ok (.getfield 40, 3) := by decide +kernel
theorem dX5_clearInput_12 : decode cX5_clearInput 12 = .ok (.iconst 0, 1) := by decide +kernel
theorem dX5_clearInput_13 : decode cX5_clearInput 13 = .ok (.putfield 147, 3) := by decide +kernel
theorem dX5_clearInput_16 : decode cX5_clearInput 16 = .ok (.iload_n 1, 1) := by decide +kernel
theorem dX5_clearInput_17 : decode cX5_clearInput 17 = .ok (.ireturn, 1) := by decide +kernel
theorem dX5_firstError_0 : decode cX5_firstError 0 = .ok (.aload_n 0, 1) := by decide +kernel
theorem dX5_firstError_1 : decode cX5_firstError 1 = .ok (.getfield 40, 3) := by decide +kernel
theorem dX5_firstError_4 : decode cX5_firstError 4 = .ok (.invokevirtual 150, 3) := by decide +kernel
theorem dX5_firstError_7 : decode cX5_firstError 7 = .ok (.ireturn, 1) := by decide +kernel
theorem dX5_runInput_0 : decode cX5_runInput 0 = .ok (.aload_n 0, 1) := by decide +kernel
theorem dX5_runInput_1 : decode cX5_runInput 1 = .ok (.getfield 40, 3) := by decide +kernel
theorem dX5_runInput_4 : decode cX5_runInput 4 = .ok (.invokevirtual 153, 3) := by decide +kernel
theorem dX5_runInput_7 : decode cX5_runInput 7 = .ok (.ifCond .ne 6, 3) := by decide +kernel
theorem dX5_runInput_10 : decode cX5_runInput 10 = .ok (.bipush (-103), 2) := by decide +kernel
theorem dX5_runInput_12 : decode cX5_runInput 12 = .ok (.ireturn, 1) := by decide +kernel
theorem dX5_runInput_13 : decode cX5_runInput 13 = .ok (.iconst 0, 1) := by decide +kernel
theorem dX5_runInput_14 : decode cX5_runInput 14 = .ok (.istore_n 1, 1) := by decide +kernel
theorem dX5_runInput_15 : decode cX5_runInput 15 = .ok (.iconst 0, 1) := by decide +kernel
theorem dX5_runInput_16 : decode cX5_runInput 16 = .ok (.istore_n 2, 1) := by decide +kernel
theorem dX5_runInput_17 : decode cX5_runInput 17 = .ok (.iload_n 2, 1) := by decide +kernel
theorem dX5_runInput_18 : decode cX5_runInput 18 = .ok (.bipush 6, 2) := by decide +kernel
theorem dX5_runInput_20 : decode cX5_runInput 20 = .ok (.iadd, 1) := by decide +kernel
theorem dX5_runInput_21 : decode cX5_runInput 21 = .ok (.iconst 1, 1) := by decide +kernel
theorem dX5_runInput_22 : decode cX5_runInput 22 = .ok (.isub, 1) := by decide +kernel
theorem dX5_runInput_23 : decode cX5_runInput 23 = .ok (.aload_n 0, 1) := by decide +kernel
theorem dX5_runInput_24 : decode cX5_runInput 24 = .ok (.getfield 40, 3) := by decide +kernel
theorem dX5_runInput_27 : decode cX5_runInput 27 = .ok (.getfield 147, 3) := by decide +kernel
theorem dX5_runInput_30 : decode cX5_runInput 30 = .ok (.if_icmp .gt 51, 3) := by decide +kernel
theorem dX5_runInput_33 : decode cX5_runInput 33 = .ok (.aload_n 0, 1) := by decide +kernel
theorem dX5_runInput_34 : decode cX5_runInput 34 = .ok (.aload_n 0, 1) := by decide +kernel
theorem dX5_runInput_35 : decode cX5_runInput 35 = .ok (.getfield 40, 3) := by decide +kernel
theorem dX5_runInput_38 : decode cX5_runInput 38 = .ok (.iload_n 2, 1) := by decide +kernel
theorem dX5_runInput_39 : decode cX5_runInput 39 = .ok (.invokevirtual 157, 3) := by decide +kernel
theorem dX5_runInput_42 : decode cX5_runInput 42 = .ok (.aload_n 0, 1) := by decide +kernel
theorem dX5_runInput_43 : decode cX5_runInput 43 = .ok (.getfield 40, 3) := by decide +kernel
theorem dX5_runInput_46 : decode cX5_runInput 46 = .ok (.iload_n 2, 1) := by decide +kernel
theorem dX5_runInput_47 : decode cX5_runInput 47 = .ok (.invokevirtual 160, 3) := by decide +kernel
theorem dX5_runInput_50 : decode cX5_runInput 50 = .ok (.aload_n 0, 1) := by decide +kernel
theorem dX5_runInput_51 : decode cX5_runInput 51 = .ok (.getfield 40, 3) := by decide +kernel
theorem dX5_runInput_54 : decode cX5_runInput 54 = .ok (.iload_n 2, 1) := by decide +kernel
theorem dX5_runInput_55 : decode cX5_runInput 55 = .ok (.invokevirtual 163, 3) := by decide +kernel
theorem dX5_runInput_58 : decode cX5_runInput 58 = .ok (.invokevirtual 166, 3) := by decide +kernel
theorem dX5_runInput_61 : decode cX5_runInput 61 = .ok (.istore_n 3, 1) := by decide +kernel
theorem dX5_runInput_62 : decode cX5_runInput 62 = .ok (.iload_n 3, 1) := by decide +kernel
theorem dX5_runInput_63 : decode cX5_runInput 63 = .ok (.iconst 3, 1) := by decide +kernel
theorem dX5_runInput_64 : decode cX5_runInput 64 = .ok (.if_icmp .eq 11, 3) := by decide +kernel
theorem dX5_runInput_67 : decode cX5_runInput 67 = .ok (.iload_n 3, 1) := by decide +kernel
theorem dX5_runInput_68 : decode cX5_runInput 68 = .ok (.iconst 4, 1) := by decide +kernel
theorem dX5_runInput_69 : decode cX5_runInput 69 = .ok (.if_icmp .eq 6, 3) := by decide +kernel
theorem dX5_runInput_72 : decode cX5_runInput 72 = .ok (.iinc 1 1, 3) := by decide +kernel
theorem dX5_runInput_75 : decode cX5_runInput 75 = .ok (.iinc 2 6, 3) := by decide +kernel
theorem dX5_runInput_78 : decode cX5_runInput 78 = .ok (.goto (-61), 3) := by decide +kernel
theorem dX5_runInput_81 : decode cX5_runInput 81 = .ok (.aload_n 0, 1) := by decide +kernel
theorem dX5_runInput_82 : decode cX5_runInput 82 = .ok (.getfield 40, 3) := by decide +kernel
theorem dX5_runInput_85 : decode cX5_runInput 85 = .ok (.iconst 0, 1) := by decide +kernel
theorem dX5_runInput_86 : decode cX5_runInput 86 = .ok (.putfield 147, 3) := by decide +kernel
theorem dX5_runInput_89 : decode cX5_runInput 89 = .ok (.iload_n 1, 1) := by decide +kernel
theorem dX5_runInput_90 : decode cX5_runInput 90 = .ok (.ireturn, 1) := by decide +kernel
theorem dX5_cellOf_0 : decode cX5_cellOf 0 = .ok (.iload_n 1, 1) := by decide +kernel
theorem dX5_cellOf_1 : decode cX5_cellOf 1 = .ok (.invokestatic 70, 3) := by decide +kernel
theorem dX5_cellOf_4 : decode cX5_cellOf 4 = .ok (.ifCond .eq 11, 3) := by decide +kernel
theorem dX5_cellOf_7 : decode cX5_cellOf 7 = .ok (.aload_n 0, 1) := by decide +kernel
theorem dX5_cellOf_8 : decode cX5_cellOf 8 = .ok (.iload_n 1, 1) := by decide +kernel
theorem dX5_cellOf_9 : decode cX5_cellOf 9 = .ok (.invokevirtual 77, 3) := by decide +kernel
theorem dX5_cellOf_12 : decode cX5_cellOf 12 = .ok (.goto 5, 3) := by decide +kernel
theorem dX5_cellOf_15 : decode cX5_cellOf 15 = .ok (.bipush (-105), 2) := by decide +kernel
theorem dX5_cellOf_17 : decode cX5_cellOf 17 = .ok (.ireturn, 1) := by decide +kernel
theorem dX5_score_0 : decode cX5_score 0 = .ok (.aload_n 0, 1) := by decide +kernel
theorem dX5_score_1 : decode cX5_score 1 = .ok (.iload_n 1, 1) := by decide +kernel
theorem dX5_score_2 : decode cX5_score 2 = .ok (.invokevirtual 124, 3) := by decide +kernel
theorem dX5_score_5 : decode cX5_score 5 = .ok (.ifCond .eq 15, 3) := by decide +kernel
theorem dX5_score_8 : decode cX5_score 8 = .ok (.aload_n 0, 1) := by decide +kernel
theorem dX5_score_9 : decode cX5_score 9 = .ok (.getfield 11, 3) := by decide +kernel
theorem dX5_score_12 : decode cX5_score 12 = .ok (.iload_n 1, 1) := by decide +kernel
theorem dX5_score_13 : decode cX5_score 13 = .ok (.aaload, 1) := by decide +kernel
theorem dX5_score_14 : decode cX5_score 14 = .ok (.getfield 127, 3) := by decide +kernel
theorem dX5_score_17 : decode cX5_score 17 = .ok (.goto 5, 3) := by decide +kernel
theorem dX5_score_20 : decode cX5_score 20 = .ok (.bipush (-107), 2) := by decide +kernel
theorem dX5_score_22 : decode cX5_score 22 = .ok (.ireturn, 1) := by decide +kernel
theorem dX5_isBlocked_0 : decode cX5_isBlocked 0 = .ok (.aload_n 0, 1) := by decide +kernel
theorem dX5_isBlocked_1 : decode cX5_isBlocked 1 = .ok (.iload_n 1, 1) := by decide +kernel
theorem dX5_isBlocked_2 : decode cX5_isBlocked 2 = .ok (.invokevirtual 124, 3) := by decide +kernel
theorem dX5_isBlocked_5 : decode cX5_isBlocked 5 = .ok (.ifCond .ne 6, 3) := by decide +kernel
theorem dX5_isBlocked_8 : decode cX5_isBlocked 8 = .ok (.bipush (-107), 2) := by decide +kernel
theorem dX5_isBlocked_10 : decode cX5_isBlocked 10 = .ok (.ireturn, 1) := by decide +kernel
theorem dX5_isBlocked_11 : decode cX5_isBlocked 11 = .ok (.aload_n 0, 1) := by decide +kernel
theorem dX5_isBlocked_12 : decode cX5_isBlocked 12 = .ok (.getfield 11, 3) := by decide +kernel
theorem dX5_isBlocked_15 : decode cX5_isBlocked 15 = .ok (.iload_n 1, 1) := by decide +kernel
theorem dX5_isBlocked_16 : decode cX5_isBlocked 16 = .ok (.aaload, 1) := by decide +kernel
theorem dX5_isBlocked_17 : decode cX5_isBlocked 17 = .ok (.getfield 81, 3) := by decide +kernel
theorem dX5_isBlocked_20 : decode cX5_isBlocked 20 = .ok (.ifCond .eq 7, 3) := by decide +kernel
theorem dX5_isBlocked_23 : decode cX5_isBlocked 23 = .ok (.iconst 1, 1) := by decide +kernel
theorem dX5_isBlocked_24 : decode cX5_isBlocked 24 = .ok (.goto 4, 3) := by decide +kernel
theorem dX5_isBlocked_27 : decode cX5_isBlocked 27 = .ok (.iconst 0, 1) := by decide +kernel
theorem dX5_isBlocked_28 : decode cX5_isBlocked 28 = .ok (.ireturn, 1) := by decide +kernel
theorem dX5_seenDestinations_0 : decode cX5_seenDestinations 0 = .ok (.aload_n 0, 1) := by decide +kernel
theorem dX5_seenDestinations_1 : decode cX5_seenDestinations 1 = .ok (.iload_n 1, 1) := by decide +kernel
theorem dX5_seenDestinations_2 : decode cX5_seenDestinations 2 = .ok (.invokevirtual 124, 3) := by decide +kernel
theorem dX5_seenDestinations_5 : decode cX5_seenDestinations 5 = .ok (.ifCond .eq 15, 3) := by decide +kernel
theorem dX5_seenDestinations_8 : decode cX5_seenDestinations 8 = .ok (.aload_n 0, 1) := by decide +kernel
theorem dX5_seenDestinations_9 : decode cX5_seenDestinations 9 = .ok (.getfield 11, 3) := by decide +kernel
theorem dX5_seenDestinations_12 : decode cX5_seenDestinations 12 = .ok (.iload_n 1, 1) := by decide +kernel
theorem dX5_seenDestinations_13 : decode cX5_seenDestinations 13 = .ok (.aaload, 1) := by decide +kernel
theorem dX5_seenDestinations_14 : decode cX5_seenDestinations 14 = .ok (.getfield 170, 3) := by decide +kernel
theorem dX5_seenDestinations_17 : decode cX5_seenDestinations 17 = .ok (.goto 6, 3) := by decide +kernel
theorem dX5_seenDestinations_20 : decode cX5_seenDestinations 20 = .ok (.ldc2_w 174, 3) := by decide +kernel
theorem dX5_seenDestinations_23 : decode cX5_seenDestinations 23 = .ok (.lreturn, 1) := by decide +kernel
theorem dX5_blockedContacts_0 : decode cX5_blockedContacts 0 = .ok (.aload_n 0, 1) := by decide +kernel
theorem dX5_blockedContacts_1 : decode cX5_blockedContacts 1 = .ok (.iload_n 1, 1) := by decide +kernel
theorem dX5_blockedContacts_2 : decode cX5_blockedContacts 2 = .ok (.invokevirtual 124, 3) := by decide +kernel
theorem dX5_blockedContacts_5 : decode cX5_blockedContacts 5 = .ok (.ifCond .eq 15, 3) := by decide +kernel
theorem dX5_blockedContacts_8 : decode cX5_blockedContacts 8 = .ok (.aload_n 0, 1) := by decide +kernel
theorem dX5_blockedContacts_9 : decode cX5_blockedContacts 9 = .ok (.getfield 11, 3) := by decide +kernel
theorem dX5_blockedContacts_12 : decode cX5_blockedContacts 12 = .ok (.iload_n 1, 1) := by decide +kernel
theorem dX5_blockedContacts_13 : decode cX5_blockedContacts 13 = .ok (.aaload, 1) := by decide +kernel
theorem dX5_blockedContacts_14 : decode cX5_blockedContacts 14 = .ok (.getfield 176, 3) := by decide +kernel
theorem dX5_blockedContacts_17 : decode cX5_blockedContacts 17 = .ok (.goto 5, 3) := by decide +kernel
theorem dX5_blockedContacts_20 : decode cX5_blockedContacts 20 = .ok (.bipush (-107), 2) := by decide +kernel
theorem dX5_blockedContacts_22 : decode cX5_blockedContacts 22 = .ok (.ireturn, 1) := by decide +kernel
theorem dX5_wronglyBlocked_0 : decode cX5_wronglyBlocked 0 = .ok (.aload_n 0, 1) := by decide +kernel
theorem dX5_wronglyBlocked_1 : decode cX5_wronglyBlocked 1 = .ok (.iload_n 1, 1) := by decide +kernel
theorem dX5_wronglyBlocked_2 : decode cX5_wronglyBlocked 2 = .ok (.invokevirtual 124, 3) := by decide +kernel
theorem dX5_wronglyBlocked_5 : decode cX5_wronglyBlocked 5 = .ok (.ifCond .eq 15, 3) := by decide +kernel
theorem dX5_wronglyBlocked_8 : decode cX5_wronglyBlocked 8 = .ok (.aload_n 0, 1) := by decide +kernel
theorem dX5_wronglyBlocked_9 : decode cX5_wronglyBlocked 9 = .ok (.getfield 11, 3) := by decide +kernel
theorem dX5_wronglyBlocked_12 : decode cX5_wronglyBlocked 12 = .ok (.iload_n 1, 1) := by decide +kernel
theorem dX5_wronglyBlocked_13 : decode cX5_wronglyBlocked 13 = .ok (.aaload, 1) := by decide +kernel
theorem dX5_wronglyBlocked_14 : decode cX5_wronglyBlocked 14 = .ok (.getfield 179, 3) := by decide +kernel
theorem dX5_wronglyBlocked_17 : decode cX5_wronglyBlocked 17 = .ok (.goto 5, 3) := by decide +kernel
theorem dX5_wronglyBlocked_20 : decode cX5_wronglyBlocked 20 = .ok (.bipush (-107), 2) := by decide +kernel
theorem dX5_wronglyBlocked_22 : decode cX5_wronglyBlocked 22 = .ok (.ireturn, 1) := by decide +kernel
theorem dX5_cellExists_0 : decode cX5_cellExists 0 = .ok (.iload_n 1, 1) := by decide +kernel
theorem dX5_cellExists_1 : decode cX5_cellExists 1 = .ok (.iconst 0, 1) := by decide +kernel
theorem dX5_cellExists_2 : decode cX5_cellExists 2 = .ok (.aload_n 0, 1) := by decide +kernel
theorem dX5_cellExists_3 : decode cX5_cellExists 3 = .ok (.getfield 44, 3) := by decide +kernel
theorem dX5_cellExists_6 : decode cX5_cellExists 6 = .ok (.iconst 1, 1) := by decide +kernel
theorem dX5_cellExists_7 : decode cX5_cellExists 7 = .ok (.isub, 1) := by decide +kernel
theorem dX5_cellExists_8 : decode cX5_cellExists 8 = .ok (.invokestatic 54, 3) := by decide +kernel
theorem dX5_cellExists_11 : decode cX5_cellExists 11 = .ok (.ireturn, 1) := by decide +kernel
theorem dX5_sourceExists_0 : decode cX5_sourceExists 0 = .ok (.iload_n 0, 1) := by decide +kernel
theorem dX5_sourceExists_1 : decode cX5_sourceExists 1 = .ok (.iconst 0, 1) := by decide +kernel
theorem dX5_sourceExists_2 : decode cX5_sourceExists 2 = .ok (.bipush 7, 2) := by decide +kernel
theorem dX5_sourceExists_4 : decode cX5_sourceExists 4 = .ok (.invokestatic 54, 3) := by decide +kernel
theorem dX5_sourceExists_7 : decode cX5_sourceExists 7 = .ok (.ireturn, 1) := by decide +kernel
theorem dX5_destinationExists_0 : decode cX5_destinationExists 0 = .ok (.iload_n 0, 1) := by decide +kernel
theorem dX5_destinationExists_1 : decode cX5_destinationExists 1 = .ok (.iconst 0, 1) := by decide +kernel
theorem dX5_destinationExists_2 : decode cX5_destinationExists 2 = .ok (.bipush 31, 2) := by decide +kernel
theorem dX5_destinationExists_4 : decode cX5_destinationExists 4 = .ok (.invokestatic 54, 3) := by decide +kernel
theorem dX5_destinationExists_7 : decode cX5_destinationExists 7 = .ok (.ireturn, 1) := by decide +kernel
theorem dX5_within_0 : decode cX5_within 0 = .ok (.iload_n 0, 1) := by decide +kernel
theorem dX5_within_1 : decode cX5_within 1 = .ok (.iload_n 1, 1) := by decide +kernel
theorem dX5_within_2 : decode cX5_within 2 = .ok (.if_icmp .lt 12, 3) := by decide +kernel
theorem dX5_within_5 : decode cX5_within 5 = .ok (.iload_n 0, 1) := by decide +kernel
theorem dX5_within_6 : decode cX5_within 6 = .ok (.iload_n 2, 1) := by decide +kernel
theorem dX5_within_7 : decode cX5_within 7 = .ok (.if_icmp .gt 7, 3) := by decide +kernel
theorem dX5_within_10 : decode cX5_within 10 = .ok (.iconst 1, 1) := by decide +kernel
theorem dX5_within_11 : decode cX5_within 11 = .ok (.goto 4, 3) := by decide +kernel
theorem dX5_within_14 : decode cX5_within 14 = .ok (.iconst 0, 1) := by decide +kernel
theorem dX5_within_15 : decode cX5_within 15 = .ok (.ireturn, 1) := by decide +kernel
theorem dX5_cellIndex_0 : decode cX5_cellIndex 0 = .ok (.aload_n 0, 1) := by decide +kernel
theorem dX5_cellIndex_1 : decode cX5_cellIndex 1 = .ok (.getfield 44, 3) := by decide +kernel
theorem dX5_cellIndex_4 : decode cX5_cellIndex 4 = .ok (.ifCond .le 12, 3) := by decide +kernel
theorem dX5_cellIndex_7 : decode cX5_cellIndex 7 = .ok (.iload_n 1, 1) := by decide +kernel
theorem dX5_cellIndex_8 : decode cX5_cellIndex 8 = .ok (.aload_n 0, 1) := by decide +kernel
theorem dX5_cellIndex_9 : decode cX5_cellIndex 9 = .ok (.getfield 44, 3) := by decide +kernel
theorem dX5_cellIndex_12 : decode cX5_cellIndex 12 = .ok (.irem, 1) := by decide +kernel
theorem dX5_cellIndex_13 : decode cX5_cellIndex 13 = .ok (.goto 4, 3) := by decide +kernel
theorem dX5_cellIndex_16 : decode cX5_cellIndex 16 = .ok (.iconst 0, 1) := by decide +kernel
theorem dX5_cellIndex_17 : decode cX5_cellIndex 17 = .ok (.ireturn, 1) := by decide +kernel
theorem dX5_attemptCount_0 : decode cX5_attemptCount 0 = .ok (.aload_n 0, 1) := by decide +kernel
theorem dX5_attemptCount_1 : decode cX5_attemptCount 1 = .ok (.getfield 26, 3) := by decide +kernel
theorem dX5_attemptCount_4 : decode cX5_attemptCount 4 = .ok (.getfield 66, 3) := by decide +kernel
theorem dX5_attemptCount_7 : decode cX5_attemptCount 7 = .ok (.ireturn, 1) := by decide +kernel
theorem dX5_describeAttempt_0 : decode cX5_describeAttempt 0 = .ok (.iload_n 1, 1) := by decide +kernel
theorem dX5_describeAttempt_1 : decode cX5_describeAttempt 1 = .ok (.iconst 0, 1) := by decide +kernel
theorem dX5_describeAttempt_2 : decode cX5_describeAttempt 2 = .ok (.aload_n 0, 1) := by decide +kernel
theorem dX5_describeAttempt_3 : decode cX5_describeAttempt 3 = .ok (.getfield 26, 3) := by decide +kernel
theorem dX5_describeAttempt_6 : decode cX5_describeAttempt 6 = .ok (.getfield 66, 3) := by decide +kernel
theorem dX5_describeAttempt_9 : decode cX5_describeAttempt 9 = .ok (.iconst 1, 1) := by decide +kernel
theorem dX5_describeAttempt_10 : decode cX5_describeAttempt 10 = .ok (.isub, 1) := by decide +kernel
theorem dX5_describeAttempt_11 : decode cX5_describeAttempt 11 = .ok (.invokestatic 54, 3) := by decide +kernel
theorem dX5_describeAttempt_14 : decode cX5_describeAttempt 14 = .ok (.ifCond .ne 6, 3) := by decide +kernel
theorem dX5_describeAttempt_17 : decode cX5_describeAttempt 17 = .ok (.bipush (-108), 2) := by decide +kernel
theorem dX5_describeAttempt_19 : decode cX5_describeAttempt 19 = .ok (.ireturn, 1) := by decide +kernel
theorem dX5_describeAttempt_20 : decode cX5_describeAttempt 20 = .ok (.aload_n 0, 1) := by decide +kernel
theorem dX5_describeAttempt_21 : decode cX5_describeAttempt 21 = .ok (.getfield 26, 3) := by decide +kernel
theorem dX5_describeAttempt_24 : decode cX5_describeAttempt 24 = .ok (.getfield 182, 3) := by decide +kernel
theorem dX5_describeAttempt_27 : decode cX5_describeAttempt 27 = .ok (.iload_n 1, 1) := by decide +kernel
theorem dX5_describeAttempt_28 : decode cX5_describeAttempt 28 = .ok (.iaload, 1) := by decide +kernel
theorem dX5_describeAttempt_29 : decode cX5_describeAttempt 29 = .ok (.aload_n 0, 1) := by decide +kernel
theorem dX5_describeAttempt_30 : decode cX5_describeAttempt 30 = .ok (.getfield 51, 3) := by decide +kernel
theorem dX5_describeAttempt_33 : decode cX5_describeAttempt 33 = .ok (.isub, 1) := by decide +kernel
theorem dX5_describeAttempt_34 : decode cX5_describeAttempt 34 = .ok (.istore_n 2, 1) := by decide +kernel
theorem dX5_describeAttempt_35 : decode cX5_describeAttempt 35 = .ok (.sipush 1000, 3) := by decide +kernel
theorem dX5_describeAttempt_38 : decode cX5_describeAttempt 38 = .ok (.iload_n 2, 1) := by decide +kernel
theorem dX5_describeAttempt_39 : decode cX5_describeAttempt 39 = .ok (.imul, 1) := by decide +kernel
theorem dX5_describeAttempt_40 : decode cX5_describeAttempt 40 = .ok (.bipush 100, 2) := by decide +kernel
theorem dX5_describeAttempt_42 : decode cX5_describeAttempt 42 = .ok (.aload_n 0, 1) := by decide +kernel
theorem dX5_describeAttempt_43 : decode cX5_describeAttempt 43 = .ok (.getfield 26, 3) := by decide +kernel
theorem dX5_describeAttempt_46 : decode cX5_describeAttempt 46 = .ok (.getfield 120, 3) := by decide +kernel
theorem dX5_describeAttempt_49 : decode cX5_describeAttempt 49 = .ok (.iload_n 1, 1) := by decide +kernel
theorem dX5_describeAttempt_50 : decode cX5_describeAttempt 50 = .ok (.iaload, 1) := by decide +kernel
theorem dX5_describeAttempt_51 : decode cX5_describeAttempt 51 = .ok (.imul, 1) := by decide +kernel
theorem dX5_describeAttempt_52 : decode cX5_describeAttempt 52 = .ok (.iadd, 1) := by decide +kernel
theorem dX5_describeAttempt_53 : decode cX5_describeAttempt 53 = .ok (.aload_n 0, 1) := by decide +kernel
theorem dX5_describeAttempt_54 : decode cX5_describeAttempt 54 = .ok (.getfield 26, 3) := by decide +kernel
theorem dX5_describeAttempt_57 : decode cX5_describeAttempt 57 = .ok (.getfield 185, 3) := by decide +kernel
theorem dX5_describeAttempt_60 : decode cX5_describeAttempt 60 = .ok (.iload_n 1, 1) := by decide +kernel
theorem dX5_describeAttempt_61 : decode cX5_describeAttempt 61 = .ok (.iaload, 1) := by decide +kernel
theorem dX5_describeAttempt_62 : decode cX5_describeAttempt 62 = .ok (.iadd, 1) := by decide +kernel
theorem dX5_describeAttempt_63 : decode cX5_describeAttempt 63 = .ok (.ireturn, 1) := by decide +kernel
theorem dX5_clock_0 : decode cX5_clock 0 = .ok (.aload_n 0, 1) := by decide +kernel
theorem dX5_clock_1 : decode cX5_clock 1 = .ok (.getfield 51, 3) := by decide +kernel
theorem dX5_clock_4 : decode cX5_clock 4 = .ok (.ireturn, 1) := by decide +kernel
theorem dX5_verdictCount_0 : decode cX5_verdictCount 0 = .ok (.aload_n 0, 1) := by decide +kernel
theorem dX5_verdictCount_1 : decode cX5_verdictCount 1 = .ok (.getfield 33, 3) := by decide +kernel
theorem dX5_verdictCount_4 : decode cX5_verdictCount 4 = .ok (.getfield 69, 3) := by decide +kernel
theorem dX5_verdictCount_7 : decode cX5_verdictCount 7 = .ok (.ireturn, 1) := by decide +kernel
theorem dX5_describeVerdict_0 : decode cX5_describeVerdict 0 = .ok (.iload_n 1, 1) := by decide +kernel
theorem dX5_describeVerdict_1 : decode cX5_describeVerdict 1 = .ok (.iconst 0, 1) := by decide +kernel
theorem dX5_describeVerdict_2 : decode cX5_describeVerdict 2 = .ok (.aload_n 0, 1) := by decide +kernel
theorem dX5_describeVerdict_3 : decode cX5_describeVerdict 3 = .ok (.getfield 33, 3) := by decide +kernel
theorem dX5_describeVerdict_6 : decode cX5_describeVerdict 6 = .ok (.invokevirtual 188, 3) := by decide +kernel
theorem dX5_describeVerdict_9 : decode cX5_describeVerdict 9 = .ok (.iconst 1, 1) := by decide +kernel
theorem dX5_describeVerdict_10 : decode cX5_describeVerdict 10 = .ok (.isub, 1) := by decide +kernel
theorem dX5_describeVerdict_11 : decode cX5_describeVerdict 11 = .ok (.invokestatic 54, 3) := by decide +kernel
theorem dX5_describeVerdict_14 : decode cX5_describeVerdict 14 = .ok (.ifCond .ne 6, 3) := by decide +kernel
theorem dX5_describeVerdict_17 : decode cX5_describeVerdict 17 = .ok (.bipush (-109), 2) := by decide +kernel
theorem dX5_describeVerdict_19 : decode cX5_describeVerdict 19 = .ok (.ireturn, 1) := by decide +kernel
theorem dX5_describeVerdict_20 : decode cX5_describeVerdict 20 = .ok (.aload_n 0, 1) := by decide +kernel
theorem dX5_describeVerdict_21 : decode cX5_describeVerdict 21 = .ok (.getfield 33, 3) := by decide +kernel
theorem dX5_describeVerdict_24 : decode cX5_describeVerdict 24 = .ok (.iload_n 1, 1) := by decide +kernel
theorem dX5_describeVerdict_25 : decode cX5_describeVerdict 25 = .ok (.invokevirtual 191, 3) := by decide +kernel
theorem dX5_describeVerdict_28 : decode cX5_describeVerdict 28 = .ok (.ireturn, 1) := by decide +kernel
theorem dX5_countSequences_0 : decode cX5_countSequences 0 = .ok (.iload_n 1, 1) := by decide +kernel
theorem dX5_countSequences_1 : decode cX5_countSequences 1 = .ok (.iconst 0, 1) := by decide +kernel
theorem dX5_countSequences_2 : decode cX5_countSequences 2 = .ok (.bipush 20, 2) := by decide +kernel
theorem dX5_countSequences_4 : decode cX5_countSequences 4 = .ok (.invokestatic 54, 3) := by decide +kernel
theorem dX5_countSequences_7 : decode cX5_countSequences 7 = .ok (.ifCond .eq 12, 3) := by decide +kernel
theorem dX5_countSequences_10 : decode cX5_countSequences 10 = .ok (.iload_n 2, 1) := by decide +kernel
theorem dX5_countSequences_11 : decode cX5_countSequences 11 = .ok (.iconst 0, 1) := by decide +kernel
theorem dX5_countSequences_12 : decode cX5_countSequences 12 = .ok (.iconst 2, 1) := by decide +kernel
theorem dX5_countSequences_13 : decode cX5_countSequences 13 = .ok (.invokestatic 54, 3) := by decide +kernel
theorem dX5_countSequences_16 : decode cX5_countSequences 16 = .ok (.ifCond .ne 6, 3) := by decide +kernel
theorem dX5_countSequences_19 : decode cX5_countSequences 19 = .ok (.bipush (-104), 2) := by decide +kernel
theorem dX5_countSequences_21 : decode cX5_countSequences 21 = .ok (.ireturn, 1) := by decide +kernel
theorem dX5_countSequences_22 : decode cX5_countSequences 22 = .ok (.aload_n 0, 1) := by decide +kernel
theorem dX5_countSequences_23 : decode cX5_countSequences 23 = .ok (.getfield 19, 3) := by decide +kernel
theorem dX5_countSequences_26 : decode cX5_countSequences 26 = .ok (.iload_n 1, 1) := by decide +kernel
theorem dX5_countSequences_27 : decode cX5_countSequences 27 = .ok (.iload_n 2, 1) := by decide +kernel
theorem dX5_countSequences_28 : decode cX5_countSequences 28 = .ok (.invokevirtual 194, 3) := by decide +kernel
theorem dX5_countSequences_31 : decode cX5_countSequences 31 = .ok (.ireturn, 1) := by decide +kernel
theorem dX5_scannerProbability_0 : decode cX5_scannerProbability 0 = .ok (.iload_n 1, 1) := by decide +kernel
theorem dX5_scannerProbability_1 : decode cX5_scannerProbability 1 = .ok (.iconst 0, 1) := by decide +kernel
theorem dX5_scannerProbability_2 : decode cX5_scannerProbability 2 = .ok (.bipush 100, 2) := by decide +kernel
theorem dX5_scannerProbability_4 : decode cX5_scannerProbability 4 = .ok (.invokestatic 54, 3) := by decide +kernel
theorem dX5_scannerProbability_7 : decode cX5_scannerProbability 7 = .ok (.ifCond .eq 13, 3) := by decide +kernel
theorem dX5_scannerProbability_10 : decode cX5_scannerProbability 10 = .ok (.iload_n 2, 1) := by decide +kernel
theorem dX5_scannerProbability_11 : decode cX5_scannerProbability 11 = .ok (.iconst 0, 1) := by decide +kernel
theorem dX5_scannerProbability_12 : decode cX5_scannerProbability 12 = .ok (.bipush 60, 2) := by decide +kernel
theorem dX5_scannerProbability_14 : decode cX5_scannerProbability 14 = .ok (.invokestatic 54, 3) := by decide +kernel
theorem dX5_scannerProbability_17 : decode cX5_scannerProbability 17 = .ok (.ifCond .ne 7, 3) := by decide +kernel
theorem dX5_scannerProbability_20 : decode cX5_scannerProbability 20 = .ok (.ldc2_w 197, 3) := by decide +kernel
theorem dX5_scannerProbability_23 : decode cX5_scannerProbability 23 = .ok (.lreturn, 1) := by decide +kernel
theorem dX5_scannerProbability_24 : decode cX5_scannerProbability 24 = .ok (.aload_n 0, 1) := by decide +kernel
theorem dX5_scannerProbability_25 : decode cX5_scannerProbability 25 = .ok (.getfield 19, 3) := by decide +kernel
theorem dX5_scannerProbability_28 : decode cX5_scannerProbability 28 = .ok (.iload_n 1, 1) := by decide +kernel
theorem dX5_scannerProbability_29 : decode cX5_scannerProbability 29 = .ok (.i2d, 1) := by decide +kernel
theorem dX5_scannerProbability_30 : decode cX5_scannerProbability 30 = .ok (.ldc2_w 199, 3) := by decide +kernel
theorem dX5_scannerProbability_33 : decode cX5_scannerProbability 33 = .ok (.ddiv, 1) := by decide +kernel
theorem dX5_scannerProbability_34 : decode cX5_scannerProbability 34 = .ok (.iload_n 2, 1) := by decide +kernel
theorem dX5_scannerProbability_35 : decode cX5_scannerProbability 35 = .ok (.invokevirtual 201, 3) := by decide +kernel
theorem dX5_scannerProbability_38 : decode cX5_scannerProbability 38 = .ok (.invokestatic 205, 3) := by decide +kernel
theorem dX5_scannerProbability_41 : decode cX5_scannerProbability 41 = .ok (.lreturn, 1) := by decide +kernel
theorem dX5_expectedContacts_0 : decode cX5_expectedContacts 0 = .ok (.iload_n 1, 1) := by decide +kernel
theorem dX5_expectedContacts_1 : decode cX5_expectedContacts 1 = .ok (.iconst 0, 1) := by decide +kernel
theorem dX5_expectedContacts_2 : decode cX5_expectedContacts 2 = .ok (.bipush 100, 2) := by decide +kernel
theorem dX5_expectedContacts_4 : decode cX5_expectedContacts 4 = .ok (.invokestatic 54, 3) := by decide +kernel
theorem dX5_expectedContacts_7 : decode cX5_expectedContacts 7 = .ok (.ifCond .eq 13, 3) := by decide +kernel
theorem dX5_expectedContacts_10 : decode cX5_expectedContacts 10 = .ok (.iload_n 2, 1) := by decide +kernel
theorem dX5_expectedContacts_11 : decode cX5_expectedContacts 11 = .ok (.iconst 0, 1) := by decide +kernel
theorem dX5_expectedContacts_12 : decode cX5_expectedContacts 12 = .ok (.bipush 60, 2) := by decide +kernel
theorem dX5_expectedContacts_14 : decode cX5_expectedContacts 14 = .ok (.invokestatic 54, 3) := by decide +kernel
theorem dX5_expectedContacts_17 : decode cX5_expectedContacts 17 = .ok (.ifCond .ne 7, 3) := by decide +kernel
theorem dX5_expectedContacts_20 : decode cX5_expectedContacts 20 = .ok (.ldc2_w 197, 3) := by decide +kernel
theorem dX5_expectedContacts_23 : decode cX5_expectedContacts 23 = .ok (.lreturn, 1) := by decide +kernel
theorem dX5_expectedContacts_24 : decode cX5_expectedContacts 24 = .ok (.aload_n 0, 1) := by decide +kernel
theorem dX5_expectedContacts_25 : decode cX5_expectedContacts 25 = .ok (.getfield 19, 3) := by decide +kernel
theorem dX5_expectedContacts_28 : decode cX5_expectedContacts 28 = .ok (.iload_n 1, 1) := by decide +kernel
theorem dX5_expectedContacts_29 : decode cX5_expectedContacts 29 = .ok (.i2d, 1) := by decide +kernel
theorem dX5_expectedContacts_30 : decode cX5_expectedContacts 30 = .ok (.ldc2_w 199, 3) := by decide +kernel
theorem dX5_expectedContacts_33 : decode cX5_expectedContacts 33 = .ok (.ddiv, 1) := by decide +kernel
theorem dX5_expectedContacts_34 : decode cX5_expectedContacts 34 = .ok (.iload_n 2, 1) := by decide +kernel
theorem dX5_expectedContacts_35 : decode cX5_expectedContacts 35 = .ok (.invokevirtual 209, 3) := by decide +kernel
theorem dX5_expectedContacts_38 : decode cX5_expectedContacts 38 = .ok (.invokestatic 205, 3) := by decide +kernel
theorem dX5_expectedContacts_41 : decode cX5_expectedContacts 41 = .ok (.lreturn, 1) := by decide +kernel
theorem dX5_bitsOf_0 : decode cX5_bitsOf 0 = .ok (.dload_n 0, 1) := by decide +kernel
theorem dX5_bitsOf_1 : decode cX5_bitsOf 1 = .ok (.dconst 0, 1) := by decide +kernel
theorem dX5_bitsOf_2 : decode cX5_bitsOf 2 = .ok (.dcmp .l, 1) := by decide +kernel
theorem dX5_bitsOf_3 : decode cX5_bitsOf 3 = .ok (.ifCond .gt 5, 3) := by decide +kernel
theorem dX5_bitsOf_6 : decode cX5_bitsOf 6 = .ok (.lconst 0, 1) := by decide +kernel
theorem dX5_bitsOf_7 : decode cX5_bitsOf 7 = .ok (.lreturn, 1) := by decide +kernel
theorem dX5_bitsOf_8 : decode cX5_bitsOf 8 = .ok (.dload_n 0, 1) := by decide +kernel
theorem dX5_bitsOf_9 : decode cX5_bitsOf 9 = .ok (.dstore_n 2, 1) := by decide +kernel
theorem dX5_bitsOf_10 : decode cX5_bitsOf 10 = .ok (.ldc2_w 212, 3) := by decide +kernel
theorem dX5_bitsOf_13 : decode cX5_bitsOf 13 = .ok (.lstore 4, 2) := by decide +kernel
theorem dX5_bitsOf_15 : decode cX5_bitsOf 15 = .ok (.iconst 0, 1) := by decide +kernel
theorem dX5_bitsOf_16 : decode cX5_bitsOf 16 = .ok (.istore 6, 2) := by decide +kernel
theorem dX5_bitsOf_18 : decode cX5_bitsOf 18 = .ok (.iload 6, 2) := by decide +kernel
theorem dX5_bitsOf_20 : decode cX5_bitsOf 20 = .ok (.sipush 1100, 3) := by decide +kernel
theorem dX5_bitsOf_23 : decode cX5_bitsOf 23 = .ok (.if_icmp .ge 29, 3) := by decide +kernel
theorem dX5_bitsOf_26 : decode cX5_bitsOf 26 = .ok (.dload_n 2, 1) := by decide +kernel
theorem dX5_bitsOf_27 : decode cX5_bitsOf 27 = .ok (.ldc2_w 214, 3) := by decide +kernel
theorem dX5_bitsOf_30 : decode cX5_bitsOf 30 = .ok (.dcmp .l, 1) := by decide +kernel
theorem dX5_bitsOf_31 : decode cX5_bitsOf 31 = .ok (.ifCond .lt 21, 3) := by decide +kernel
theorem dX5_bitsOf_34 : decode cX5_bitsOf 34 = .ok (.dload_n 2, 1) := by decide +kernel
theorem dX5_bitsOf_35 : decode cX5_bitsOf 35 = .ok (.ldc2_w 216, 3) := by decide +kernel
theorem dX5_bitsOf_38 : decode cX5_bitsOf 38 = .ok (.dmul, 1) := by decide +kernel
theorem dX5_bitsOf_39 : decode cX5_bitsOf 39 = .ok (.dstore_n 2, 1) := by decide +kernel
theorem dX5_bitsOf_40 : decode cX5_bitsOf 40 = .ok (.lload 4, 2) := by decide +kernel
theorem dX5_bitsOf_42 : decode cX5_bitsOf 42 = .ok (.lconst 1, 1) := by decide +kernel
theorem dX5_bitsOf_43 : decode cX5_bitsOf 43 = .ok (.ladd, 1) := by decide +kernel
theorem dX5_bitsOf_44 : decode cX5_bitsOf 44 = .ok (.lstore 4, 2) := by decide +kernel
theorem dX5_bitsOf_46 : decode cX5_bitsOf 46 = .ok (.iinc 6 1, 3) := by decide +kernel
theorem dX5_bitsOf_49 : decode cX5_bitsOf 49 = .ok (.goto (-31), 3) := by decide +kernel
theorem dX5_bitsOf_52 : decode cX5_bitsOf 52 = .ok (.iconst 0, 1) := by decide +kernel
theorem dX5_bitsOf_53 : decode cX5_bitsOf 53 = .ok (.istore 6, 2) := by decide +kernel
theorem dX5_bitsOf_55 : decode cX5_bitsOf 55 = .ok (.iload 6, 2) := by decide +kernel
theorem dX5_bitsOf_57 : decode cX5_bitsOf 57 = .ok (.sipush 1100, 3) := by decide +kernel
theorem dX5_bitsOf_60 : decode cX5_bitsOf 60 = .ok (.if_icmp .ge 27, 3) := by decide +kernel
theorem dX5_bitsOf_63 : decode cX5_bitsOf 63 = .ok (.dload_n 2, 1) := by decide +kernel
theorem dX5_bitsOf_64 : decode cX5_bitsOf 64 = .ok (.dconst 1, 1) := by decide +kernel
theorem dX5_bitsOf_65 : decode cX5_bitsOf 65 = .ok (.dcmp .g, 1) := by decide +kernel
theorem dX5_bitsOf_66 : decode cX5_bitsOf 66 = .ok (.ifCond .ge 21, 3) := by decide +kernel
theorem dX5_bitsOf_69 : decode cX5_bitsOf 69 = .ok (.dload_n 2, 1) := by decide +kernel
theorem dX5_bitsOf_70 : decode cX5_bitsOf 70 = .ok (.ldc2_w 214, 3) := by decide +kernel
theorem dX5_bitsOf_73 : decode cX5_bitsOf 73 = .ok (.dmul, 1) := by decide +kernel
theorem dX5_bitsOf_74 : decode cX5_bitsOf 74 = .ok (.dstore_n 2, 1) := by decide +kernel
theorem dX5_bitsOf_75 : decode cX5_bitsOf 75 = .ok (.lload 4, 2) := by decide +kernel
theorem dX5_bitsOf_77 : decode cX5_bitsOf 77 = .ok (.lconst 1, 1) := by decide +kernel
theorem dX5_bitsOf_78 : decode cX5_bitsOf 78 = .ok (.lsub, 1) := by decide +kernel
theorem dX5_bitsOf_79 : decode cX5_bitsOf 79 = .ok (.lstore 4, 2) := by decide +kernel
theorem dX5_bitsOf_81 : decode cX5_bitsOf 81 = .ok (.iinc 6 1, 3) := by decide +kernel
theorem dX5_bitsOf_84 : decode cX5_bitsOf 84 = .ok (.goto (-29), 3) := by decide +kernel
theorem dX5_bitsOf_87 : decode cX5_bitsOf 87 = .ok (.dload_n 2, 1) := by decide +kernel
theorem dX5_bitsOf_88 : decode cX5_bitsOf 88 = .ok (.dconst 1, 1) := by decide +kernel
theorem dX5_bitsOf_89 : decode cX5_bitsOf 89 = .ok (.dsub, 1) := by decide +kernel
theorem dX5_bitsOf_90 : decode cX5_bitsOf 90 = .ok (.ldc2_w 218, 3) := by decide +kernel
theorem dX5_bitsOf_93 : decode cX5_bitsOf 93 = .ok (.dmul, 1) := by decide +kernel
theorem dX5_bitsOf_94 : decode cX5_bitsOf 94 = .ok (.d2l, 1) := by decide +kernel
theorem dX5_bitsOf_95 : decode cX5_bitsOf 95 = .ok (.lstore 6, 2) := by decide +kernel
theorem dX5_bitsOf_97 : decode cX5_bitsOf 97 = .ok (.lload 4, 2) := by decide +kernel
theorem dX5_bitsOf_99 : decode cX5_bitsOf 99 = .ok (.bipush 52, 2) := by decide +kernel
theorem dX5_bitsOf_101 : decode cX5_bitsOf 101 = .ok (.lshl, 1) := by decide +kernel
theorem dX5_bitsOf_102 : decode cX5_bitsOf 102 = .ok (.lload 6, 2) := by decide +kernel
theorem dX5_bitsOf_104 : decode cX5_bitsOf 104 = .ok (.ladd, 1) := by decide +kernel
theorem dX5_bitsOf_105 : decode cX5_bitsOf 105 = .ok (.lreturn, 1) := by decide +kernel
theorem dX5_digest_0 : decode cX5_digest 0 = .ok (.ldc2_w 220, 3) := by decide +kernel
theorem dX5_digest_3 : decode cX5_digest 3 = .ok (.lstore_n 1, 1) := by decide +kernel
theorem dX5_digest_4 : decode cX5_digest 4 = .ok (.aload_n 0, 1) := by decide +kernel
theorem dX5_digest_5 : decode cX5_digest 5 = .ok (.lload_n 1, 1) := by decide +kernel
theorem dX5_digest_6 : decode cX5_digest 6 = .ok (.invokevirtual 222, 3) := by decide +kernel
theorem dX5_digest_9 : decode cX5_digest 9 = .ok (.lstore_n 1, 1) := by decide +kernel
theorem dX5_digest_10 : decode cX5_digest 10 = .ok (.aload_n 0, 1) := by decide +kernel
theorem dX5_digest_11 : decode cX5_digest 11 = .ok (.lload_n 1, 1) := by decide +kernel
theorem dX5_digest_12 : decode cX5_digest 12 = .ok (.invokevirtual 226, 3) := by decide +kernel
theorem dX5_digest_15 : decode cX5_digest 15 = .ok (.lstore_n 1, 1) := by decide +kernel
theorem dX5_digest_16 : decode cX5_digest 16 = .ok (.aload_n 0, 1) := by decide +kernel
theorem dX5_digest_17 : decode cX5_digest 17 = .ok (.lload_n 1, 1) := by decide +kernel
theorem dX5_digest_18 : decode cX5_digest 18 = .ok (.invokevirtual 229, 3) := by decide +kernel
theorem dX5_digest_21 : decode cX5_digest 21 = .ok (.lstore_n 1, 1) := by decide +kernel
theorem dX5_digest_22 : decode cX5_digest 22 = .ok (.aload_n 0, 1) := by decide +kernel
theorem dX5_digest_23 : decode cX5_digest 23 = .ok (.lload_n 1, 1) := by decide +kernel
theorem dX5_digest_24 : decode cX5_digest 24 = .ok (.invokevirtual 232, 3) := by decide +kernel
theorem dX5_digest_27 : decode cX5_digest 27 = .ok (.lstore_n 1, 1) := by decide +kernel
theorem dX5_digest_28 : decode cX5_digest 28 = .ok (.aload_n 0, 1) := by decide +kernel
theorem dX5_digest_29 : decode cX5_digest 29 = .ok (.lload_n 1, 1) := by decide +kernel
theorem dX5_digest_30 : decode cX5_digest 30 = .ok (.invokevirtual 235, 3) := by decide +kernel
theorem dX5_digest_33 : decode cX5_digest 33 = .ok (.lstore_n 1, 1) := by decide +kernel
theorem dX5_digest_34 : decode cX5_digest 34 = .ok (.aload_n 0, 1) := by decide +kernel
theorem dX5_digest_35 : decode cX5_digest 35 = .ok (.lload_n 1, 1) := by decide +kernel
theorem dX5_digest_36 : decode cX5_digest 36 = .ok (.invokevirtual 238, 3) := by decide +kernel
theorem dX5_digest_39 : decode cX5_digest 39 = .ok (.lreturn, 1) := by decide +kernel
theorem dX5_mix_0 : decode cX5_mix 0 = .ok (.ldc2_w 241, 3) := by decide +kernel
theorem dX5_mix_3 : decode cX5_mix 3 = .ok (.lload_n 0, 1) := by decide +kernel
theorem dX5_mix_4 : decode cX5_mix 4 = .ok (.lmul, 1) := by decide +kernel
theorem dX5_mix_5 : decode cX5_mix 5 = .ok (.lload_n 2, 1) := by decide +kernel
theorem dX5_mix_6 : decode cX5_mix 6 = .ok (.ladd, 1) := by decide +kernel
theorem dX5_mix_7 : decode cX5_mix 7 = .ok (.lreturn, 1) := by decide +kernel
theorem dX5_hashSettings_0 : decode cX5_hashSettings 0 = .ok (.lload_n 1, 1) := by decide +kernel
theorem dX5_hashSettings_1 : decode cX5_hashSettings 1 = .ok (.aload_n 0, 1) := by decide +kernel
theorem dX5_hashSettings_2 : decode cX5_hashSettings 2 = .ok (.getfield 44, 3) := by decide +kernel
theorem dX5_hashSettings_5 : decode cX5_hashSettings 5 = .ok (.i2l, 1) := by decide +kernel
theorem dX5_hashSettings_6 : decode cX5_hashSettings 6 = .ok (.invokestatic 243, 3) := by decide +kernel
theorem dX5_hashSettings_9 : decode cX5_hashSettings 9 = .ok (.lstore_n 3, 1) := by decide +kernel
theorem dX5_hashSettings_10 : decode cX5_hashSettings 10 = .ok (.lload_n 3, 1) := by decide +kernel
theorem dX5_hashSettings_11 : decode cX5_hashSettings 11 = .ok (.aload_n 0, 1) := by decide +kernel
theorem dX5_hashSettings_12 : decode cX5_hashSettings 12 = .ok (.getfield 19, 3) := by decide +kernel
theorem dX5_hashSettings_15 : decode cX5_hashSettings 15 = .ok (.getfield 247, 3) := by decide +kernel
theorem dX5_hashSettings_18 : decode cX5_hashSettings 18 = .ok (.i2l, 1) := by decide +kernel
theorem dX5_hashSettings_19 : decode cX5_hashSettings 19 = .ok (.invokestatic 243, 3) := by decide +kernel
theorem dX5_hashSettings_22 : decode cX5_hashSettings 22 = .ok (.lstore_n 3, 1) := by decide +kernel
theorem dX5_hashSettings_23 : decode cX5_hashSettings 23 = .ok (.lload_n 3, 1) := by decide +kernel
theorem dX5_hashSettings_24 : decode cX5_hashSettings 24 = .ok (.aload_n 0, 1) := by decide +kernel
theorem dX5_hashSettings_25 : decode cX5_hashSettings 25 = .ok (.getfield 19, 3) := by decide +kernel
theorem dX5_hashSettings_28 : decode cX5_hashSettings 28 = .ok (.getfield 250, 3) := by decide +kernel
theorem dX5_hashSettings_31 : decode cX5_hashSettings 31 = .ok (.i2l, 1) := by decide +kernel
theorem dX5_hashSettings_32 : decode cX5_hashSettings 32 = .ok (.invokestatic 243, 3) := by decide +kernel
theorem dX5_hashSettings_35 : decode cX5_hashSettings 35 = .ok (.lstore_n 3, 1) := by decide +kernel
theorem dX5_hashSettings_36 : decode cX5_hashSettings 36 = .ok (.lload_n 3, 1) := by decide +kernel
theorem dX5_hashSettings_37 : decode cX5_hashSettings 37 = .ok (.aload_n 0, 1) := by decide +kernel
theorem dX5_hashSettings_38 : decode cX5_hashSettings 38 = .ok (.getfield 19, 3) := by decide +kernel
theorem dX5_hashSettings_41 : decode cX5_hashSettings 41 = .ok (.getfield 253, 3) := by decide +kernel
theorem dX5_hashSettings_44 : decode cX5_hashSettings 44 = .ok (.i2l, 1) := by decide +kernel
theorem dX5_hashSettings_45 : decode cX5_hashSettings 45 = .ok (.invokestatic 243, 3) := by decide +kernel
theorem dX5_hashSettings_48 : decode cX5_hashSettings 48 = .ok (.lstore_n 3, 1) := by decide +kernel
theorem dX5_hashSettings_49 : decode cX5_hashSettings 49 = .ok (.lload_n 3, 1) := by decide +kernel
theorem dX5_hashSettings_50 : decode cX5_hashSettings 50 = .ok (.aload_n 0, 1) := by decide +kernel
theorem dX5_hashSettings_51 : decode cX5_hashSettings 51 = .ok (.getfield 19, 3) := by decide +kernel
theorem dX5_hashSettings_54 : decode cX5_hashSettings 54 = .ok (.getfield 256, 3) := by decide +kernel
theorem dX5_hashSettings_57 : decode cX5_hashSettings 57 = .ok (.i2l, 1) := by decide +kernel
theorem dX5_hashSettings_58 : decode cX5_hashSettings 58 = .ok (.invokestatic 243, 3) := by decide +kernel
theorem dX5_hashSettings_61 : decode cX5_hashSettings 61 = .ok (.lstore_n 3, 1) := by decide +kernel
theorem dX5_hashSettings_62 : decode cX5_hashSettings 62 = .ok (.lload_n 3, 1) := by decide +kernel
theorem dX5_hashSettings_63 : decode cX5_hashSettings 63 = .ok (.aload_n 0, 1) := by decide +kernel
theorem dX5_hashSettings_64 : decode cX5_hashSettings 64 = .ok (.getfield 48, 3) := by decide +kernel
theorem dX5_hashSettings_67 : decode cX5_hashSettings 67 = .ok (.i2l, 1) := by decide +kernel
theorem dX5_hashSettings_68 : decode cX5_hashSettings 68 = .ok (.invokestatic 243, 3) := by decide +kernel
theorem dX5_hashSettings_71 : decode cX5_hashSettings 71 = .ok (.lstore_n 3, 1) := by decide +kernel
theorem dX5_hashSettings_72 : decode cX5_hashSettings 72 = .ok (.lload_n 3, 1) := by decide +kernel
theorem dX5_hashSettings_73 : decode cX5_hashSettings 73 = .ok (.aload_n 0, 1) := by decide +kernel
theorem dX5_hashSettings_74 : decode cX5_hashSettings 74 = .ok (.getfield 51, 3) := by decide +kernel
theorem dX5_hashSettings_77 : decode cX5_hashSettings 77 = .ok (.i2l, 1) := by decide +kernel
theorem dX5_hashSettings_78 : decode cX5_hashSettings 78 = .ok (.invokestatic 243, 3) := by decide +kernel
theorem dX5_hashSettings_81 : decode cX5_hashSettings 81 = .ok (.lreturn, 1) := by decide +kernel
theorem dX5_hashCells_0 : decode cX5_hashCells 0 = .ok (.lload_n 1, 1) := by decide +kernel
theorem dX5_hashCells_1 : decode cX5_hashCells 1 = .ok (.lstore_n 3, 1) := by decide +kernel
theorem dX5_hashCells_2 : decode cX5_hashCells 2 = .ok (.iconst 0, 1) := by decide +kernel
theorem dX5_hashCells_3 : decode cX5_hashCells 3 = .ok (.istore 5, 2) := by decide +kernel
theorem dX5_hashCells_5 : decode cX5_hashCells 5 = .ok (.iload 5, 2) := by decide +kernel
theorem dX5_hashCells_7 : decode cX5_hashCells 7 = .ok (.aload_n 0, 1) := by decide +kernel
theorem dX5_hashCells_8 : decode cX5_hashCells 8 = .ok (.getfield 44, 3) := by decide +kernel
theorem dX5_hashCells_11 : decode cX5_hashCells 11 = .ok (.if_icmp .ge 68, 3) := by decide +kernel
theorem dX5_hashCells_14 : decode cX5_hashCells 14 = .ok (.lload_n 3, 1) := by decide +kernel
theorem dX5_hashCells_15 : decode cX5_hashCells 15 = .ok (.aload_n 0, 1) := by decide +kernel
theorem dX5_hashCells_16 : decode cX5_hashCells 16 = .ok (.iload 5, 2) := by decide +kernel
theorem dX5_hashCells_18 : decode cX5_hashCells 18 = .ok (.invokevirtual 259, 3) := by decide +kernel
theorem dX5_hashCells_21 : decode cX5_hashCells 21 = .ok (.i2l, 1) := by decide +kernel
theorem dX5_hashCells_22 : decode cX5_hashCells 22 = .ok (.invokestatic 243, 3) := by decide +kernel
theorem dX5_hashCells_25 : decode cX5_hashCells 25 = .ok (.lstore_n 3, 1) := by decide +kernel
theorem dX5_hashCells_26 : decode cX5_hashCells 26 = .ok (.lload_n 3, 1) := by decide +kernel
theorem dX5_hashCells_27 : decode cX5_hashCells 27 = .ok (.aload_n 0, 1) := by decide +kernel
theorem dX5_hashCells_28 : decode cX5_hashCells 28 = .ok (.iload 5, 2) := by decide +kernel
theorem dX5_hashCells_30 : decode cX5_hashCells 30 = .ok (.invokevirtual 261, 3) := by decide +kernel
theorem dX5_hashCells_33 : decode cX5_hashCells 33 = .ok (.i2l, 1) := by decide +kernel
theorem dX5_hashCells_34 : decode cX5_hashCells 34 = .ok (.invokestatic 243, 3) := by decide +kernel
theorem dX5_hashCells_37 : decode cX5_hashCells 37 = .ok (.lstore_n 3, 1) := by decide +kernel
theorem dX5_hashCells_38 : decode cX5_hashCells 38 = .ok (.lload_n 3, 1) := by decide +kernel
theorem dX5_hashCells_39 : decode cX5_hashCells 39 = .ok (.aload_n 0, 1) := by decide +kernel
theorem dX5_hashCells_40 : decode cX5_hashCells 40 = .ok (.iload 5, 2) := by decide +kernel
theorem dX5_hashCells_42 : decode cX5_hashCells 42 = .ok (.invokevirtual 264, 3) := by decide +kernel
theorem dX5_hashCells_45 : decode cX5_hashCells 45 = .ok (.invokestatic 243, 3) := by decide +kernel
theorem dX5_hashCells_48 : decode cX5_hashCells 48 = .ok (.lstore_n 3, 1) := by decide +kernel
theorem dX5_hashCells_49 : decode cX5_hashCells 49 = .ok (.lload_n 3, 1) := by decide +kernel
theorem dX5_hashCells_50 : decode cX5_hashCells 50 = .ok (.aload_n 0, 1) := by decide +kernel
theorem dX5_hashCells_51 : decode cX5_hashCells 51 = .ok (.iload 5, 2) := by decide +kernel
theorem dX5_hashCells_53 : decode cX5_hashCells 53 = .ok (.invokevirtual 268, 3) := by decide +kernel
theorem dX5_hashCells_56 : decode cX5_hashCells 56 = .ok (.i2l, 1) := by decide +kernel
theorem dX5_hashCells_57 : decode cX5_hashCells 57 = .ok (.invokestatic 243, 3) := by decide +kernel
theorem dX5_hashCells_60 : decode cX5_hashCells 60 = .ok (.lstore_n 3, 1) := by decide +kernel
theorem dX5_hashCells_61 : decode cX5_hashCells 61 = .ok (.lload_n 3, 1) := by decide +kernel
theorem dX5_hashCells_62 : decode cX5_hashCells 62 = .ok (.aload_n 0, 1) := by decide +kernel
theorem dX5_hashCells_63 : decode cX5_hashCells 63 = .ok (.iload 5, 2) := by decide +kernel
theorem dX5_hashCells_65 : decode cX5_hashCells 65 = .ok (.invokevirtual 271, 3) := by decide +kernel
theorem dX5_hashCells_68 : decode cX5_hashCells 68 = .ok (.i2l, 1) := by decide +kernel
theorem dX5_hashCells_69 : decode cX5_hashCells 69 = .ok (.invokestatic 243, 3) := by decide +kernel
theorem dX5_hashCells_72 : decode cX5_hashCells 72 = .ok (.lstore_n 3, 1) := by decide +kernel
theorem dX5_hashCells_73 : decode cX5_hashCells 73 = .ok (.iinc 5 1, 3) := by decide +kernel
theorem dX5_hashCells_76 : decode cX5_hashCells 76 = .ok (.goto (-71), 3) := by decide +kernel
theorem dX5_hashCells_79 : decode cX5_hashCells 79 = .ok (.lload_n 3, 1) := by decide +kernel
theorem dX5_hashCells_80 : decode cX5_hashCells 80 = .ok (.lreturn, 1) := by decide +kernel
theorem dX5_hashAttempts_0 : decode cX5_hashAttempts 0 = .ok (.lload_n 1, 1) := by decide +kernel
theorem dX5_hashAttempts_1 : decode cX5_hashAttempts 1 = .ok (.aload_n 0, 1) := by decide +kernel
theorem dX5_hashAttempts_2 : decode cX5_hashAttempts 2 = .ok (.getfield 26, 3) := by decide +kernel
theorem dX5_hashAttempts_5 : decode cX5_hashAttempts 5 = .ok (.getfield 66, 3) := by decide +kernel
theorem dX5_hashAttempts_8 : decode cX5_hashAttempts 8 = .ok (.i2l, 1) := by decide +kernel
theorem dX5_hashAttempts_9 : decode cX5_hashAttempts 9 = .ok (.invokestatic 243, 3) := by decide +kernel
theorem dX5_hashAttempts_12 : decode cX5_hashAttempts 12 = .ok (.lstore_n 3, 1) := by decide +kernel
theorem dX5_hashAttempts_13 : decode cX5_hashAttempts 13 = .ok (.iconst 0, 1) := by decide +kernel
theorem dX5_hashAttempts_14 : decode cX5_hashAttempts 14 = .ok (.istore 5, 2) := by decide +kernel
theorem dX5_hashAttempts_16 : decode cX5_hashAttempts 16 = .ok (.iload 5, 2) := by decide +kernel
theorem dX5_hashAttempts_18 : decode cX5_hashAttempts 18 = .ok (.aload_n 0, 1) := by decide +kernel
theorem dX5_hashAttempts_19 : decode cX5_hashAttempts 19 = .ok (.getfield 26, 3) := by decide +kernel
theorem dX5_hashAttempts_22 : decode cX5_hashAttempts 22 = .ok (.getfield 66, 3) := by decide +kernel
theorem dX5_hashAttempts_25 : decode cX5_hashAttempts 25 = .ok (.if_icmp .ge 21, 3) := by decide +kernel
theorem dX5_hashAttempts_28 : decode cX5_hashAttempts 28 = .ok (.lload_n 3, 1) := by decide +kernel
theorem dX5_hashAttempts_29 : decode cX5_hashAttempts 29 = .ok (.aload_n 0, 1) := by decide +kernel
theorem dX5_hashAttempts_30 : decode cX5_hashAttempts 30 = .ok (.iload 5, 2) := by decide +kernel
theorem dX5_hashAttempts_32 : decode cX5_hashAttempts 32 = .ok (.invokevirtual 274, 3) := by decide +kernel
theorem dX5_hashAttempts_35 : decode cX5_hashAttempts 35 = .ok (.i2l, 1) := by decide +kernel
theorem dX5_hashAttempts_36 : decode cX5_hashAttempts 36 = .ok (.invokestatic 243, 3) := by decide +kernel
theorem dX5_hashAttempts_39 : decode cX5_hashAttempts 39 = .ok (.lstore_n 3, 1) := by decide +kernel
theorem dX5_hashAttempts_40 : decode cX5_hashAttempts 40 = .ok (.iinc 5 1, 3) := by decide +kernel
theorem dX5_hashAttempts_43 : decode cX5_hashAttempts 43 = .ok (.goto (-27), 3) := by decide +kernel
theorem dX5_hashAttempts_46 : decode cX5_hashAttempts 46 = .ok (.lload_n 3, 1) := by decide +kernel
theorem dX5_hashAttempts_47 : decode cX5_hashAttempts 47 = .ok (.lreturn, 1) := by decide +kernel
theorem dX5_hashVerdicts_0 : decode cX5_hashVerdicts 0 = .ok (.lload_n 1, 1) := by decide +kernel
theorem dX5_hashVerdicts_1 : decode cX5_hashVerdicts 1 = .ok (.aload_n 0, 1) := by decide +kernel
theorem dX5_hashVerdicts_2 : decode cX5_hashVerdicts 2 = .ok (.getfield 33, 3) := by decide +kernel
theorem dX5_hashVerdicts_5 : decode cX5_hashVerdicts 5 = .ok (.getfield 69, 3) := by decide +kernel
theorem dX5_hashVerdicts_8 : decode cX5_hashVerdicts 8 = .ok (.i2l, 1) := by decide +kernel
theorem dX5_hashVerdicts_9 : decode cX5_hashVerdicts 9 = .ok (.invokestatic 243, 3) := by decide +kernel
theorem dX5_hashVerdicts_12 : decode cX5_hashVerdicts 12 = .ok (.lstore_n 3, 1) := by decide +kernel
theorem dX5_hashVerdicts_13 : decode cX5_hashVerdicts 13 = .ok (.iconst 0, 1) := by decide +kernel
theorem dX5_hashVerdicts_14 : decode cX5_hashVerdicts 14 = .ok (.istore 5, 2) := by decide +kernel
theorem dX5_hashVerdicts_16 : decode cX5_hashVerdicts 16 = .ok (.iload 5, 2) := by decide +kernel
theorem dX5_hashVerdicts_18 : decode cX5_hashVerdicts 18 = .ok (.aload_n 0, 1) := by decide +kernel
theorem dX5_hashVerdicts_19 : decode cX5_hashVerdicts 19 = .ok (.getfield 33, 3) := by decide +kernel
theorem dX5_hashVerdicts_22 : decode cX5_hashVerdicts 22 = .ok (.invokevirtual 188, 3) := by decide +kernel
theorem dX5_hashVerdicts_25 : decode cX5_hashVerdicts 25 = .ok (.if_icmp .ge 21, 3) := by decide +kernel
theorem dX5_hashVerdicts_28 : decode cX5_hashVerdicts 28 = .ok (.lload_n 3, 1) := by decide +kernel
theorem dX5_hashVerdicts_29 : decode cX5_hashVerdicts 29 = .ok (.aload_n 0, 1) := by decide +kernel
theorem dX5_hashVerdicts_30 : decode cX5_hashVerdicts 30 = .ok (.iload 5, 2) := by decide +kernel
theorem dX5_hashVerdicts_32 : decode cX5_hashVerdicts 32 = .ok (.invokevirtual 277, 3) := by decide +kernel
theorem dX5_hashVerdicts_35 : decode cX5_hashVerdicts 35 = .ok (.i2l, 1) := by decide +kernel
theorem dX5_hashVerdicts_36 : decode cX5_hashVerdicts 36 = .ok (.invokestatic 243, 3) := by decide +kernel
theorem dX5_hashVerdicts_39 : decode cX5_hashVerdicts 39 = .ok (.lstore_n 3, 1) := by decide +kernel
theorem dX5_hashVerdicts_40 : decode cX5_hashVerdicts 40 = .ok (.iinc 5 1, 3) := by decide +kernel
theorem dX5_hashVerdicts_43 : decode cX5_hashVerdicts 43 = .ok (.goto (-27), 3) := by decide +kernel
theorem dX5_hashVerdicts_46 : decode cX5_hashVerdicts 46 = .ok (.lload_n 3, 1) := by decide +kernel
theorem dX5_hashVerdicts_47 : decode cX5_hashVerdicts 47 = .ok (.lreturn, 1) := by decide +kernel
theorem dX5_hashAnalysis_0 : decode cX5_hashAnalysis 0 = .ok (.lload_n 1, 1) := by decide +kernel
theorem dX5_hashAnalysis_1 : decode cX5_hashAnalysis 1 = .ok (.aload_n 0, 1) := by decide +kernel
theorem dX5_hashAnalysis_2 : decode cX5_hashAnalysis 2 = .ok (.bipush 10, 2) := by decide +kernel
theorem dX5_hashAnalysis_4 : decode cX5_hashAnalysis 4 = .ok (.iconst 1, 1) := by decide +kernel
theorem dX5_hashAnalysis_5 : decode cX5_hashAnalysis 5 = .ok (.invokevirtual 280, 3) := by decide +kernel
theorem dX5_hashAnalysis_8 : decode cX5_hashAnalysis 8 = .ok (.i2l, 1) := by decide +kernel
theorem dX5_hashAnalysis_9 : decode cX5_hashAnalysis 9 = .ok (.invokestatic 243, 3) := by decide +kernel
theorem dX5_hashAnalysis_12 : decode cX5_hashAnalysis 12 = .ok (.lstore_n 3, 1) := by decide +kernel
theorem dX5_hashAnalysis_13 : decode cX5_hashAnalysis 13 = .ok (.lload_n 3, 1) := by decide +kernel
theorem dX5_hashAnalysis_14 : decode cX5_hashAnalysis 14 = .ok (.aload_n 0, 1) := by decide +kernel
theorem dX5_hashAnalysis_15 : decode cX5_hashAnalysis 15 = .ok (.bipush 10, 2) := by decide +kernel
theorem dX5_hashAnalysis_17 : decode cX5_hashAnalysis 17 = .ok (.iconst 2, 1) := by decide +kernel
theorem dX5_hashAnalysis_18 : decode cX5_hashAnalysis 18 = .ok (.invokevirtual 280, 3) := by decide +kernel
theorem dX5_hashAnalysis_21 : decode cX5_hashAnalysis 21 = .ok (.i2l, 1) := by decide +kernel
theorem dX5_hashAnalysis_22 : decode cX5_hashAnalysis 22 = .ok (.invokestatic 243, 3) := by decide +kernel
theorem dX5_hashAnalysis_25 : decode cX5_hashAnalysis 25 = .ok (.lstore_n 3, 1) := by decide +kernel
theorem dX5_hashAnalysis_26 : decode cX5_hashAnalysis 26 = .ok (.lload_n 3, 1) := by decide +kernel
theorem dX5_hashAnalysis_27 : decode cX5_hashAnalysis 27 = .ok (.aload_n 0, 1) := by decide +kernel
theorem dX5_hashAnalysis_28 : decode cX5_hashAnalysis 28 = .ok (.bipush 20, 2) := by decide +kernel
theorem dX5_hashAnalysis_30 : decode cX5_hashAnalysis 30 = .ok (.bipush 12, 2) := by decide +kernel
theorem dX5_hashAnalysis_32 : decode cX5_hashAnalysis 32 = .ok (.invokevirtual 283, 3) := by decide +kernel
theorem dX5_hashAnalysis_35 : decode cX5_hashAnalysis 35 = .ok (.invokestatic 243, 3) := by decide +kernel
theorem dX5_hashAnalysis_38 : decode cX5_hashAnalysis 38 = .ok (.lstore_n 3, 1) := by decide +kernel
theorem dX5_hashAnalysis_39 : decode cX5_hashAnalysis 39 = .ok (.lload_n 3, 1) := by decide +kernel
theorem dX5_hashAnalysis_40 : decode cX5_hashAnalysis 40 = .ok (.aload_n 0, 1) := by decide +kernel
theorem dX5_hashAnalysis_41 : decode cX5_hashAnalysis 41 = .ok (.bipush 20, 2) := by decide +kernel
theorem dX5_hashAnalysis_43 : decode cX5_hashAnalysis 43 = .ok (.bipush 12, 2) := by decide +kernel
theorem dX5_hashAnalysis_45 : decode cX5_hashAnalysis 45 = .ok (.invokevirtual 287, 3) := by decide +kernel
theorem dX5_hashAnalysis_48 : decode cX5_hashAnalysis 48 = .ok (.invokestatic 243, 3) := by decide +kernel
theorem dX5_hashAnalysis_51 : decode cX5_hashAnalysis 51 = .ok (.lreturn, 1) := by decide +kernel
theorem dX5_hashInput_0 : decode cX5_hashInput 0 = .ok (.lload_n 1, 1) := by decide +kernel
theorem dX5_hashInput_1 : decode cX5_hashInput 1 = .ok (.aload_n 0, 1) := by decide +kernel
theorem dX5_hashInput_2 : decode cX5_hashInput 2 = .ok (.getfield 40, 3) := by decide +kernel
theorem dX5_hashInput_5 : decode cX5_hashInput 5 = .ok (.getfield 147, 3) := by decide +kernel
theorem dX5_hashInput_8 : decode cX5_hashInput 8 = .ok (.i2l, 1) := by decide +kernel
theorem dX5_hashInput_9 : decode cX5_hashInput 9 = .ok (.invokestatic 243, 3) := by decide +kernel
theorem dX5_hashInput_12 : decode cX5_hashInput 12 = .ok (.lstore_n 3, 1) := by decide +kernel
theorem dX5_hashInput_13 : decode cX5_hashInput 13 = .ok (.iconst 0, 1) := by decide +kernel
theorem dX5_hashInput_14 : decode cX5_hashInput 14 = .ok (.istore 5, 2) := by decide +kernel
theorem dX5_hashInput_16 : decode cX5_hashInput 16 = .ok (.iload 5, 2) := by decide +kernel
theorem dX5_hashInput_18 : decode cX5_hashInput 18 = .ok (.aload_n 0, 1) := by decide +kernel
theorem dX5_hashInput_19 : decode cX5_hashInput 19 = .ok (.getfield 40, 3) := by decide +kernel
theorem dX5_hashInput_22 : decode cX5_hashInput 22 = .ok (.getfield 147, 3) := by decide +kernel
theorem dX5_hashInput_25 : decode cX5_hashInput 25 = .ok (.if_icmp .ge 25, 3) := by decide +kernel
theorem dX5_hashInput_28 : decode cX5_hashInput 28 = .ok (.lload_n 3, 1) := by decide +kernel
theorem dX5_hashInput_29 : decode cX5_hashInput 29 = .ok (.aload_n 0, 1) := by decide +kernel
theorem dX5_hashInput_30 : decode cX5_hashInput 30 = .ok (.getfield 40, 3) := by decide +kernel
theorem dX5_hashInput_33 : decode cX5_hashInput 33 = .ok (.getfield 290, 3) := by decide +kernel
theorem dX5_hashInput_36 : decode cX5_hashInput 36 = .ok (.iload 5, 2) := by decide +kernel
theorem dX5_hashInput_38 : decode cX5_hashInput 38 = .ok (.iaload, 1) := by decide +kernel
theorem dX5_hashInput_39 : decode cX5_hashInput 39 = .ok (.i2l, 1) := by decide +kernel
theorem dX5_hashInput_40 : decode cX5_hashInput 40 = .ok (.invokestatic 243, 3) := by decide +kernel
theorem dX5_hashInput_43 : decode cX5_hashInput 43 = .ok (.lstore_n 3, 1) := by decide +kernel
theorem dX5_hashInput_44 : decode cX5_hashInput 44 = .ok (.iinc 5 1, 3) := by decide +kernel
theorem dX5_hashInput_47 : decode cX5_hashInput 47 = .ok (.goto (-31), 3) := by decide +kernel
theorem dX5_hashInput_50 : decode cX5_hashInput 50 = .ok (.lload_n 3, 1) := by decide +kernel
theorem dX5_hashInput_51 : decode cX5_hashInput 51 = .ok (.lreturn, 1) := by decide +kernel
theorem dJxe99ae_isNaN_b9ae7_0 : decode cJxe99ae_isNaN_b9ae7 0 = .ok (.dload_n 0, 1) := by decide +kernel
theorem dJxe99ae_isNaN_b9ae7_1 : decode cJxe99ae_isNaN_b9ae7 1 = .ok (.dload_n 0, 1) := by decide +kernel
theorem dJxe99ae_isNaN_b9ae7_2 : decode cJxe99ae_isNaN_b9ae7 2 = .ok (.dcmp .l, 1) := by decide +kernel
theorem dJxe99ae_isNaN_b9ae7_3 : decode cJxe99ae_isNaN_b9ae7 3 = .ok (.ifCond .eq 7, 3) := by decide +kernel
theorem dJxe99ae_isNaN_b9ae7_6 : decode cJxe99ae_isNaN_b9ae7 6 = .ok (.iconst 1, 1) := by decide +kernel
theorem dJxe99ae_isNaN_b9ae7_7 : decode cJxe99ae_isNaN_b9ae7 7 = .ok (.goto 4, 3) := by decide +kernel
theorem dJxe99ae_isNaN_b9ae7_10 : decode cJxe99ae_isNaN_b9ae7 10 = .ok (.iconst 0, 1) := by decide +kernel
theorem dJxe99ae_isNaN_b9ae7_11 : decode cJxe99ae_isNaN_b9ae7 11 = .ok (.ireturn, 1) := by decide +kernel
theorem dJxe99ae_doubleToLongBits_ccdee_0 : decode cJxe99ae_doubleToLongBits_ccdee 0 = .ok (.dload_n 0, 1) := by decide +kernel
theorem dJxe99ae_doubleToLongBits_ccdee_1 : decode cJxe99ae_doubleToLongBits_ccdee 1 = .ok (.invokestatic 122, 3) := by decide +kernel
theorem dJxe99ae_doubleToLongBits_ccdee_4 : decode cJxe99ae_doubleToLongBits_ccdee 4 = .ok (.ifCond .ne 8, 3) := by decide +kernel
theorem dJxe99ae_doubleToLongBits_ccdee_7 : decode cJxe99ae_doubleToLongBits_ccdee 7 = .ok (.dload_n 0, 1) := by decide +kernel
theorem dJxe99ae_doubleToLongBits_ccdee_8 : decode cJxe99ae_doubleToLongBits_ccdee 8 = .ok (.invokestatic 134, 3) := by decide +kernel
theorem dJxe99ae_doubleToLongBits_ccdee_11 : decode cJxe99ae_doubleToLongBits_ccdee 11 = .ok (.lreturn, 1) := by decide +kernel
theorem dJxe99ae_doubleToLongBits_ccdee_12 : decode cJxe99ae_doubleToLongBits_ccdee 12 = .ok (.ldc2_w 137, 3) := by decide +kernel
theorem dJxe99ae_doubleToLongBits_ccdee_15 : decode cJxe99ae_doubleToLongBits_ccdee 15 = .ok (.lreturn, 1) := by decide +kernel
theorem dJ9_floorMod_7cf53_0 : decode cJ9_floorMod_7cf53 0 = .ok (.iload_n 0, 1) := by decide +kernel
theorem dJ9_floorMod_7cf53_1 : decode cJ9_floorMod_7cf53 1 = .ok (.iload_n 1, 1) := by decide +kernel
theorem dJ9_floorMod_7cf53_2 : decode cJ9_floorMod_7cf53 2 = .ok (.irem, 1) := by decide +kernel
theorem dJ9_floorMod_7cf53_3 : decode cJ9_floorMod_7cf53 3 = .ok (.istore_n 2, 1) := by decide +kernel
theorem dJ9_floorMod_7cf53_4 : decode cJ9_floorMod_7cf53 4 = .ok (.iload_n 0, 1) := by decide +kernel
theorem dJ9_floorMod_7cf53_5 : decode cJ9_floorMod_7cf53 5 = .ok (.iload_n 1, 1) := by decide +kernel
theorem dJ9_floorMod_7cf53_6 : decode cJ9_floorMod_7cf53 6 = .ok (.ixor, 1) := by decide +kernel
theorem dJ9_floorMod_7cf53_7 : decode cJ9_floorMod_7cf53 7 = .ok (.ifCond .ge 11, 3) := by decide +kernel
theorem dJ9_floorMod_7cf53_10 : decode cJ9_floorMod_7cf53 10 = .ok (.iload_n 2, 1) := by decide +kernel
theorem dJ9_floorMod_7cf53_11 : decode cJ9_floorMod_7cf53 11 = .ok (.ifCond .eq 7, 3) := by decide +kernel
theorem dJ9_floorMod_7cf53_14 : decode cJ9_floorMod_7cf53 14 = .ok (.iload_n 2, 1) := by decide +kernel
theorem dJ9_floorMod_7cf53_15 : decode cJ9_floorMod_7cf53 15 = .ok (.iload_n 1, 1) := by decide +kernel
theorem dJ9_floorMod_7cf53_16 : decode cJ9_floorMod_7cf53 16 = .ok (.iadd, 1) := by decide +kernel
theorem dJ9_floorMod_7cf53_17 : decode cJ9_floorMod_7cf53 17 = .ok (.ireturn, 1) := by decide +kernel
theorem dJ9_floorMod_7cf53_18 : decode cJ9_floorMod_7cf53 18 = .ok (.iload_n 2, 1) := by decide +kernel
theorem dJ9_floorMod_7cf53_19 : decode cJ9_floorMod_7cf53 19 = .ok (.ireturn, 1) := by decide +kernel
theorem dJ9_max_7cf53_0 : decode cJ9_max_7cf53 0 = .ok (.iload_n 0, 1) := by decide +kernel
theorem dJ9_max_7cf53_1 : decode cJ9_max_7cf53 1 = .ok (.iload_n 1, 1) := by decide +kernel
theorem dJ9_max_7cf53_2 : decode cJ9_max_7cf53 2 = .ok (.if_icmp .lt 7, 3) := by decide +kernel
theorem dJ9_max_7cf53_5 : decode cJ9_max_7cf53 5 = .ok (.iload_n 0, 1) := by decide +kernel
theorem dJ9_max_7cf53_6 : decode cJ9_max_7cf53 6 = .ok (.goto 4, 3) := by decide +kernel
theorem dJ9_max_7cf53_9 : decode cJ9_max_7cf53 9 = .ok (.iload_n 1, 1) := by decide +kernel
theorem dJ9_max_7cf53_10 : decode cJ9_max_7cf53 10 = .ok (.ireturn, 1) := by decide +kernel
theorem dJ9_min_7cf53_0 : decode cJ9_min_7cf53 0 = .ok (.iload_n 0, 1) := by decide +kernel
theorem dJ9_min_7cf53_1 : decode cJ9_min_7cf53 1 = .ok (.iload_n 1, 1) := by decide +kernel
theorem dJ9_min_7cf53_2 : decode cJ9_min_7cf53 2 = .ok (.if_icmp .gt 7, 3) := by decide +kernel
theorem dJ9_min_7cf53_5 : decode cJ9_min_7cf53 5 = .ok (.iload_n 0, 1) := by decide +kernel
theorem dJ9_min_7cf53_6 : decode cJ9_min_7cf53 6 = .ok (.goto 4, 3) := by decide +kernel
theorem dJ9_min_7cf53_9 : decode cJ9_min_7cf53 9 = .ok (.iload_n 1, 1) := by decide +kernel
theorem dJ9_min_7cf53_10 : decode cJ9_min_7cf53 10 = .ok (.ireturn, 1) := by decide +kernel
theorem dJ7_fill_53178_0 : decode cJ7_fill_53178 0 = .ok (.iconst 0, 1) := by decide +kernel
theorem dJ7_fill_53178_1 : decode cJ7_fill_53178 1 = .ok (.istore_n 2, 1) := by decide +kernel
theorem dJ7_fill_53178_2 : decode cJ7_fill_53178 2 = .ok (.aload_n 0, 1) := by decide +kernel
theorem dJ7_fill_53178_3 : decode cJ7_fill_53178 3 = .ok (.arraylength, 1) := by decide +kernel
theorem dJ7_fill_53178_4 : decode cJ7_fill_53178 4 = .ok (.istore_n 3, 1) := by decide +kernel
theorem dJ7_fill_53178_5 : decode cJ7_fill_53178 5 = .ok (.iload_n 2, 1) := by decide +kernel
theorem dJ7_fill_53178_6 : decode cJ7_fill_53178 6 = .ok (.iload_n 3, 1) := by decide +kernel
theorem dJ7_fill_53178_7 : decode cJ7_fill_53178 7 = .ok (.if_icmp .ge 13, 3) := by decide +kernel
theorem dJ7_fill_53178_10 : decode cJ7_fill_53178 10 = .ok (.aload_n 0, 1) := by decide +kernel
theorem dJ7_fill_53178_11 : decode cJ7_fill_53178 11 = .ok (.iload_n 2, 1) := by decide +kernel
theorem dJ7_fill_53178_12 : decode cJ7_fill_53178 12 = .ok (.iload_n 1, 1) := by decide +kernel
theorem dJ7_fill_53178_13 : decode cJ7_fill_53178 13 = .ok (.iastore, 1) := by decide +kernel
theorem dJ7_fill_53178_14 : decode cJ7_fill_53178 14 = .ok (.iinc 2 1, 3) := by decide +kernel
theorem dJ7_fill_53178_17 : decode cJ7_fill_53178 17 = .ok (.goto (-12), 3) := by decide +kernel
theorem dJ7_fill_53178_20 : decode cJ7_fill_53178 20 = .ok (.return_, 1) := by decide +kernel
theorem dJ7_fill_7f8df_0 : decode cJ7_fill_7f8df 0 = .ok (.iconst 0, 1) := by decide +kernel
theorem dJ7_fill_7f8df_1 : decode cJ7_fill_7f8df 1 = .ok (.istore_n 3, 1) := by decide +kernel
theorem dJ7_fill_7f8df_2 : decode cJ7_fill_7f8df 2 = .ok (.aload_n 0, 1) := by decide +kernel
theorem dJ7_fill_7f8df_3 : decode cJ7_fill_7f8df 3 = .ok (.arraylength, 1) := by decide +kernel
theorem dJ7_fill_7f8df_4 : decode cJ7_fill_7f8df 4 = .ok (.istore 4, 2) := by decide +kernel
theorem dJ7_fill_7f8df_6 : decode cJ7_fill_7f8df 6 = .ok (.iload_n 3, 1) := by decide +kernel
theorem dJ7_fill_7f8df_7 : decode cJ7_fill_7f8df 7 = .ok (.iload 4, 2) := by decide +kernel
theorem dJ7_fill_7f8df_9 : decode cJ7_fill_7f8df 9 = .ok (.if_icmp .ge 13, 3) := by decide +kernel
theorem dJ7_fill_7f8df_12 : decode cJ7_fill_7f8df 12 = .ok (.aload_n 0, 1) := by decide +kernel
theorem dJ7_fill_7f8df_13 : decode cJ7_fill_7f8df 13 = .ok (.iload_n 3, 1) := by decide +kernel
theorem dJ7_fill_7f8df_14 : decode cJ7_fill_7f8df 14 = .ok (.dload_n 1, 1) := by decide +kernel
theorem dJ7_fill_7f8df_15 : decode cJ7_fill_7f8df 15 = .ok (.dastore, 1) := by decide +kernel
theorem dJ7_fill_7f8df_16 : decode cJ7_fill_7f8df 16 = .ok (.iinc 3 1, 3) := by decide +kernel
theorem dJ7_fill_7f8df_19 : decode cJ7_fill_7f8df 19 = .ok (.goto (-13), 3) := by decide +kernel
theorem dJ7_fill_7f8df_22 : decode cJ7_fill_7f8df 22 = .ok (.return_, 1) := by decide +kernel
