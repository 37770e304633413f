theorem dX6_init_0 : decode cX6_init 0 = .ok (.aload_n 0, 1) := by decide +kernel
theorem dX6_init_1 : decode cX6_init 1 = .ok (.invokespecial 1, 3) := by decide +kernel
theorem dX6_init_4 : decode cX6_init 4 = .ok (.aload_n 0, 1) := by decide +kernel
theorem dX6_init_5 : decode cX6_init 5 = .ok (.bipush 8, 2) := by decide +kernel
theorem dX6_init_7 : decode cX6_init 7 = .ok (.putfield 7, 3) := by decide +kernel
theorem dX6_init_10 : decode cX6_init 10 = .ok (.aload_n 0, 1) := by decide +kernel
theorem dX6_init_11 : decode cX6_init 11 = .ok (.iconst 3, 1) := by decide +kernel
theorem dX6_init_12 : decode cX6_init 12 = .ok (.putfield 13, 3) := by decide +kernel
theorem dX6_init_15 : decode cX6_init 15 = .ok (.aload_n 0, 1) := by decide +kernel
theorem dX6_init_16 : decode cX6_init 16 = .ok (.iconst 2, 1) := by decide +kernel
theorem dX6_init_17 : decode cX6_init 17 = .ok (.putfield 16, 3) := by decide +kernel
theorem dX6_init_20 : decode cX6_init 20 = .ok (.aload_n 0, 1) := by decide +kernel
theorem dX6_init_21 : decode cX6_init 21 = .ok (.bipush 12, 2) := by decide +kernel
theorem dX6_init_23 : decode cX6_init 23 = .ok (.putfield 19, 3) := by decide +kernel
theorem dX6_init_26 : decode cX6_init 26 = .ok (.aload_n 0, 1) := by decide +kernel
theorem dX6_init_27 : decode cX6_init 27 = .ok (.bipush (-8), 2) := by decide +kernel
theorem dX6_init_29 : decode cX6_init 29 = .ok (.putfield 22, 3) := by decide +kernel
theorem dX6_init_32 : decode cX6_init 32 = .ok (.aload_n 0, 1) := by decide +kernel
theorem dX6_init_33 : decode cX6_init 33 = .ok (.iconst 3, 1) := by decide +kernel
theorem dX6_init_34 : decode cX6_init 34 = .ok (.putfield 25, 3) := by decide +kernel
theorem dX6_init_37 : decode cX6_init 37 = .ok (.aload_n 0, 1) := by decide +kernel
theorem dX6_init_38 : decode cX6_init 38 = .ok (.bipush 8, 2) := by decide +kernel
theorem dX6_init_40 : decode cX6_init 40 = .ok (.newarray .int, 2) := by decide +kernel
theorem dX6_init_42 : decode cX6_init 42 = .ok (.putfield 28, 3) := by decide +kernel
theorem dX6_init_45 : decode cX6_init 45 = .ok (.aload_n 0, 1) := by decide +kernel
theorem dX6_init_46 : decode cX6_init 46 = .ok (.bipush 8, 2) := by decide +kernel
theorem dX6_init_48 : decode cX6_init 48 = .ok (.newarray .boolean, 2) := by decide +kernel
theorem dX6_init_50 : decode cX6_init 50 = .ok (.putfield 32, 3) := by decide +kernel
theorem dX6_init_53 : decode cX6_init 53 = .ok (.aload_n 0, 1) := by decide +kernel
theorem dX6_init_54 : decode cX6_init 54 = .ok (.bipush 8, 2) := by decide +kernel
theorem dX6_init_56 : decode cX6_init 56 = .ok (.newarray .long, 2) := by decide +kernel
theorem dX6_init_58 : decode cX6_init 58 = .ok (.putfield 36, 3) := by decide +kernel
theorem dX6_init_61 : decode cX6_init 61 = .ok (.aload_n 0, 1) := by decide +kernel
theorem dX6_init_62 : decode cX6_init 62 = .ok (.bipush 8, 2) := by decide +kernel
theorem dX6_init_64 : decode cX6_init 64 = .ok (.newarray .int, 2) := by decide +kernel
theorem dX6_init_66 : decode cX6_init 66 = .ok (.putfield 40, 3) := by decide +kernel
theorem dX6_init_69 : decode cX6_init 69 = .ok (.aload_n 0, 1) := by decide +kernel
theorem dX6_init_70 : decode cX6_init 70 = .ok (.bipush 8, 2) := by decide +kernel
theorem dX6_init_72 : decode cX6_init 72 = .ok (.newarray .int, 2) := by decide +kernel
theorem dX6_init_74 : decode cX6_init 74 = .ok (.putfield 43, 3) := by decide +kernel
theorem dX6_init_77 : decode cX6_init 77 = .ok (.aload_n 0, 1) := by decide +kernel
theorem dX6_init_78 : decode cX6_init 78 = .ok (.bipush 12, 2) := by decide +kernel
theorem dX6_init_80 : decode cX6_init 80 = .ok (.newarray .int, 2) := by decide +kernel
theorem dX6_init_82 : decode cX6_init 82 = .ok (.putfield 46, 3) := by decide +kernel
theorem dX6_init_85 : decode cX6_init 85 = .ok (.aload_n 0, 1) := by decide +kernel
theorem dX6_init_86 : decode cX6_init 86 = .ok (.bipush 12, 2) := by decide +kernel
theorem dX6_init_88 : decode cX6_init 88 = .ok (.newarray .int, 2) := by decide +kernel
theorem dX6_init_90 : decode cX6_init 90 = .ok (.putfield 49, 3) := by decide +kernel
theorem dX6_init_93 : decode cX6_init 93 = .ok (.aload_n 0, 1) := by decide +kernel
theorem dX6_init_94 : decode cX6_init 94 = .ok (.bipush 12, 2) := by decide +kernel
theorem dX6_init_96 : decode cX6_init 96 = .ok (.newarray .int, 2) := by decide +kernel
theorem dX6_init_98 : decode cX6_init 98 = .ok (.putfield 52, 3) := by decide +kernel
theorem dX6_init_101 : decode cX6_init 101 = .ok (.aload_n 0, 1) := by decide +kernel
theorem dX6_init_102 : decode cX6_init 102 = .ok (.bipush 16, 2) := by decide +kernel
theorem dX6_init_104 : decode cX6_init 104 = .ok (.newarray .int, 2) := by decide +kernel
theorem dX6_init_106 : decode cX6_init 106 = .ok (.putfield 55, 3) := by decide +kernel
theorem dX6_init_109 : decode cX6_init 109 = .ok (.aload_n 0, 1) := by decide +kernel
theorem dX6_init_110 : decode cX6_init 110 = .ok (.bipush 59, 2) := by decide +kernel
theorem dX6_init_112 : decode cX6_init 112 = .ok (.newarray .int, 2) := by decide +kernel
theorem dX6_init_114 : decode cX6_init 114 = .ok (.putfield 58, 3) := by decide +kernel
theorem dX6_init_117 : decode cX6_init 117 = .ok (.aload_n 0, 1) := by decide +kernel
theorem dX6_init_118 : decode cX6_init 118 = .ok (.bipush 121, 2) := by decide +kernel
theorem dX6_init_120 : decode cX6_init 120 = .ok (.newarray .int, 2) := by decide +kernel
theorem dX6_init_122 : decode cX6_init 122 = .ok (.putfield 61, 3) := by decide +kernel
theorem dX6_init_125 : decode cX6_init 125 = .ok (.aload_n 0, 1) := by decide +kernel
theorem dX6_init_126 : decode cX6_init 126 = .ok (.bipush 121, 2) := by decide +kernel
theorem dX6_init_128 : decode cX6_init 128 = .ok (.newarray .int, 2) := by decide +kernel
theorem dX6_init_130 : decode cX6_init 130 = .ok (.putfield 64, 3) := by decide +kernel
theorem dX6_init_133 : decode cX6_init 133 = .ok (.aload_n 0, 1) := by decide +kernel
theorem dX6_init_134 : decode cX6_init 134 = .ok (.bipush 121, 2) := by decide +kernel
theorem dX6_init_136 : decode cX6_init 136 = .ok (.newarray .double, 2) := by decide +kernel
theorem dX6_init_138 : decode cX6_init 138 = .ok (.putfield 67, 3) := by decide +kernel
theorem dX6_init_141 : decode cX6_init 141 = .ok (.aload_n 0, 1) := by decide +kernel
theorem dX6_init_142 : decode cX6_init 142 = .ok (.bipush 121, 2) := by decide +kernel
theorem dX6_init_144 : decode cX6_init 144 = .ok (.newarray .double, 2) := by decide +kernel
theorem dX6_init_146 : decode cX6_init 146 = .ok (.putfield 71, 3) := by decide +kernel
theorem dX6_init_149 : decode cX6_init 149 = .ok (.return_, 1) := by decide +kernel
theorem dX6_within_0 : decode cX6_within 0 = .ok (.iload_n 0, 1) := by decide +kernel
theorem dX6_within_1 : decode cX6_within 1 = .ok (.iload_n 1, 1) := by decide +kernel
theorem dX6_within_2 : decode cX6_within 2 = .ok (.if_icmp .lt 12, 3) := by decide +kernel
theorem dX6_within_5 : decode cX6_within 5 = .ok (.iload_n 0, 1) := by decide +kernel
theorem dX6_within_6 : decode cX6_within 6 = .ok (.iload_n 2, 1) := by decide +kernel
theorem dX6_within_7 : decode cX6_within 7 = .ok (.if_icmp .gt 7, 3) := by decide +kernel
theorem dX6_within_10 : decode cX6_within 10 = .ok (.iconst 1, 1) := by decide +kernel
theorem dX6_within_11 : decode cX6_within 11 = .ok (.goto 4, 3) := by decide +kernel
theorem dX6_within_14 : decode cX6_within 14 = .ok (.iconst 0, 1) := by decide +kernel
theorem dX6_within_15 : decode cX6_within 15 = .ok (.ireturn, 1) := by decide +kernel
theorem dX6_reset_0 : decode cX6_reset 0 = .ok (.iconst 0, 1) := by decide +kernel
theorem dX6_reset_1 : decode cX6_reset 1 = .ok (.istore_n 1, 1) := by decide +kernel
theorem dX6_reset_2 : decode cX6_reset 2 = .ok (.iload_n 1, 1) := by decide +kernel
theorem dX6_reset_3 : decode cX6_reset 3 = .ok (.bipush 8, 2) := by decide +kernel
theorem dX6_reset_5 : decode cX6_reset 5 = .ok (.if_icmp .ge 44, 3) := by decide +kernel
theorem dX6_reset_8 : decode cX6_reset 8 = .ok (.aload_n 0, 1) := by decide +kernel
theorem dX6_reset_9 : decode cX6_reset 9 = .ok (.getfield 28, 3) := by decide +kernel
theorem dX6_reset_12 : decode cX6_reset 12 = .ok (.iload_n 1, 1) := by decide +kernel
theorem dX6_reset_13 : decode cX6_reset 13 = .ok (.iconst 0, 1) := by decide +kernel
theorem dX6_reset_14 : decode cX6_reset 14 = .ok (.iastore, 1) := by decide +kernel
theorem dX6_reset_15 : decode cX6_reset 15 = .ok (.aload_n 0, 1) := by decide +kernel
theorem dX6_reset_16 : decode cX6_reset 16 = .ok (.getfield 32, 3) := by decide +kernel
theorem dX6_reset_19 : decode cX6_reset 19 = .ok (.iload_n 1, 1) := by decide +kernel
theorem dX6_reset_20 : decode cX6_reset 20 = .ok (.iconst 0, 1) := by decide +kernel
theorem dX6_reset_21 : decode cX6_reset 21 = .ok (.bastore, 1) := by decide +kernel
theorem dX6_reset_22 : decode cX6_reset 22 = .ok (.aload_n 0, 1) := by decide +kernel
theorem dX6_reset_23 : decode cX6_reset 23 = .ok (.getfield 36, 3) := by decide +kernel
theorem dX6_reset_26 : decode cX6_reset 26 = .ok (.iload_n 1, 1) := by decide +kernel
theorem dX6_reset_27 : decode cX6_reset 27 = .ok (.lconst 0, 1) := by decide +kernel
theorem dX6_reset_28 : decode cX6_reset 28 = .ok (.lastore, 1) := by decide +kernel
theorem dX6_reset_29 : decode cX6_reset 29 = .ok (.aload_n 0, 1) := by decide +kernel
theorem dX6_reset_30 : decode cX6_reset 30 = .ok (.getfield 40, 3) := by decide +kernel
theorem dX6_reset_33 : decode cX6_reset 33 = .ok (.iload_n 1, 1) := by decide +kernel
theorem dX6_reset_34 : decode cX6_reset 34 = .ok (.iconst 0, 1) := by decide +kernel
theorem dX6_reset_35 : decode cX6_reset 35 = .ok (.iastore, 1) := by decide +kernel
theorem dX6_reset_36 : decode cX6_reset 36 = .ok (.aload_n 0, 1) := by decide +kernel
theorem dX6_reset_37 : decode cX6_reset 37 = .ok (.getfield 43, 3) := by decide +kernel
theorem dX6_reset_40 : decode cX6_reset 40 = .ok (.iload_n 1, 1) := by decide +kernel
theorem dX6_reset_41 : decode cX6_reset 41 = .ok (.iconst 0, 1) := by decide +kernel
theorem dX6_reset_42 : decode cX6_reset 42 = .ok (.iastore, 1) := by decide +kernel
theorem dX6_reset_43 : decode cX6_reset 43 = .ok (.iinc 1 1, 3) := by decide +kernel
theorem dX6_reset_46 : decode cX6_reset 46 = .ok (.goto (-44), 3) := by decide +kernel
theorem dX6_reset_49 : decode cX6_reset 49 = .ok (.aload_n 0, 1) := by decide +kernel
theorem dX6_reset_50 : decode cX6_reset 50 = .ok (.iconst 0, 1) := by decide +kernel
theorem dX6_reset_51 : decode cX6_reset 51 = .ok (.putfield 74, 3) := by decide +kernel
theorem dX6_reset_54 : decode cX6_reset 54 = .ok (.aload_n 0, 1) := by decide +kernel
theorem dX6_reset_55 : decode cX6_reset 55 = .ok (.iconst 0, 1) := by decide +kernel
theorem dX6_reset_56 : decode cX6_reset 56 = .ok (.putfield 77, 3) := by decide +kernel
theorem dX6_reset_59 : decode cX6_reset 59 = .ok (.aload_n 0, 1) := by decide +kernel
theorem dX6_reset_60 : decode cX6_reset 60 = .ok (.iconst 0, 1) := by decide +kernel
theorem dX6_reset_61 : decode cX6_reset 61 = .ok (.putfield 80, 3) := by decide +kernel
theorem dX6_reset_64 : decode cX6_reset 64 = .ok (.return_, 1) := by decide +kernel
theorem dX6_configure_0 : decode cX6_configure 0 = .ok (.iload_n 1, 1) := by decide +kernel
theorem dX6_configure_1 : decode cX6_configure 1 = .ok (.iconst 1, 1) := by decide +kernel
theorem dX6_configure_2 : decode cX6_configure 2 = .ok (.bipush 9, 2) := by decide +kernel
theorem dX6_configure_4 : decode cX6_configure 4 = .ok (.invokestatic 83, 3) := by decide +kernel
theorem dX6_configure_7 : decode cX6_configure 7 = .ok (.ifCond .eq 34, 3) := by decide +kernel
theorem dX6_configure_10 : decode cX6_configure 10 = .ok (.iload_n 2, 1) := by decide +kernel
theorem dX6_configure_11 : decode cX6_configure 11 = .ok (.iconst 1, 1) := by decide +kernel
theorem dX6_configure_12 : decode cX6_configure 12 = .ok (.bipush 9, 2) := by decide +kernel
theorem dX6_configure_14 : decode cX6_configure 14 = .ok (.invokestatic 83, 3) := by decide +kernel
theorem dX6_configure_17 : decode cX6_configure 17 = .ok (.ifCond .eq 24, 3) := by decide +kernel
theorem dX6_configure_20 : decode cX6_configure 20 = .ok (.iload_n 3, 1) := by decide +kernel
theorem dX6_configure_21 : decode cX6_configure 21 = .ok (.iconst 1, 1) := by decide +kernel
theorem dX6_configure_22 : decode cX6_configure 22 = .ok (.bipush 60, 2) := by decide +kernel
theorem dX6_configure_24 : decode cX6_configure 24 = .ok (.invokestatic 83, 3) := by decide +kernel
theorem dX6_configure_27 : decode cX6_configure 27 = .ok (.ifCond .eq 14, 3) := by decide +kernel
theorem dX6_configure_30 : decode cX6_configure 30 = .ok (.iload 4, 2) := by decide +kernel
theorem dX6_configure_32 : decode cX6_configure 32 = .ok (.bipush (-60), 2) := by decide +kernel
theorem dX6_configure_34 : decode cX6_configure 34 = .ok (.iconst (-1), 1) := by decide +kernel
theorem dX6_configure_35 : decode cX6_configure 35 = .ok (.invokestatic 83, 3) := by decide +kernel
theorem dX6_configure_38 : decode cX6_configure 38 = .ok (.ifCond .ne 6, 3) := by decide +kernel
theorem dX6_configure_41 : decode cX6_configure 41 = .ok (.bipush (-104), 2) := by decide +kernel
theorem dX6_configure_43 : decode cX6_configure 43 = .ok (.ireturn, 1) := by decide +kernel
theorem dX6_configure_44 : decode cX6_configure 44 = .ok (.aload_n 0, 1) := by decide +kernel
theorem dX6_configure_45 : decode cX6_configure 45 = .ok (.iload_n 1, 1) := by decide +kernel
theorem dX6_configure_46 : decode cX6_configure 46 = .ok (.putfield 13, 3) := by decide +kernel
theorem dX6_configure_49 : decode cX6_configure 49 = .ok (.aload_n 0, 1) := by decide +kernel
theorem dX6_configure_50 : decode cX6_configure 50 = .ok (.iload_n 2, 1) := by decide +kernel
theorem dX6_configure_51 : decode cX6_configure 51 = .ok (.putfield 16, 3) := by decide +kernel
theorem dX6_configure_54 : decode cX6_configure 54 = .ok (.aload_n 0, 1) := by decide +kernel
theorem dX6_configure_55 : decode cX6_configure 55 = .ok (.iload_n 3, 1) := by decide +kernel
theorem dX6_configure_56 : decode cX6_configure 56 = .ok (.putfield 19, 3) := by decide +kernel
theorem dX6_configure_59 : decode cX6_configure 59 = .ok (.aload_n 0, 1) := by decide +kernel
theorem dX6_configure_60 : decode cX6_configure 60 = .ok (.iload 4, 2) := by decide +kernel
theorem dX6_configure_62 : decode cX6_configure 62 = .ok (.putfield 22, 3) := by decide +kernel
theorem dX6_configure_65 : decode cX6_configure 65 = .ok (.aload_n 0, 1) := by decide +kernel
theorem dX6_configure_66 : decode cX6_configure 66 = .ok (.invokevirtual 87, 3) := by decide +kernel
theorem dX6_configure_69 : decode cX6_configure 69 = .ok (.aload_n 0, 1) := by decide +kernel
theorem dX6_configure_70 : decode cX6_configure 70 = .ok (.getfield 7, 3) := by decide +kernel
theorem dX6_configure_73 : decode cX6_configure 73 = .ok (.ireturn, 1) := by decide +kernel
theorem dX6_setCells_0 : decode cX6_setCells 0 = .ok (.iload_n 1, 1) := by decide +kernel
theorem dX6_setCells_1 : decode cX6_setCells 1 = .ok (.iconst 1, 1) := by decide +kernel
theorem dX6_setCells_2 : decode cX6_setCells 2 = .ok (.bipush 8, 2) := by decide +kernel
theorem dX6_setCells_4 : decode cX6_setCells 4 = .ok (.invokestatic 83, 3) := by decide +kernel
theorem dX6_setCells_7 : decode cX6_setCells 7 = .ok (.ifCond .ne 6, 3) := by decide +kernel
theorem dX6_setCells_10 : decode cX6_setCells 10 = .ok (.bipush (-104), 2) := by decide +kernel
theorem dX6_setCells_12 : decode cX6_setCells 12 = .ok (.ireturn, 1) := by decide +kernel
theorem dX6_setCells_13 : decode cX6_setCells 13 = .ok (.aload_n 0, 1) := by decide +kernel
theorem dX6_setCells_14 : decode cX6_setCells 14 = .ok (.getfield 7, 3) := by decide +kernel
theorem dX6_setCells_17 : decode cX6_setCells 17 = .ok (.istore_n 2, 1) := by decide +kernel
theorem dX6_setCells_18 : decode cX6_setCells 18 = .ok (.aload_n 0, 1) := by decide +kernel
theorem dX6_setCells_19 : decode cX6_setCells 19 = .ok (.iload_n 1, 1) := by decide +kernel
theorem dX6_setCells_20 : decode cX6_setCells 20 = .ok (.putfield 7, 3) := by decide +kernel
theorem dX6_setCells_23 : decode cX6_setCells 23 = .ok (.aload_n 0, 1) := by decide +kernel
theorem dX6_setCells_24 : decode cX6_setCells 24 = .ok (.invokevirtual 87, 3) := by decide +kernel
theorem dX6_setCells_27 : decode cX6_setCells 27 = .ok (.iload_n 2, 1) := by decide +kernel
theorem dX6_setCells_28 : decode cX6_setCells 28 = .ok (.ireturn, 1) := by decide +kernel
theorem dX6_setTimeout_0 : decode cX6_setTimeout 0 = .ok (.iload_n 1, 1) := by decide +kernel
theorem dX6_setTimeout_1 : decode cX6_setTimeout 1 = .ok (.iconst 1, 1) := by decide +kernel
theorem dX6_setTimeout_2 : decode cX6_setTimeout 2 = .ok (.bipush 20, 2) := by decide +kernel
theorem dX6_setTimeout_4 : decode cX6_setTimeout 4 = .ok (.invokestatic 83, 3) := by decide +kernel
theorem dX6_setTimeout_7 : decode cX6_setTimeout 7 = .ok (.ifCond .ne 6, 3) := by decide +kernel
theorem dX6_setTimeout_10 : decode cX6_setTimeout 10 = .ok (.bipush (-104), 2) := by decide +kernel
theorem dX6_setTimeout_12 : decode cX6_setTimeout 12 = .ok (.ireturn, 1) := by decide +kernel
theorem dX6_setTimeout_13 : decode cX6_setTimeout 13 = .ok (.aload_n 0, 1) := by decide +kernel
theorem dX6_setTimeout_14 : decode cX6_setTimeout 14 = .ok (.getfield 25, 3) := by decide +kernel
theorem dX6_setTimeout_17 : decode cX6_setTimeout 17 = .ok (.istore_n 2, 1) := by decide +kernel
theorem dX6_setTimeout_18 : decode cX6_setTimeout 18 = .ok (.aload_n 0, 1) := by decide +kernel
theorem dX6_setTimeout_19 : decode cX6_setTimeout 19 = .ok (.iload_n 1, 1) := by decide +kernel
theorem dX6_setTimeout_20 : decode cX6_setTimeout 20 = .ok (.putfield 25, 3) := by decide +kernel
theorem dX6_setTimeout_23 : decode cX6_setTimeout 23 = .ok (.iload_n 2, 1) := by decide +kernel
theorem dX6_setTimeout_24 : decode cX6_setTimeout 24 = .ok (.ireturn, 1) := by decide +kernel
theorem dX6_isSource_0 : decode cX6_isSource 0 = .ok (.iload_n 0, 1) := by decide +kernel
theorem dX6_isSource_1 : decode cX6_isSource 1 = .ok (.iconst 0, 1) := by decide +kernel
theorem dX6_isSource_2 : decode cX6_isSource 2 = .ok (.bipush 7, 2) := by decide +kernel
theorem dX6_isSource_4 : decode cX6_isSource 4 = .ok (.invokestatic 83, 3) := by decide +kernel
theorem dX6_isSource_7 : decode cX6_isSource 7 = .ok (.ireturn, 1) := by decide +kernel
theorem dX6_isDestination_0 : decode cX6_isDestination 0 = .ok (.iload_n 0, 1) := by decide +kernel
theorem dX6_isDestination_1 : decode cX6_isDestination 1 = .ok (.iconst 0, 1) := by decide +kernel
theorem dX6_isDestination_2 : decode cX6_isDestination 2 = .ok (.bipush 31, 2) := by decide +kernel
theorem dX6_isDestination_4 : decode cX6_isDestination 4 = .ok (.invokestatic 83, 3) := by decide +kernel
theorem dX6_isDestination_7 : decode cX6_isDestination 7 = .ok (.ireturn, 1) := by decide +kernel
theorem dX6_drop_0 : decode cX6_drop 0 = .ok (.aload_n 0, 1) := by decide +kernel
theorem dX6_drop_1 : decode cX6_drop 1 = .ok (.dup, 1) := by decide +kernel
theorem dX6_drop_2 : decode cX6_drop 2 = .ok (.getfield 74, 3) := by decide +kernel
theorem dX6_drop_5 : decode cX6_drop 5 = .ok (.iconst 1, 1) := by decide +kernel
theorem dX6_drop_6 : decode cX6_drop 6 = .ok (.isub, 1) := by decide +kernel
theorem dX6_drop_7 : decode cX6_drop 7 = .ok (.putfield 74, 3) := by decide +kernel
theorem dX6_drop_10 : decode cX6_drop 10 = .ok (.iload_n 1, 1) := by decide +kernel
theorem dX6_drop_11 : decode cX6_drop 11 = .ok (.istore_n 2, 1) := by decide +kernel
theorem dX6_drop_12 : decode cX6_drop 12 = .ok (.iload_n 2, 1) := by decide +kernel
theorem dX6_drop_13 : decode cX6_drop 13 = .ok (.aload_n 0, 1) := by decide +kernel
theorem dX6_drop_14 : decode cX6_drop 14 = .ok (.getfield 74, 3) := by decide +kernel
theorem dX6_drop_17 : decode cX6_drop 17 = .ok (.if_icmp .ge 51, 3) := by decide +kernel
theorem dX6_drop_20 : decode cX6_drop 20 = .ok (.aload_n 0, 1) := by decide +kernel
theorem dX6_drop_21 : decode cX6_drop 21 = .ok (.getfield 46, 3) := by decide +kernel
theorem dX6_drop_24 : decode cX6_drop 24 = .ok (.iload_n 2, 1) := by decide +kernel
theorem dX6_drop_25 : decode cX6_drop 25 = .ok (.aload_n 0, 1) := by decide +kernel
theorem dX6_drop_26 : decode cX6_drop 26 = .ok (.getfield 46, 3) := by decide +kernel
theorem dX6_drop_29 : decode cX6_drop 29 = .ok (.iload_n 2, 1) := by decide +kernel
theorem dX6_drop_30 : decode cX6_drop 30 = .ok (.iconst 1, 1) := by decide +kernel
theorem dX6_drop_31 : decode cX6_drop 31 = .ok (.iadd, 1) := by decide +kernel
theorem dX6_drop_32 : decode cX6_drop 32 = .ok (.iaload, 1) := by decide +kernel
theorem dX6_drop_33 : decode cX6_drop 33 = .ok (.iastore, 1) := by decide +kernel
theorem dX6_drop_34 : decode cX6_drop 34 = .ok (.aload_n 0, 1) := by decide +kernel
theorem dX6_drop_35 : decode cX6_drop 35 = .ok (.getfield 49, 3) := by decide +kernel
theorem dX6_drop_38 : decode cX6_drop 38 = .ok (.iload_n 2, 1) := by decide +kernel
theorem dX6_drop_39 : decode cX6_drop 39 = .ok (.aload_n 0, 1) := by decide +kernel
theorem dX6_drop_40 : decode cX6_drop 40 = .ok (.getfield 49, 3) := by decide +kernel
theorem dX6_drop_43 : decode cX6_drop 43 = .ok (.iload_n 2, 1) := by decide +kernel
theorem dX6_drop_44 : decode cX6_drop 44 = .ok (.iconst 1, 1) := by decide +kernel
theorem dX6_drop_45 : decode cX6_drop 45 = .ok (.iadd, 1) := by decide +kernel
theorem dX6_drop_46 : decode cX6_drop 46 = .ok (.iaload, 1) := by decide +kernel
theorem dX6_drop_47 : decode cX6_drop 47 = .ok (.iastore, 1) := by decide +kernel
theorem dX6_drop_48 : decode cX6_drop 48 = .ok (.aload_n 0, 1) := by decide +kernel
theorem dX6_drop_49 : decode cX6_drop 49 = .ok (.getfield 52, 3) := by decide +kernel
theorem dX6_drop_52 : decode cX6_drop 52 = .ok (.iload_n 2, 1) := by decide +kernel
theorem dX6_drop_53 : decode cX6_drop 53 = .ok (.aload_n 0, 1) := by decide +kernel
theorem dX6_drop_54 : decode cX6_drop 54 = .ok (.getfield 52, 3) := by decide +kernel
theorem dX6_drop_57 : decode cX6_drop 57 = .ok (.iload_n 2, 1) := by decide +kernel
theorem dX6_drop_58 : decode cX6_drop 58 = .ok (.iconst 1, 1) := by decide +kernel
theorem dX6_drop_59 : decode cX6_drop 59 = .ok (.iadd, 1) := by decide +kernel
theorem dX6_drop_60 : decode cX6_drop 60 = .ok (.iaload, 1) := by decide +kernel
theorem dX6_drop_61 : decode cX6_drop 61 = .ok (.iastore, 1) := by decide +kernel
theorem dX6_drop_62 : decode cX6_drop 62 = .ok (.iinc 2 1, 3) := by decide +kernel
theorem dX6_drop_65 : decode cX6_drop 65 = .ok (.goto (-53), 3) := by decide +kernel
theorem dX6_drop_68 : decode cX6_drop 68 = .ok (.return_, 1) := by decide +kernel
theorem dX6_dropAllOf_0 : decode cX6_dropAllOf 0 = .ok (.aload_n 0, 1) := by decide +kernel
theorem dX6_dropAllOf_1 : decode cX6_dropAllOf 1 = .ok (.getfield 74, 3) := by decide +kernel
theorem dX6_dropAllOf_4 : decode cX6_dropAllOf 4 = .ok (.iconst 1, 1) := by decide +kernel
theorem dX6_dropAllOf_5 : decode cX6_dropAllOf 5 = .ok (.isub, 1) := by decide +kernel
theorem dX6_dropAllOf_6 : decode cX6_dropAllOf 6 = .ok (.istore_n 2, 1) := by decide +kernel
theorem dX6_dropAllOf_7 : decode cX6_dropAllOf 7 = .ok (.iload_n 2, 1) := by decide +kernel
theorem dX6_dropAllOf_8 : decode cX6_dropAllOf 8 = .ok (.ifCond .lt 29, 3) := by decide +kernel
theorem dX6_dropAllOf_11 : decode cX6_dropAllOf 11 = .ok (.aload_n 0, 1) := by decide +kernel
theorem dX6_dropAllOf_12 : decode cX6_dropAllOf 12 = .ok (.getfield 46, 3) := by decide +kernel
theorem dX6_dropAllOf_15 : decode cX6_dropAllOf 15 = .ok (.iload_n 2, 1) := by decide +kernel
theorem dX6_dropAllOf_16 : decode cX6_dropAllOf 16 = .ok (.iaload, 1) := by decide +kernel
theorem dX6_dropAllOf_17 : decode cX6_dropAllOf 17 = .ok (.aload_n 0, 1) := by decide +kernel
theorem dX6_dropAllOf_18 : decode cX6_dropAllOf 18 = .ok (.getfield 7, 3) := by decide +kernel
theorem dX6_dropAllOf_21 : decode cX6_dropAllOf 21 = .ok (.irem, 1) := by decide +kernel
theorem dX6_dropAllOf_22 : decode cX6_dropAllOf 22 = .ok (.iload_n 1, 1) := by decide +kernel
theorem dX6_dropAllOf_23 : decode cX6_dropAllOf 23 = .ok (.if_icmp .ne 8, 3) := by decide +kernel
theorem dX6_dropAllOf_26 : decode cX6_dropAllOf 26 = .ok (.aload_n 0, 1) := by decide +kernel
theorem dX6_dropAllOf_27 : decode cX6_dropAllOf 27 = .ok (.iload_n 2, 1) := by decide +kernel
theorem dX6_dropAllOf_28 : decode cX6_dropAllOf 28 = .ok (.invokevirtual 90, 3) := by decide +kernel
theorem dX6_dropAllOf_31 : decode cX6_dropAllOf 31 = .ok (.iinc 2 (-1), 3) := by decide +kernel
theorem dX6_dropAllOf_34 : decode cX6_dropAllOf 34 = .ok (.goto (-27), 3) := by decide +kernel
theorem dX6_dropAllOf_37 : decode cX6_dropAllOf 37 = .ok (.return_, 1) := by decide +kernel
theorem dX6_decide_0 : decode cX6_decide 0 = .ok (.bipush 15, 2) := by decide +kernel
theorem dX6_decide_2 : decode cX6_decide 2 = .ok (.istore_n 3, 1) := by decide +kernel
theorem dX6_decide_3 : decode cX6_decide 3 = .ok (.iload_n 3, 1) := by decide +kernel
theorem dX6_decide_4 : decode cX6_decide 4 = .ok (.ifCond .le 23, 3) := by decide +kernel
theorem dX6_decide_7 : decode cX6_decide 7 = .ok (.aload_n 0, 1) := by decide +kernel
theorem dX6_decide_8 : decode cX6_decide 8 = .ok (.getfield 55, 3) := by decide +kernel
theorem dX6_decide_11 : decode cX6_decide 11 = .ok (.iload_n 3, 1) := by decide +kernel
theorem dX6_decide_12 : decode cX6_decide 12 = .ok (.aload_n 0, 1) := by decide +kernel
theorem dX6_decide_13 : decode cX6_decide 13 = .ok (.getfield 55, 3) := by decide +kernel
theorem dX6_decide_16 : decode cX6_decide 16 = .ok (.iload_n 3, 1) := by decide +kernel
theorem dX6_decide_17 : decode cX6_decide 17 = .ok (.iconst 1, 1) := by decide +kernel
theorem dX6_decide_18 : decode cX6_decide 18 = .ok (.isub, 1) := by decide +kernel
theorem dX6_decide_19 : decode cX6_decide 19 = .ok (.iaload, 1) := by decide +kernel
theorem dX6_decide_20 : decode cX6_decide 20 = .ok (.iastore, 1) := by decide +kernel
theorem dX6_decide_21 : decode cX6_decide 21 = .ok (.iinc 3 (-1), 3) := by decide +kernel
theorem dX6_decide_24 : decode cX6_decide 24 = .ok (.goto (-21), 3) := by decide +kernel
theorem dX6_decide_27 : decode cX6_decide 27 = .ok (.aload_n 0, 1) := by decide +kernel
theorem dX6_decide_28 : decode cX6_decide 28 = .ok (.getfield 55, 3) := by decide +kernel
theorem dX6_decide_31 : decode cX6_decide 31 = .ok (.iconst 0, 1) := by decide +kernel
theorem dX6_decide_32 : decode cX6_decide 32 = .ok (.bipush 10, 2) := by decide +kernel
theorem dX6_decide_34 : decode cX6_decide 34 = .ok (.iload_n 1, 1) := by decide +kernel
theorem dX6_decide_35 : decode cX6_decide 35 = .ok (.imul, 1) := by decide +kernel
theorem dX6_decide_36 : decode cX6_decide 36 = .ok (.iload_n 2, 1) := by decide +kernel
theorem dX6_decide_37 : decode cX6_decide 37 = .ok (.iadd, 1) := by decide +kernel
theorem dX6_decide_38 : decode cX6_decide 38 = .ok (.iastore, 1) := by decide +kernel
theorem dX6_decide_39 : decode cX6_decide 39 = .ok (.aload_n 0, 1) := by decide +kernel
theorem dX6_decide_40 : decode cX6_decide 40 = .ok (.dup, 1) := by decide +kernel
theorem dX6_decide_41 : decode cX6_decide 41 = .ok (.getfield 77, 3) := by decide +kernel
theorem dX6_decide_44 : decode cX6_decide 44 = .ok (.iconst 1, 1) := by decide +kernel
theorem dX6_decide_45 : decode cX6_decide 45 = .ok (.iadd, 1) := by decide +kernel
theorem dX6_decide_46 : decode cX6_decide 46 = .ok (.putfield 77, 3) := by decide +kernel
theorem dX6_decide_49 : decode cX6_decide 49 = .ok (.iload_n 2, 1) := by decide +kernel
theorem dX6_decide_50 : decode cX6_decide 50 = .ok (.ireturn, 1) := by decide +kernel
theorem dX6_count_0 : decode cX6_count 0 = .ok (.aload_n 0, 1) := by decide +kernel
theorem dX6_count_1 : decode cX6_count 1 = .ok (.getfield 28, 3) := by decide +kernel
theorem dX6_count_4 : decode cX6_count 4 = .ok (.iload_n 1, 1) := by decide +kernel
theorem dX6_count_5 : decode cX6_count 5 = .ok (.dup2, 1) := by decide +kernel
theorem dX6_count_6 : decode cX6_count 6 = .ok (.iaload, 1) := by decide +kernel
theorem dX6_count_7 : decode cX6_count 7 = .ok (.iload_n 2, 1) := by decide +kernel
theorem dX6_count_8 : decode cX6_count 8 = .ok (.ifCond .eq 11, 3) := by decide +kernel
theorem dX6_count_11 : decode cX6_count 11 = .ok (.aload_n 0, 1) := by decide +kernel
theorem dX6_count_12 : decode cX6_count 12 = .ok (.getfield 16, 3) := by decide +kernel
theorem dX6_count_15 : decode cX6_count 15 = .ok (.ineg, 1) := by decide +kernel
theorem dX6_count_16 : decode cX6_count 16 = .ok (.goto 7, 3) := by decide +kernel
theorem dX6_count_19 : decode cX6_count 19 = .ok (.aload_n 0, 1) := by decide +kernel
theorem dX6_count_20 : decode cX6_count 20 = .ok (.getfield 13, 3) := by decide +kernel
theorem dX6_count_23 : decode cX6_count 23 = .ok (.iadd, 1) := by decide +kernel
theorem dX6_count_24 : decode cX6_count 24 = .ok (.iastore, 1) := by decide +kernel
theorem dX6_count_25 : decode cX6_count 25 = .ok (.aload_n 0, 1) := by decide +kernel
theorem dX6_count_26 : decode cX6_count 26 = .ok (.getfield 28, 3) := by decide +kernel
theorem dX6_count_29 : decode cX6_count 29 = .ok (.iload_n 1, 1) := by decide +kernel
theorem dX6_count_30 : decode cX6_count 30 = .ok (.iaload, 1) := by decide +kernel
theorem dX6_count_31 : decode cX6_count 31 = .ok (.aload_n 0, 1) := by decide +kernel
theorem dX6_count_32 : decode cX6_count 32 = .ok (.getfield 19, 3) := by decide +kernel
theorem dX6_count_35 : decode cX6_count 35 = .ok (.if_icmp .lt 22, 3) := by decide +kernel
theorem dX6_count_38 : decode cX6_count 38 = .ok (.aload_n 0, 1) := by decide +kernel
theorem dX6_count_39 : decode cX6_count 39 = .ok (.getfield 32, 3) := by decide +kernel
theorem dX6_count_42 : decode cX6_count 42 = .ok (.iload_n 1, 1) := by decide +kernel
theorem dX6_count_43 : decode cX6_count 43 = .ok (.iconst 1, 1) := by decide +kernel
theorem dX6_count_44 : decode cX6_count 44 = .ok (.bastore, 1) := by decide +kernel
theorem dX6_count_45 : decode cX6_count 45 = .ok (.aload_n 0, 1) := by decide +kernel
theorem dX6_count_46 : decode cX6_count 46 = .ok (.iload_n 1, 1) := by decide +kernel
theorem dX6_count_47 : decode cX6_count 47 = .ok (.invokevirtual 94, 3) := by decide +kernel
theorem dX6_count_50 : decode cX6_count 50 = .ok (.aload_n 0, 1) := by decide +kernel
theorem dX6_count_51 : decode cX6_count 51 = .ok (.iload_n 1, 1) := by decide +kernel
theorem dX6_count_52 : decode cX6_count 52 = .ok (.iconst 1, 1) := by decide +kernel
theorem dX6_count_53 : decode cX6_count 53 = .ok (.invokevirtual 97, 3) := by decide +kernel
theorem dX6_count_56 : decode cX6_count 56 = .ok (.ireturn, 1) := by decide +kernel
theorem dX6_count_57 : decode cX6_count 57 = .ok (.aload_n 0, 1) := by decide +kernel
theorem dX6_count_58 : decode cX6_count 58 = .ok (.getfield 28, 3) := by decide +kernel
theorem dX6_count_61 : decode cX6_count 61 = .ok (.iload_n 1, 1) := by decide +kernel
theorem dX6_count_62 : decode cX6_count 62 = .ok (.iaload, 1) := by decide +kernel
theorem dX6_count_63 : decode cX6_count 63 = .ok (.aload_n 0, 1) := by decide +kernel
theorem dX6_count_64 : decode cX6_count 64 = .ok (.getfield 22, 3) := by decide +kernel
theorem dX6_count_67 : decode cX6_count 67 = .ok (.if_icmp .gt 24, 3) := by decide +kernel
theorem dX6_count_70 : decode cX6_count 70 = .ok (.aload_n 0, 1) := by decide +kernel
theorem dX6_count_71 : decode cX6_count 71 = .ok (.getfield 28, 3) := by decide +kernel
theorem dX6_count_74 : decode cX6_count 74 = .ok (.iload_n 1, 1) := by decide +kernel
theorem dX6_count_75 : decode cX6_count 75 = .ok (.iconst 0, 1) := by decide +kernel
theorem dX6_count_76 : decode cX6_count 76 = .ok (.iastore, 1) := by decide +kernel
theorem dX6_count_77 : decode cX6_count 77 = .ok (.aload_n 0, 1) := by decide +kernel
theorem dX6_count_78 : decode cX6_count 78 = .ok (.getfield 36, 3) := by decide +kernel
theorem dX6_count_81 : decode cX6_count 81 = .ok (.iload_n 1, 1) := by decide +kernel
theorem dX6_count_82 : decode cX6_count 82 = .ok (.lconst 0, 1) := by decide +kernel
theorem dX6_count_83 : decode cX6_count 83 = .ok (.lastore, 1) := by decide +kernel
theorem dX6_count_84 : decode cX6_count 84 = .ok (.aload_n 0, 1) := by decide +kernel
theorem dX6_count_85 : decode cX6_count 85 = .ok (.iload_n 1, 1) := by decide +kernel
theorem dX6_count_86 : decode cX6_count 86 = .ok (.iconst 2, 1) := by decide +kernel
theorem dX6_count_87 : decode cX6_count 87 = .ok (.invokevirtual 97, 3) := by decide +kernel
theorem dX6_count_90 : decode cX6_count 90 = .ok (.ireturn, 1) := by decide +kernel
theorem dX6_count_91 : decode cX6_count 91 = .ok (.iconst 0, 1) := by decide +kernel
theorem dX6_count_92 : decode cX6_count 92 = .ok (.ireturn, 1) := by decide +kernel
theorem dX6_isSeen_0 : decode cX6_isSeen 0 = .ok (.aload_n 0, 1) := by decide +kernel
theorem dX6_isSeen_1 : decode cX6_isSeen 1 = .ok (.getfield 36, 3) := by decide +kernel
theorem dX6_isSeen_4 : decode cX6_isSeen 4 = .ok (.iload_n 1, 1) := by decide +kernel
theorem dX6_isSeen_5 : decode cX6_isSeen 5 = .ok (.laload, 1) := by decide +kernel
theorem dX6_isSeen_6 : decode cX6_isSeen 6 = .ok (.iload_n 2, 1) := by decide +kernel
theorem dX6_isSeen_7 : decode cX6_isSeen 7 = .ok (.lshr, 1) := by decide +kernel
theorem dX6_isSeen_8 : decode cX6_isSeen 8 = .ok (.lconst 1, 1) := by decide +kernel
theorem dX6_isSeen_9 : decode cX6_isSeen 9 = .ok (.land, 1) := by decide +kernel
theorem dX6_isSeen_10 : decode cX6_isSeen 10 = .ok (.lconst 1, 1) := by decide +kernel
theorem dX6_isSeen_11 : decode cX6_isSeen 11 = .ok (.lcmp, 1) := by decide +kernel
theorem dX6_isSeen_12 : decode cX6_isSeen 12 = .ok (.ifCond .ne 7, 3) := by decide +kernel
theorem dX6_isSeen_15 : decode cX6_isSeen 15 = .ok (.iconst 1, 1) := by decide +kernel
theorem dX6_isSeen_16 : decode cX6_isSeen 16 = .ok (.goto 4, 3) := by decide +kernel
theorem dX6_isSeen_19 : decode cX6_isSeen 19 = .ok (.iconst 0, 1) := by decide +kernel
theorem dX6_isSeen_20 : decode cX6_isSeen 20 = .ok (.ireturn, 1) := by decide +kernel
theorem dX6_connectNow_0 : decode cX6_connectNow 0 = .ok (.iload_n 1, 1) := by decide +kernel
theorem dX6_connectNow_1 : decode cX6_connectNow 1 = .ok (.aload_n 0, 1) := by decide +kernel
theorem dX6_connectNow_2 : decode cX6_connectNow 2 = .ok (.getfield 7, 3) := by decide +kernel
theorem dX6_connectNow_5 : decode cX6_connectNow 5 = .ok (.irem, 1) := by decide +kernel
theorem dX6_connectNow_6 : decode cX6_connectNow 6 = .ok (.istore 4, 2) := by decide +kernel
theorem dX6_connectNow_8 : decode cX6_connectNow 8 = .ok (.aload_n 0, 1) := by decide +kernel
theorem dX6_connectNow_9 : decode cX6_connectNow 9 = .ok (.getfield 32, 3) := by decide +kernel
theorem dX6_connectNow_12 : decode cX6_connectNow 12 = .ok (.iload 4, 2) := by decide +kernel
theorem dX6_connectNow_14 : decode cX6_connectNow 14 = .ok (.baload, 1) := by decide +kernel
theorem dX6_connectNow_15 : decode cX6_connectNow 15 = .ok (.ifCond .eq 35, 3) := by decide +kernel
theorem dX6_connectNow_18 : decode cX6_connectNow 18 = .ok (.aload_n 0, 1) := by decide +kernel
theorem dX6_connectNow_19 : decode cX6_connectNow 19 = .ok (.getfield 40, 3) := by decide +kernel
theorem dX6_connectNow_22 : decode cX6_connectNow 22 = .ok (.iload 4, 2) := by decide +kernel
theorem dX6_connectNow_24 : decode cX6_connectNow 24 = .ok (.dup2, 1) := by decide +kernel
theorem dX6_connectNow_25 : decode cX6_connectNow 25 = .ok (.iaload, 1) := by decide +kernel
theorem dX6_connectNow_26 : decode cX6_connectNow 26 = .ok (.iconst 1, 1) := by decide +kernel
theorem dX6_connectNow_27 : decode cX6_connectNow 27 = .ok (.iadd, 1) := by decide +kernel
theorem dX6_connectNow_28 : decode cX6_connectNow 28 = .ok (.iastore, 1) := by decide +kernel
theorem dX6_connectNow_29 : decode cX6_connectNow 29 = .ok (.aload_n 0, 1) := by decide +kernel
theorem dX6_connectNow_30 : decode cX6_connectNow 30 = .ok (.getfield 43, 3) := by decide +kernel
theorem dX6_connectNow_33 : decode cX6_connectNow 33 = .ok (.iload 4, 2) := by decide +kernel
theorem dX6_connectNow_35 : decode cX6_connectNow 35 = .ok (.dup2, 1) := by decide +kernel
theorem dX6_connectNow_36 : decode cX6_connectNow 36 = .ok (.iaload, 1) := by decide +kernel
theorem dX6_connectNow_37 : decode cX6_connectNow 37 = .ok (.iload_n 3, 1) := by decide +kernel
theorem dX6_connectNow_38 : decode cX6_connectNow 38 = .ok (.ifCond .eq 7, 3) := by decide +kernel
theorem dX6_connectNow_41 : decode cX6_connectNow 41 = .ok (.iconst 1, 1) := by decide +kernel
theorem dX6_connectNow_42 : decode cX6_connectNow 42 = .ok (.goto 4, 3) := by decide +kernel
theorem dX6_connectNow_45 : decode cX6_connectNow 45 = .ok (.iconst 0, 1) := by decide +kernel
theorem dX6_connectNow_46 : decode cX6_connectNow 46 = .ok (.iadd, 1) := by decide +kernel
theorem dX6_connectNow_47 : decode cX6_connectNow 47 = .ok (.iastore, 1) := by decide +kernel
theorem dX6_connectNow_48 : decode cX6_connectNow 48 = .ok (.iconst 3, 1) := by decide +kernel
theorem dX6_connectNow_49 : decode cX6_connectNow 49 = .ok (.ireturn, 1) := by decide +kernel
theorem dX6_connectNow_50 : decode cX6_connectNow 50 = .ok (.aload_n 0, 1) := by decide +kernel
theorem dX6_connectNow_51 : decode cX6_connectNow 51 = .ok (.iload 4, 2) := by decide +kernel
theorem dX6_connectNow_53 : decode cX6_connectNow 53 = .ok (.iload_n 2, 1) := by decide +kernel
theorem dX6_connectNow_54 : decode cX6_connectNow 54 = .ok (.invokevirtual 101, 3) := by decide +kernel
theorem dX6_connectNow_57 : decode cX6_connectNow 57 = .ok (.ifCond .eq 5, 3) := by decide +kernel
theorem dX6_connectNow_60 : decode cX6_connectNow 60 = .ok (.iconst 4, 1) := by decide +kernel
theorem dX6_connectNow_61 : decode cX6_connectNow 61 = .ok (.ireturn, 1) := by decide +kernel
theorem dX6_connectNow_62 : decode cX6_connectNow 62 = .ok (.aload_n 0, 1) := by decide +kernel
theorem dX6_connectNow_63 : decode cX6_connectNow 63 = .ok (.getfield 36, 3) := by decide +kernel
theorem dX6_connectNow_66 : decode cX6_connectNow 66 = .ok (.iload 4, 2) := by decide +kernel
theorem dX6_connectNow_68 : decode cX6_connectNow 68 = .ok (.dup2, 1) := by decide +kernel
theorem dX6_connectNow_69 : decode cX6_connectNow 69 = .ok (.laload, 1) := by decide +kernel
theorem dX6_connectNow_70 : decode cX6_connectNow 70 = .ok (.lconst 1, 1) := by decide +kernel
theorem dX6_connectNow_71 : decode cX6_connectNow 71 = .ok (.iload_n 2, 1) := by decide +kernel
theorem dX6_connectNow_72 : decode cX6_connectNow 72 = .ok (.lshl, 1) := by decide +kernel
theorem dX6_connectNow_73 : decode cX6_connectNow 73 = .ok (.lor, 1) := by decide +kernel
theorem dX6_connectNow_74 : decode cX6_connectNow 74 = .ok (.lastore, 1) := by decide +kernel
theorem dX6_connectNow_75 : decode cX6_connectNow 75 = .ok (.aload_n 0, 1) := by decide +kernel
theorem dX6_connectNow_76 : decode cX6_connectNow 76 = .ok (.iload 4, 2) := by decide +kernel
theorem dX6_connectNow_78 : decode cX6_connectNow 78 = .ok (.iload_n 3, 1) := by decide +kernel
theorem dX6_connectNow_79 : decode cX6_connectNow 79 = .ok (.invokevirtual 105, 3) := by decide +kernel
theorem dX6_connectNow_82 : decode cX6_connectNow 82 = .ok (.ireturn, 1) := by decide +kernel
theorem dX6_connect_0 : decode cX6_connect 0 = .ok (.iload_n 1, 1) := by decide +kernel
theorem dX6_connect_1 : decode cX6_connect 1 = .ok (.invokestatic 109, 3) := by decide +kernel
theorem dX6_connect_4 : decode cX6_connect 4 = .ok (.ifCond .ne 6, 3) := by decide +kernel
theorem dX6_connect_7 : decode cX6_connect 7 = .ok (.bipush (-105), 2) := by decide +kernel
theorem dX6_connect_9 : decode cX6_connect 9 = .ok (.ireturn, 1) := by decide +kernel
theorem dX6_connect_10 : decode cX6_connect 10 = .ok (.iload_n 2, 1) := by decide +kernel
theorem dX6_connect_11 : decode cX6_connect 11 = .ok (.invokestatic 113, 3) := by decide +kernel
theorem dX6_connect_14 : decode cX6_connect 14 = .ok (.ifCond .eq 13, 3) := by decide +kernel
theorem dX6_connect_17 : decode cX6_connect 17 = .ok (.aload_n 0, 1) := by decide +kernel
theorem dX6_connect_18 : decode cX6_connect 18 = .ok (.iload_n 1, 1) := by decide +kernel
theorem dX6_connect_19 : decode cX6_connect 19 = .ok (.iload_n 2, 1) := by decide +kernel
theorem dX6_connect_20 : decode cX6_connect 20 = .ok (.iload_n 3, 1) := by decide +kernel
theorem dX6_connect_21 : decode cX6_connect 21 = .ok (.invokevirtual 116, 3) := by decide +kernel
theorem dX6_connect_24 : decode cX6_connect 24 = .ok (.goto 5, 3) := by decide +kernel
theorem dX6_connect_27 : decode cX6_connect 27 = .ok (.bipush (-106), 2) := by decide +kernel
theorem dX6_connect_29 : decode cX6_connect 29 = .ok (.ireturn, 1) := by decide +kernel
theorem dX6_attemptNow_0 : decode cX6_attemptNow 0 = .ok (.iload_n 1, 1) := by decide +kernel
theorem dX6_attemptNow_1 : decode cX6_attemptNow 1 = .ok (.aload_n 0, 1) := by decide +kernel
theorem dX6_attemptNow_2 : decode cX6_attemptNow 2 = .ok (.getfield 7, 3) := by decide +kernel
theorem dX6_attemptNow_5 : decode cX6_attemptNow 5 = .ok (.irem, 1) := by decide +kernel
theorem dX6_attemptNow_6 : decode cX6_attemptNow 6 = .ok (.istore_n 3, 1) := by decide +kernel
theorem dX6_attemptNow_7 : decode cX6_attemptNow 7 = .ok (.aload_n 0, 1) := by decide +kernel
theorem dX6_attemptNow_8 : decode cX6_attemptNow 8 = .ok (.getfield 32, 3) := by decide +kernel
theorem dX6_attemptNow_11 : decode cX6_attemptNow 11 = .ok (.iload_n 3, 1) := by decide +kernel
theorem dX6_attemptNow_12 : decode cX6_attemptNow 12 = .ok (.baload, 1) := by decide +kernel
theorem dX6_attemptNow_13 : decode cX6_attemptNow 13 = .ok (.ifCond .eq 15, 3) := by decide +kernel
theorem dX6_attemptNow_16 : decode cX6_attemptNow 16 = .ok (.aload_n 0, 1) := by decide +kernel
theorem dX6_attemptNow_17 : decode cX6_attemptNow 17 = .ok (.getfield 40, 3) := by decide +kernel
theorem dX6_attemptNow_20 : decode cX6_attemptNow 20 = .ok (.iload_n 3, 1) := by decide +kernel
theorem dX6_attemptNow_21 : decode cX6_attemptNow 21 = .ok (.dup2, 1) := by decide +kernel
theorem dX6_attemptNow_22 : decode cX6_attemptNow 22 = .ok (.iaload, 1) := by decide +kernel
theorem dX6_attemptNow_23 : decode cX6_attemptNow 23 = .ok (.iconst 1, 1) := by decide +kernel
theorem dX6_attemptNow_24 : decode cX6_attemptNow 24 = .ok (.iadd, 1) := by decide +kernel
theorem dX6_attemptNow_25 : decode cX6_attemptNow 25 = .ok (.iastore, 1) := by decide +kernel
theorem dX6_attemptNow_26 : decode cX6_attemptNow 26 = .ok (.iconst 3, 1) := by decide +kernel
theorem dX6_attemptNow_27 : decode cX6_attemptNow 27 = .ok (.ireturn, 1) := by decide +kernel
theorem dX6_attemptNow_28 : decode cX6_attemptNow 28 = .ok (.aload_n 0, 1) := by decide +kernel
theorem dX6_attemptNow_29 : decode cX6_attemptNow 29 = .ok (.iload_n 3, 1) := by decide +kernel
theorem dX6_attemptNow_30 : decode cX6_attemptNow 30 = .ok (.iload_n 2, 1) := by decide +kernel
theorem dX6_attemptNow_31 : decode cX6_attemptNow 31 = .ok (.invokevirtual 101, 3) := by decide +kernel
theorem dX6_attemptNow_34 : decode cX6_attemptNow 34 = .ok (.ifCond .eq 5, 3) := by decide +kernel
theorem dX6_attemptNow_37 : decode cX6_attemptNow 37 = .ok (.iconst 4, 1) := by decide +kernel
theorem dX6_attemptNow_38 : decode cX6_attemptNow 38 = .ok (.ireturn, 1) := by decide +kernel
theorem dX6_attemptNow_39 : decode cX6_attemptNow 39 = .ok (.aload_n 0, 1) := by decide +kernel
theorem dX6_attemptNow_40 : decode cX6_attemptNow 40 = .ok (.getfield 74, 3) := by decide +kernel
theorem dX6_attemptNow_43 : decode cX6_attemptNow 43 = .ok (.bipush 12, 2) := by decide +kernel
theorem dX6_attemptNow_45 : decode cX6_attemptNow 45 = .ok (.if_icmp .ne 6, 3) := by decide +kernel
theorem dX6_attemptNow_48 : decode cX6_attemptNow 48 = .ok (.bipush (-110), 2) := by decide +kernel
theorem dX6_attemptNow_50 : decode cX6_attemptNow 50 = .ok (.ireturn, 1) := by decide +kernel
theorem dX6_attemptNow_51 : decode cX6_attemptNow 51 = .ok (.aload_n 0, 1) := by decide +kernel
theorem dX6_attemptNow_52 : decode cX6_attemptNow 52 = .ok (.getfield 36, 3) := by decide +kernel
theorem dX6_attemptNow_55 : decode cX6_attemptNow 55 = .ok (.iload_n 3, 1) := by decide +kernel
theorem dX6_attemptNow_56 : decode cX6_attemptNow 56 = .ok (.dup2, 1) := by decide +kernel
theorem dX6_attemptNow_57 : decode cX6_attemptNow 57 = .ok (.laload, 1) := by decide +kernel
theorem dX6_attemptNow_58 : decode cX6_attemptNow 58 = .ok (.lconst 1, 1) := by decide +kernel
theorem dX6_attemptNow_59 : decode cX6_attemptNow 59 = .ok (.iload_n 2, 1) := by decide +kernel
theorem dX6_attemptNow_60 : decode cX6_attemptNow 60 = .ok (.lshl, 1) := by decide +kernel
theorem dX6_attemptNow_61 : decode cX6_attemptNow 61 = .ok (.lor, 1) := by decide +kernel
theorem dX6_attemptNow_62 : decode cX6_attemptNow 62 = .ok (.lastore, 1) := by decide +kernel
theorem dX6_attemptNow_63 : decode cX6_attemptNow 63 = .ok (.aload_n 0, 1) := by decide +kernel
theorem dX6_attemptNow_64 : decode cX6_attemptNow 64 = .ok (.getfield 46, 3) := by decide +kernel
theorem dX6_attemptNow_67 : decode cX6_attemptNow 67 = .ok (.aload_n 0, 1) := by decide +kernel
theorem dX6_attemptNow_68 : decode cX6_attemptNow 68 = .ok (.getfield 74, 3) := by decide +kernel
theorem dX6_attemptNow_71 : decode cX6_attemptNow 71 = .ok (.iload_n 1, 1) := by decide +kernel
theorem dX6_attemptNow_72 : decode cX6_attemptNow 72 = .ok (.iastore, 1) := by decide +kernel
theorem dX6_attemptNow_73 : decode cX6_attemptNow 73 = .ok (.aload_n 0, 1) := by decide +kernel
theorem dX6_attemptNow_74 : decode cX6_attemptNow 74 = .ok (.getfield 49, 3) := by decide +kernel
theorem dX6_attemptNow_77 : decode cX6_attemptNow 77 = .ok (.aload_n 0, 1) := by decide +kernel
theorem dX6_attemptNow_78 : decode cX6_attemptNow 78 = .ok (.getfield 74, 3) := by decide +kernel
theorem dX6_attemptNow_81 : decode cX6_attemptNow 81 = .ok (.iload_n 2, 1) := by decide +kernel
theorem dX6_attemptNow_82 : decode cX6_attemptNow 82 = .ok (.iastore, 1) := by decide +kernel
theorem dX6_attemptNow_83 : decode cX6_attemptNow 83 = .ok (.aload_n 0, 1) := by decide +kernel
theorem dX6_attemptNow_84 : decode cX6_attemptNow 84 = .ok (.getfield 52, 3) := by decide +kernel
theorem dX6_attemptNow_87 : decode cX6_attemptNow 87 = .ok (.aload_n 0, 1) := by decide +kernel
theorem dX6_attemptNow_88 : decode cX6_attemptNow 88 = .ok (.getfield 74, 3) := by decide +kernel
theorem dX6_attemptNow_91 : decode cX6_attemptNow 91 = .ok (.aload_n 0, 1) := by decide +kernel
theorem dX6_attemptNow_92 : decode cX6_attemptNow 92 = .ok (.getfield 80, 3) := by decide +kernel
theorem dX6_attemptNow_95 : decode cX6_attemptNow 95 = .ok (.aload_n 0, 1) := by decide +kernel
theorem dX6_attemptNow_96 : decode cX6_attemptNow 96 = .ok (.getfield 25, 3) := by decide +kernel
theorem dX6_attemptNow_99 : decode cX6_attemptNow 99 = .ok (.iadd, 1) := by decide +kernel
theorem dX6_attemptNow_100 : decode cX6_attemptNow 100 = .ok (.iastore, 1) := by decide +kernel
theorem dX6_attemptNow_101 : decode cX6_attemptNow 101 = .ok (.aload_n 0, 1) := by decide +kernel
theorem dX6_attemptNow_102 : decode cX6_attemptNow 102 = .ok (.dup, 1) := by decide +kernel
theorem dX6_attemptNow_103 : decode cX6_attemptNow 103 = .ok (.getfield 74, 3) := by decide +kernel
theorem dX6_attemptNow_106 : decode cX6_attemptNow 106 = .ok (.iconst 1, 1) := by decide +kernel
theorem dX6_attemptNow_107 : decode cX6_attemptNow 107 = .ok (.iadd, 1) := by decide +kernel
theorem dX6_attemptNow_108 : decode cX6_attemptNow 108 = .ok (.putfield 74, 3) := by decide +kernel
theorem dX6_attemptNow_111 : decode cX6_attemptNow 111 = .ok (.iconst 0, 1) := by decide +kernel
theorem dX6_attemptNow_112 : decode cX6_attemptNow 112 = .ok (.ireturn, 1) := by decide +kernel
theorem dX6_attempt_0 : decode cX6_attempt 0 = .ok (.iload_n 1, 1) := by decide +kernel
theorem dX6_attempt_1 : decode cX6_attempt 1 = .ok (.invokestatic 109, 3) := by decide +kernel
theorem dX6_attempt_4 : decode cX6_attempt 4 = .ok (.ifCond .ne 6, 3) := by decide +kernel
theorem dX6_attempt_7 : decode cX6_attempt 7 = .ok (.bipush (-105), 2) := by decide +kernel
theorem dX6_attempt_9 : decode cX6_attempt 9 = .ok (.ireturn, 1) := by decide +kernel
theorem dX6_attempt_10 : decode cX6_attempt 10 = .ok (.iload_n 2, 1) := by decide +kernel
theorem dX6_attempt_11 : decode cX6_attempt 11 = .ok (.invokestatic 113, 3) := by decide +kernel
theorem dX6_attempt_14 : decode cX6_attempt 14 = .ok (.ifCond .eq 12, 3) := by decide +kernel
theorem dX6_attempt_17 : decode cX6_attempt 17 = .ok (.aload_n 0, 1) := by decide +kernel
theorem dX6_attempt_18 : decode cX6_attempt 18 = .ok (.iload_n 1, 1) := by decide +kernel
theorem dX6_attempt_19 : decode cX6_attempt 19 = .ok (.iload_n 2, 1) := by decide +kernel
theorem dX6_attempt_20 : decode cX6_attempt 20 = .ok (.invokevirtual 120, 3) := by decide +kernel
theorem dX6_attempt_23 : decode cX6_attempt 23 = .ok (.goto 5, 3) := by decide +kernel
theorem dX6_attempt_26 : decode cX6_attempt 26 = .ok (.bipush (-106), 2) := by decide +kernel
theorem dX6_attempt_28 : decode cX6_attempt 28 = .ok (.ireturn, 1) := by decide +kernel
theorem dX6_answer_0 : decode cX6_answer 0 = .ok (.iconst 0, 1) := by decide +kernel
theorem dX6_answer_1 : decode cX6_answer 1 = .ok (.istore_n 3, 1) := by decide +kernel
theorem dX6_answer_2 : decode cX6_answer 2 = .ok (.iload_n 3, 1) := by decide +kernel
theorem dX6_answer_3 : decode cX6_answer 3 = .ok (.aload_n 0, 1) := by decide +kernel
theorem dX6_answer_4 : decode cX6_answer 4 = .ok (.getfield 74, 3) := by decide +kernel
theorem dX6_answer_7 : decode cX6_answer 7 = .ok (.if_icmp .ge 46, 3) := by decide +kernel
theorem dX6_answer_10 : decode cX6_answer 10 = .ok (.aload_n 0, 1) := by decide +kernel
theorem dX6_answer_11 : decode cX6_answer 11 = .ok (.getfield 46, 3) := by decide +kernel
theorem dX6_answer_14 : decode cX6_answer 14 = .ok (.iload_n 3, 1) := by decide +kernel
theorem dX6_answer_15 : decode cX6_answer 15 = .ok (.iaload, 1) := by decide +kernel
theorem dX6_answer_16 : decode cX6_answer 16 = .ok (.iload_n 1, 1) := by decide +kernel
theorem dX6_answer_17 : decode cX6_answer 17 = .ok (.if_icmp .ne 30, 3) := by decide +kernel
theorem dX6_answer_20 : decode cX6_answer 20 = .ok (.aload_n 0, 1) := by decide +kernel
theorem dX6_answer_21 : decode cX6_answer 21 = .ok (.getfield 49, 3) := by decide +kernel
theorem dX6_answer_24 : decode cX6_answer 24 = .ok (.iload_n 3, 1) := by decide +kernel
theorem dX6_answer_25 : decode cX6_answer 25 = .ok (.iaload, 1) := by decide +kernel
theorem dX6_answer_26 : decode cX6_answer 26 = .ok (.iload_n 2, 1) := by decide +kernel
theorem dX6_answer_27 : decode cX6_answer 27 = .ok (.if_icmp .ne 20, 3) := by decide +kernel
theorem dX6_answer_30 : decode cX6_answer 30 = .ok (.aload_n 0, 1) := by decide +kernel
theorem dX6_answer_31 : decode cX6_answer 31 = .ok (.iload_n 3, 1) := by decide +kernel
theorem dX6_answer_32 : decode cX6_answer 32 = .ok (.invokevirtual 90, 3) := by decide +kernel
theorem dX6_answer_35 : decode cX6_answer 35 = .ok (.aload_n 0, 1) := by decide +kernel
theorem dX6_answer_36 : decode cX6_answer 36 = .ok (.iload_n 1, 1) := by decide +kernel
theorem dX6_answer_37 : decode cX6_answer 37 = .ok (.aload_n 0, 1) := by decide +kernel
theorem dX6_answer_38 : decode cX6_answer 38 = .ok (.getfield 7, 3) := by decide +kernel
theorem dX6_answer_41 : decode cX6_answer 41 = .ok (.irem, 1) := by decide +kernel
theorem dX6_answer_42 : decode cX6_answer 42 = .ok (.iconst 1, 1) := by decide +kernel
theorem dX6_answer_43 : decode cX6_answer 43 = .ok (.invokevirtual 105, 3) := by decide +kernel
theorem dX6_answer_46 : decode cX6_answer 46 = .ok (.ireturn, 1) := by decide +kernel
theorem dX6_answer_47 : decode cX6_answer 47 = .ok (.iinc 3 1, 3) := by decide +kernel
theorem dX6_answer_50 : decode cX6_answer 50 = .ok (.goto (-48), 3) := by decide +kernel
theorem dX6_answer_53 : decode cX6_answer 53 = .ok (.bipush (-108), 2) := by decide +kernel
theorem dX6_answer_55 : decode cX6_answer 55 = .ok (.ireturn, 1) := by decide +kernel
theorem dX6_due_0 : decode cX6_due 0 = .ok (.iconst 0, 1) := by decide +kernel
theorem dX6_due_1 : decode cX6_due 1 = .ok (.istore_n 1, 1) := by decide +kernel
theorem dX6_due_2 : decode cX6_due 2 = .ok (.iload_n 1, 1) := by decide +kernel
theorem dX6_due_3 : decode cX6_due 3 = .ok (.aload_n 0, 1) := by decide +kernel
theorem dX6_due_4 : decode cX6_due 4 = .ok (.getfield 74, 3) := by decide +kernel
theorem dX6_due_7 : decode cX6_due 7 = .ok (.if_icmp .ge 24, 3) := by decide +kernel
theorem dX6_due_10 : decode cX6_due 10 = .ok (.aload_n 0, 1) := by decide +kernel
theorem dX6_due_11 : decode cX6_due 11 = .ok (.getfield 52, 3) := by decide +kernel
theorem dX6_due_14 : decode cX6_due 14 = .ok (.iload_n 1, 1) := by decide +kernel
theorem dX6_due_15 : decode cX6_due 15 = .ok (.iaload, 1) := by decide +kernel
theorem dX6_due_16 : decode cX6_due 16 = .ok (.aload_n 0, 1) := by decide +kernel
theorem dX6_due_17 : decode cX6_due 17 = .ok (.getfield 80, 3) := by decide +kernel
theorem dX6_due_20 : decode cX6_due 20 = .ok (.if_icmp .ne 5, 3) := by decide +kernel
theorem dX6_due_23 : decode cX6_due 23 = .ok (.iload_n 1, 1) := by decide +kernel
theorem dX6_due_24 : decode cX6_due 24 = .ok (.ireturn, 1) := by decide +kernel
theorem dX6_due_25 : decode cX6_due 25 = .ok (.iinc 1 1, 3) := by decide +kernel
theorem dX6_due_28 : decode cX6_due 28 = .ok (.goto (-26), 3) := by decide +kernel
theorem dX6_due_31 : decode cX6_due 31 = .ok (.iconst (-1), 1) := by decide +kernel
theorem dX6_due_32 : decode cX6_due 32 = .ok (.ireturn, 1) := by decide +kernel
theorem dX6_tick_0 : decode cX6_tick 0 = .ok (.aload_n 0, 1) := by decide +kernel
theorem dX6_tick_1 : decode cX6_tick 1 = .ok (.dup, 1) := by decide +kernel
theorem dX6_tick_2 : decode cX6_tick 2 = .ok (.getfield 80, 3) := by decide +kernel
theorem dX6_tick_5 : decode cX6_tick 5 = .ok (.iconst 1, 1) := by decide +kernel
theorem dX6_tick_6 : decode cX6_tick 6 = .ok (.iadd, 1) := by decide +kernel
theorem dX6_tick_7 : decode cX6_tick 7 = .ok (.putfield 80, 3) := by decide +kernel
theorem dX6_tick_10 : decode cX6_tick 10 = .ok (.iconst 0, 1) := by decide +kernel
theorem dX6_tick_11 : decode cX6_tick 11 = .ok (.istore_n 1, 1) := by decide +kernel
theorem dX6_tick_12 : decode cX6_tick 12 = .ok (.aload_n 0, 1) := by decide +kernel
theorem dX6_tick_13 : decode cX6_tick 13 = .ok (.invokevirtual 123, 3) := by decide +kernel
theorem dX6_tick_16 : decode cX6_tick 16 = .ok (.istore_n 2, 1) := by decide +kernel
theorem dX6_tick_17 : decode cX6_tick 17 = .ok (.iload_n 2, 1) := by decide +kernel
theorem dX6_tick_18 : decode cX6_tick 18 = .ok (.ifCond .lt 38, 3) := by decide +kernel
theorem dX6_tick_21 : decode cX6_tick 21 = .ok (.aload_n 0, 1) := by decide +kernel
theorem dX6_tick_22 : decode cX6_tick 22 = .ok (.getfield 46, 3) := by decide +kernel
theorem dX6_tick_25 : decode cX6_tick 25 = .ok (.iload_n 2, 1) := by decide +kernel
theorem dX6_tick_26 : decode cX6_tick 26 = .ok (.iaload, 1) := by decide +kernel
theorem dX6_tick_27 : decode cX6_tick 27 = .ok (.aload_n 0, 1) := by decide +kernel
theorem dX6_tick_28 : decode cX6_tick 28 = .ok (.getfield 7, 3) := by decide +kernel
theorem dX6_tick_31 : decode cX6_tick 31 = .ok (.irem, 1) := by decide +kernel
theorem dX6_tick_32 : decode cX6_tick 32 = .ok (.istore_n 3, 1) := by decide +kernel
theorem dX6_tick_33 : decode cX6_tick 33 = .ok (.aload_n 0, 1) := by decide +kernel
theorem dX6_tick_34 : decode cX6_tick 34 = .ok (.iload_n 2, 1) := by decide +kernel
theorem dX6_tick_35 : decode cX6_tick 35 = .ok (.invokevirtual 90, 3) := by decide +kernel
theorem dX6_tick_38 : decode cX6_tick 38 = .ok (.aload_n 0, 1) := by decide +kernel
theorem dX6_tick_39 : decode cX6_tick 39 = .ok (.iload_n 3, 1) := by decide +kernel
theorem dX6_tick_40 : decode cX6_tick 40 = .ok (.iconst 0, 1) := by decide +kernel
theorem dX6_tick_41 : decode cX6_tick 41 = .ok (.invokevirtual 105, 3) := by decide +kernel
theorem dX6_tick_44 : decode cX6_tick 44 = .ok (.pop, 1) := by decide +kernel
theorem dX6_tick_45 : decode cX6_tick 45 = .ok (.iinc 1 1, 3) := by decide +kernel
theorem dX6_tick_48 : decode cX6_tick 48 = .ok (.aload_n 0, 1) := by decide +kernel
theorem dX6_tick_49 : decode cX6_tick 49 = .ok (.invokevirtual 123, 3) := by decide +kernel
theorem dX6_tick_52 : decode cX6_tick 52 = .ok (.istore_n 2, 1) := by decide +kernel
theorem dX6_tick_53 : decode cX6_tick 53 = .ok (.goto (-36), 3) := by decide +kernel
theorem dX6_tick_56 : decode cX6_tick 56 = .ok (.iload_n 1, 1) := by decide +kernel
theorem dX6_tick_57 : decode cX6_tick 57 = .ok (.ireturn, 1) := by decide +kernel
theorem dX6_advance_0 : decode cX6_advance 0 = .ok (.iload_n 1, 1) := by decide +kernel
theorem dX6_advance_1 : decode cX6_advance 1 = .ok (.iconst 1, 1) := by decide +kernel
theorem dX6_advance_2 : decode cX6_advance 2 = .ok (.bipush 50, 2) := by decide +kernel
theorem dX6_advance_4 : decode cX6_advance 4 = .ok (.invokestatic 83, 3) := by decide +kernel
theorem dX6_advance_7 : decode cX6_advance 7 = .ok (.ifCond .ne 6, 3) := by decide +kernel
theorem dX6_advance_10 : decode cX6_advance 10 = .ok (.bipush (-104), 2) := by decide +kernel
theorem dX6_advance_12 : decode cX6_advance 12 = .ok (.ireturn, 1) := by decide +kernel
theorem dX6_advance_13 : decode cX6_advance 13 = .ok (.iconst 0, 1) := by decide +kernel
theorem dX6_advance_14 : decode cX6_advance 14 = .ok (.istore_n 2, 1) := by decide +kernel
theorem dX6_advance_15 : decode cX6_advance 15 = .ok (.iconst 0, 1) := by decide +kernel
theorem dX6_advance_16 : decode cX6_advance 16 = .ok (.istore_n 3, 1) := by decide +kernel
theorem dX6_advance_17 : decode cX6_advance 17 = .ok (.iload_n 3, 1) := by decide +kernel
theorem dX6_advance_18 : decode cX6_advance 18 = .ok (.iload_n 1, 1) := by decide +kernel
theorem dX6_advance_19 : decode cX6_advance 19 = .ok (.if_icmp .ge 16, 3) := by decide +kernel
theorem dX6_advance_22 : decode cX6_advance 22 = .ok (.iload_n 2, 1) := by decide +kernel
theorem dX6_advance_23 : decode cX6_advance 23 = .ok (.aload_n 0, 1) := by decide +kernel
theorem dX6_advance_24 : decode cX6_advance 24 = .ok (.invokevirtual 127, 3) := by decide +kernel
theorem dX6_advance_27 : decode cX6_advance 27 = .ok (.iadd, 1) := by decide +kernel
theorem dX6_advance_28 : decode cX6_advance 28 = .ok (.istore_n 2, 1) := by decide +kernel
theorem dX6_advance_29 : decode cX6_advance 29 = .ok (.iinc 3 1, 3) := by decide +kernel
theorem dX6_advance_32 : decode cX6_advance 32 = .ok (.goto (-15), 3) := by decide +kernel
theorem dX6_advance_35 : decode cX6_advance 35 = .ok (.iload_n 2, 1) := by decide +kernel
theorem dX6_advance_36 : decode cX6_advance 36 = .ok (.ireturn, 1) := by decide +kernel
theorem dX6_isCell_0 : decode cX6_isCell 0 = .ok (.iload_n 1, 1) := by decide +kernel
theorem dX6_isCell_1 : decode cX6_isCell 1 = .ok (.iconst 0, 1) := by decide +kernel
theorem dX6_isCell_2 : decode cX6_isCell 2 = .ok (.aload_n 0, 1) := by decide +kernel
theorem dX6_isCell_3 : decode cX6_isCell 3 = .ok (.getfield 7, 3) := by decide +kernel
theorem dX6_isCell_6 : decode cX6_isCell 6 = .ok (.iconst 1, 1) := by decide +kernel
theorem dX6_isCell_7 : decode cX6_isCell 7 = .ok (.isub, 1) := by decide +kernel
theorem dX6_isCell_8 : decode cX6_isCell 8 = .ok (.invokestatic 83, 3) := by decide +kernel
theorem dX6_isCell_11 : decode cX6_isCell 11 = .ok (.ireturn, 1) := by decide +kernel
theorem dX6_unblock_0 : decode cX6_unblock 0 = .ok (.aload_n 0, 1) := by decide +kernel
theorem dX6_unblock_1 : decode cX6_unblock 1 = .ok (.iload_n 1, 1) := by decide +kernel
theorem dX6_unblock_2 : decode cX6_unblock 2 = .ok (.invokevirtual 130, 3) := by decide +kernel
theorem dX6_unblock_5 : decode cX6_unblock 5 = .ok (.ifCond .ne 6, 3) := by decide +kernel
theorem dX6_unblock_8 : decode cX6_unblock 8 = .ok (.bipush (-107), 2) := by decide +kernel
theorem dX6_unblock_10 : decode cX6_unblock 10 = .ok (.ireturn, 1) := by decide +kernel
theorem dX6_unblock_11 : decode cX6_unblock 11 = .ok (.aload_n 0, 1) := by decide +kernel
theorem dX6_unblock_12 : decode cX6_unblock 12 = .ok (.getfield 32, 3) := by decide +kernel
theorem dX6_unblock_15 : decode cX6_unblock 15 = .ok (.iload_n 1, 1) := by decide +kernel
theorem dX6_unblock_16 : decode cX6_unblock 16 = .ok (.baload, 1) := by decide +kernel
theorem dX6_unblock_17 : decode cX6_unblock 17 = .ok (.ifCond .ne 6, 3) := by decide +kernel
theorem dX6_unblock_20 : decode cX6_unblock 20 = .ok (.bipush (-111), 2) := by decide +kernel
theorem dX6_unblock_22 : decode cX6_unblock 22 = .ok (.ireturn, 1) := by decide +kernel
theorem dX6_unblock_23 : decode cX6_unblock 23 = .ok (.aload_n 0, 1) := by decide +kernel
theorem dX6_unblock_24 : decode cX6_unblock 24 = .ok (.getfield 28, 3) := by decide +kernel
theorem dX6_unblock_27 : decode cX6_unblock 27 = .ok (.iload_n 1, 1) := by decide +kernel
theorem dX6_unblock_28 : decode cX6_unblock 28 = .ok (.iaload, 1) := by decide +kernel
theorem dX6_unblock_29 : decode cX6_unblock 29 = .ok (.istore_n 2, 1) := by decide +kernel
theorem dX6_unblock_30 : decode cX6_unblock 30 = .ok (.aload_n 0, 1) := by decide +kernel
theorem dX6_unblock_31 : decode cX6_unblock 31 = .ok (.getfield 28, 3) := by decide +kernel
theorem dX6_unblock_34 : decode cX6_unblock 34 = .ok (.iload_n 1, 1) := by decide +kernel
theorem dX6_unblock_35 : decode cX6_unblock 35 = .ok (.iconst 0, 1) := by decide +kernel
theorem dX6_unblock_36 : decode cX6_unblock 36 = .ok (.iastore, 1) := by decide +kernel
theorem dX6_unblock_37 : decode cX6_unblock 37 = .ok (.aload_n 0, 1) := by decide +kernel
theorem dX6_unblock_38 : decode cX6_unblock 38 = .ok (.getfield 36, 3) := by decide +kernel
theorem dX6_unblock_41 : decode cX6_unblock 41 = .ok (.iload_n 1, 1) := by decide +kernel
theorem dX6_unblock_42 : decode cX6_unblock 42 = .ok (.lconst 0, 1) := by decide +kernel
theorem dX6_unblock_43 : decode cX6_unblock 43 = .ok (.lastore, 1) := by decide +kernel
theorem dX6_unblock_44 : decode cX6_unblock 44 = .ok (.aload_n 0, 1) := by decide +kernel
theorem dX6_unblock_45 : decode cX6_unblock 45 = .ok (.getfield 32, 3) := by decide +kernel
theorem dX6_unblock_48 : decode cX6_unblock 48 = .ok (.iload_n 1, 1) := by decide +kernel
theorem dX6_unblock_49 : decode cX6_unblock 49 = .ok (.iconst 0, 1) := by decide +kernel
theorem dX6_unblock_50 : decode cX6_unblock 50 = .ok (.bastore, 1) := by decide +kernel
theorem dX6_unblock_51 : decode cX6_unblock 51 = .ok (.iload_n 2, 1) := by decide +kernel
theorem dX6_unblock_52 : decode cX6_unblock 52 = .ok (.ireturn, 1) := by decide +kernel
theorem dX6_append_0 : decode cX6_append 0 = .ok (.iload_n 1, 1) := by decide +kernel
theorem dX6_append_1 : decode cX6_append 1 = .ok (.bipush 32, 2) := by decide +kernel
theorem dX6_append_3 : decode cX6_append 3 = .ok (.bipush 126, 2) := by decide +kernel
theorem dX6_append_5 : decode cX6_append 5 = .ok (.invokestatic 83, 3) := by decide +kernel
theorem dX6_append_8 : decode cX6_append 8 = .ok (.ifCond .ne 6, 3) := by decide +kernel
theorem dX6_append_11 : decode cX6_append 11 = .ok (.bipush (-101), 2) := by decide +kernel
theorem dX6_append_13 : decode cX6_append 13 = .ok (.ireturn, 1) := by decide +kernel
theorem dX6_append_14 : decode cX6_append 14 = .ok (.aload_n 0, 1) := by decide +kernel
theorem dX6_append_15 : decode cX6_append 15 = .ok (.getfield 133, 3) := by decide +kernel
theorem dX6_append_18 : decode cX6_append 18 = .ok (.bipush 59, 2) := by decide +kernel
theorem dX6_append_20 : decode cX6_append 20 = .ok (.if_icmp .ne 6, 3) := by decide +kernel
theorem dX6_append_23 : decode cX6_append 23 = .ok (.bipush (-102), 2) := by decide +kernel
theorem dX6_append_25 : decode cX6_append 25 = .ok (.ireturn, 1) := by decide +kernel
theorem dX6_append_26 : decode cX6_append 26 = .ok (.aload_n 0, 1) := by decide +kernel
theorem dX6_append_27 : decode cX6_append 27 = .ok (.getfield 58, 3) := by decide +kernel
theorem dX6_append_30 : decode cX6_append 30 = .ok (.aload_n 0, 1) := by decide +kernel
theorem dX6_append_31 : decode cX6_append 31 = .ok (.getfield 133, 3) := by decide +kernel
theorem dX6_append_34 : decode cX6_append 34 = .ok (.iload_n 1, 1) := by decide +kernel
theorem dX6_append_35 : decode cX6_append 35 = .ok (.iastore, 1) := by decide +kernel
theorem dX6_append_36 : decode cX6_append 36 = .ok (.aload_n 0, 1) := by decide +kernel
theorem dX6_append_37 : decode cX6_append 37 = .ok (.dup, 1) := by decide +kernel
theorem dX6_append_38 : decode cX6_append 38 = .ok (.getfield 133, 3) := by decide +kernel
theorem dX6_append_41 : decode cX6_append 41 = .ok (.iconst 1, 1) := by decide +kernel
theorem dX6_append_42 : decode cX6_append 42 = .ok (.iadd, 1) := by decide +kernel
theorem dX6_append_43 : decode cX6_append 43 = .ok (.putfield 133, 3) := by decide +kernel
theorem dX6_append_46 : decode cX6_append 46 = .ok (.aload_n 0, 1) := by decide +kernel
theorem dX6_append_47 : decode cX6_append 47 = .ok (.getfield 133, 3) := by decide +kernel
theorem dX6_append_50 : decode cX6_append 50 = .ok (.ireturn, 1) := by decide +kernel
theorem dX6_clearInput_0 : decode cX6_clearInput 0 = .ok (.aload_n 0, 1) := by decide +kernel
theorem dX6_clearInput_1 : decode cX6_clearInput 1 = .ok (.getfield 133, 3) := by decide +kernel
theorem dX6_clearInput_4 : decode cX6_clearInput 4 = .ok (.istore_n 1, 1) := by decide +kernel
theorem dX6_clearInput_5 : decode cX6_clearInput 5 = .ok (.aload_n 0, 1) := by decide +kernel
theorem dX6_clearInput_6 : decode cX6_clearInput 6 = .ok (.iconst 0, 1) := by decide +kernel
theorem dX6_clearInput_7 : decode cX6_clearInput 7 = .ok (.putfield 133, 3) := by decide +kernel
theorem dX6_clearInput_10 : decode cX6_clearInput 10 = .ok (.iload_n 1, 1) := by decide +kernel
theorem dX6_clearInput_11 : decode cX6_clearInput 11 = .ok (.ireturn, 1) := by decide +kernel
theorem dX6_isRight_0 : decode cX6_isRight 0 = .ok (.aload_n 0, 1) := by decide +kernel
theorem dX6_isRight_1 : decode cX6_isRight 1 = .ok (.getfield 58, 3) := by decide +kernel
theorem dX6_isRight_4 : decode cX6_isRight 4 = .ok (.iload_n 1, 1) := by decide +kernel
theorem dX6_isRight_5 : decode cX6_isRight 5 = .ok (.iaload, 1) := by decide +kernel
theorem dX6_isRight_6 : decode cX6_isRight 6 = .ok (.istore_n 2, 1) := by decide +kernel
theorem dX6_isRight_7 : decode cX6_isRight 7 = .ok (.iload_n 1, 1) := by decide +kernel
theorem dX6_isRight_8 : decode cX6_isRight 8 = .ok (.bipush 6, 2) := by decide +kernel
theorem dX6_isRight_10 : decode cX6_isRight 10 = .ok (.irem, 1) := by decide +kernel
theorem dX6_isRight_11 : decode cX6_isRight 11 = .ok (.tableswitch 108 0 4 #[33, 42, 54, 63, 90], 33) := by decide +kernel
theorem dX6_isRight_44 : decode cX6_isRight 44 = .ok (.iload_n 2, 1) := by decide +kernel
theorem dX6_isRight_45 : decode cX6_isRight 45 = .ok (.bipush 48, 2) := by decide +kernel
theorem dX6_isRight_47 : decode cX6_isRight 47 = .ok (.bipush 55, 2) := by decide +kernel
theorem dX6_isRight_49 : decode cX6_isRight 49 = .ok (.invokestatic 83, 3) := by decide +kernel
theorem dX6_isRight_52 : decode cX6_isRight 52 = .ok (.ireturn, 1) := by decide +kernel
theorem dX6_isRight_53 : decode cX6_isRight 53 = .ok (.iload_n 2, 1) := by decide +kernel
theorem dX6_isRight_54 : decode cX6_isRight 54 = .ok (.bipush 62, 2) := by decide +kernel
theorem dX6_isRight_56 : decode cX6_isRight 56 = .ok (.if_icmp .ne 7, 3) := by decide +kernel
theorem dX6_isRight_59 : decode cX6_isRight 59 = .ok (.iconst 1, 1) := by decide +kernel
theorem dX6_isRight_60 : decode cX6_isRight 60 = .ok (.goto 4, 3) := by decide +kernel
theorem dX6_isRight_63 : decode cX6_isRight 63 = .ok (.iconst 0, 1) := by decide +kernel
theorem dX6_isRight_64 : decode cX6_isRight 64 = .ok (.ireturn, 1) := by decide +kernel
theorem dX6_isRight_65 : decode cX6_isRight 65 = .ok (.iload_n 2, 1) := by decide +kernel
theorem dX6_isRight_66 : decode cX6_isRight 66 = .ok (.bipush 48, 2) := by decide +kernel
theorem dX6_isRight_68 : decode cX6_isRight 68 = .ok (.bipush 51, 2) := by decide +kernel
theorem dX6_isRight_70 : decode cX6_isRight 70 = .ok (.invokestatic 83, 3) := by decide +kernel
theorem dX6_isRight_73 : decode cX6_isRight 73 = .ok (.ireturn, 1) := by decide +kernel
theorem dX6_isRight_74 : decode cX6_isRight 74 = .ok (.iload_n 2, 1) := by decide +kernel
theorem dX6_isRight_75 : decode cX6_isRight 75 = .ok (.bipush 48, 2) := by decide +kernel
theorem dX6_isRight_77 : decode cX6_isRight 77 = .ok (.aload_n 0, 1) := by decide +kernel
theorem dX6_isRight_78 : decode cX6_isRight 78 = .ok (.getfield 58, 3) := by decide +kernel
theorem dX6_isRight_81 : decode cX6_isRight 81 = .ok (.iload_n 1, 1) := by decide +kernel
theorem dX6_isRight_82 : decode cX6_isRight 82 = .ok (.iconst 1, 1) := by decide +kernel
theorem dX6_isRight_83 : decode cX6_isRight 83 = .ok (.isub, 1) := by decide +kernel
theorem dX6_isRight_84 : decode cX6_isRight 84 = .ok (.iaload, 1) := by decide +kernel
theorem dX6_isRight_85 : decode cX6_isRight 85 = .ok (.bipush 51, 2) := by decide +kernel
theorem dX6_isRight_87 : decode cX6_isRight 87 = .ok (.if_icmp .ne 8, 3) := by decide +kernel
theorem dX6_isRight_90 : decode cX6_isRight 90 = .ok (.bipush 49, 2) := by decide +kernel
theorem dX6_isRight_92 : decode cX6_isRight 92 = .ok (.goto 5, 3) := by decide +kernel
theorem dX6_isRight_95 : decode cX6_isRight 95 = .ok (.bipush 57, 2) := by decide +kernel
theorem dX6_isRight_97 : decode cX6_isRight 97 = .ok (.invokestatic 83, 3) := by decide +kernel
theorem dX6_isRight_100 : decode cX6_isRight 100 = .ok (.ireturn, 1) := by decide +kernel
theorem dX6_isRight_101 : decode cX6_isRight 101 = .ok (.iload_n 2, 1) := by decide +kernel
theorem dX6_isRight_102 : decode cX6_isRight 102 = .ok (.bipush 43, 2) := by decide +kernel
theorem dX6_isRight_104 : decode cX6_isRight 104 = .ok (.if_icmp .eq 9, 3) := by decide +kernel
theorem dX6_isRight_107 : decode cX6_isRight 107 = .ok (.iload_n 2, 1) := by decide +kernel
theorem dX6_isRight_108 : decode cX6_isRight 108 = .ok (.bipush 45, 2) := by decide +kernel
theorem dX6_isRight_110 : decode cX6_isRight 110 = .ok (.if_icmp .ne 7, 3) := by decide +kernel
theorem dX6_isRight_113 : decode cX6_isRight 113 = .ok (.iconst 1, 1) := by decide +kernel
theorem dX6_isRight_114 : decode cX6_isRight 114 = .ok (.goto 4, 3) := by decide +kernel
theorem dX6_isRight_117 : decode cX6_isRight 117 = .ok (.iconst 0, 1) := by decide +kernel
theorem dX6_isRight_118 : decode cX6_isRight 118 = .ok (.ireturn, 1) := by decide +kernel
theorem dX6_isRight_119 : decode cX6_isRight 119 = .ok (.iload_n 2, 1) := by decide +kernel
theorem dX6_isRight_120 : decode cX6_isRight 120 = .ok (.bipush 44, 2) := by decide +kernel
theorem dX6_isRight_122 : decode cX6_isRight 122 = .ok (.if_icmp .ne 7, 3) := by decide +kernel
theorem dX6_isRight_125 : decode cX6_isRight 125 = .ok (.iconst 1, 1) := by decide +kernel
theorem dX6_isRight_126 : decode cX6_isRight 126 = .ok (.goto 4, 3) := by decide +kernel
theorem dX6_isRight_129 : decode cX6_isRight 129 = .ok (.iconst 0, 1) := by decide +kernel
theorem dX6_isRight_130 : decode cX6_isRight 130 = .ok (.ireturn, 1) := by decide +kernel
theorem dX6_rightLength_0 : decode cX6_rightLength 0 = .ok (.iconst 0, 1) := by decide +kernel
theorem dX6_rightLength_1 : decode cX6_rightLength 1 = .ok (.istore_n 1, 1) := by decide +kernel
theorem dX6_rightLength_2 : decode cX6_rightLength 2 = .ok (.iload_n 1, 1) := by decide +kernel
theorem dX6_rightLength_3 : decode cX6_rightLength 3 = .ok (.aload_n 0, 1) := by decide +kernel
theorem dX6_rightLength_4 : decode cX6_rightLength 4 = .ok (.getfield 133, 3) := by decide +kernel
theorem dX6_rightLength_7 : decode cX6_rightLength 7 = .ok (.if_icmp .ge 17, 3) := by decide +kernel
theorem dX6_rightLength_10 : decode cX6_rightLength 10 = .ok (.aload_n 0, 1) := by decide +kernel
theorem dX6_rightLength_11 : decode cX6_rightLength 11 = .ok (.iload_n 1, 1) := by decide +kernel
theorem dX6_rightLength_12 : decode cX6_rightLength 12 = .ok (.invokevirtual 136, 3) := by decide +kernel
theorem dX6_rightLength_15 : decode cX6_rightLength 15 = .ok (.ifCond .eq 9, 3) := by decide +kernel
theorem dX6_rightLength_18 : decode cX6_rightLength 18 = .ok (.iinc 1 1, 3) := by decide +kernel
theorem dX6_rightLength_21 : decode cX6_rightLength 21 = .ok (.goto (-19), 3) := by decide +kernel
theorem dX6_rightLength_24 : decode cX6_rightLength 24 = .ok (.iload_n 1, 1) := by decide +kernel
theorem dX6_rightLength_25 : decode cX6_rightLength 25 = .ok (.ireturn, 1) := by decide +kernel
theorem dX6_firstError_0 : decode cX6_firstError 0 = .ok (.aload_n 0, 1) := by decide +kernel
theorem dX6_firstError_1 : decode cX6_firstError 1 = .ok (.invokevirtual 139, 3) := by decide +kernel
theorem dX6_firstError_4 : decode cX6_firstError 4 = .ok (.ireturn, 1) := by decide +kernel
theorem dX6_runInput_0 : decode cX6_runInput 0 = .ok (.aload_n 0, 1) := by decide +kernel
theorem dX6_runInput_1 : decode cX6_runInput 1 = .ok (.getfield 133, 3) := by decide +kernel
theorem dX6_runInput_4 : decode cX6_runInput 4 = .ok (.bipush 6, 2) := by decide +kernel
theorem dX6_runInput_6 : decode cX6_runInput 6 = .ok (.irem, 1) := by decide +kernel
theorem dX6_runInput_7 : decode cX6_runInput 7 = .ok (.iconst 5, 1) := by decide +kernel
theorem dX6_runInput_8 : decode cX6_runInput 8 = .ok (.if_icmp .ne 14, 3) := by decide +kernel
theorem dX6_runInput_11 : decode cX6_runInput 11 = .ok (.aload_n 0, 1) := by decide +kernel
theorem dX6_runInput_12 : decode cX6_runInput 12 = .ok (.invokevirtual 139, 3) := by decide +kernel
theorem dX6_runInput_15 : decode cX6_runInput 15 = .ok (.aload_n 0, 1) := by decide +kernel
theorem dX6_runInput_16 : decode cX6_runInput 16 = .ok (.getfield 133, 3) := by decide +kernel
theorem dX6_runInput_19 : decode cX6_runInput 19 = .ok (.if_icmp .ge 6, 3) := by decide +kernel
theorem dX6_runInput_22 : decode cX6_runInput 22 = .ok (.bipush (-103), 2) := by decide +kernel
theorem dX6_runInput_24 : decode cX6_runInput 24 = .ok (.ireturn, 1) := by decide +kernel
theorem dX6_runInput_25 : decode cX6_runInput 25 = .ok (.iconst 0, 1) := by decide +kernel
theorem dX6_runInput_26 : decode cX6_runInput 26 = .ok (.istore_n 1, 1) := by decide +kernel
theorem dX6_runInput_27 : decode cX6_runInput 27 = .ok (.iconst 0, 1) := by decide +kernel
theorem dX6_runInput_28 : decode cX6_runInput 28 = .ok (.istore_n 2, 1) := by decide +kernel
theorem dX6_runInput_29 : decode cX6_runInput 29 = .ok (.iload_n 2, 1) := by decide +kernel
theorem dX6_runInput_30 : decode cX6_runInput 30 = .ok (.aload_n 0, 1) := by decide +kernel
theorem dX6_runInput_31 : decode cX6_runInput 31 = .ok (.getfield 133, 3) := by decide +kernel
theorem dX6_runInput_34 : decode cX6_runInput 34 = .ok (.if_icmp .ge 84, 3) := by decide +kernel
theorem dX6_runInput_37 : decode cX6_runInput 37 = .ok (.bipush 10, 2) := by decide +kernel
theorem dX6_runInput_39 : decode cX6_runInput 39 = .ok (.aload_n 0, 1) := by decide +kernel
theorem dX6_runInput_40 : decode cX6_runInput 40 = .ok (.getfield 58, 3) := by decide +kernel
theorem dX6_runInput_43 : decode cX6_runInput 43 = .ok (.iload_n 2, 1) := by decide +kernel
theorem dX6_runInput_44 : decode cX6_runInput 44 = .ok (.iconst 2, 1) := by decide +kernel
theorem dX6_runInput_45 : decode cX6_runInput 45 = .ok (.iadd, 1) := by decide +kernel
theorem dX6_runInput_46 : decode cX6_runInput 46 = .ok (.iaload, 1) := by decide +kernel
theorem dX6_runInput_47 : decode cX6_runInput 47 = .ok (.bipush 48, 2) := by decide +kernel
theorem dX6_runInput_49 : decode cX6_runInput 49 = .ok (.isub, 1) := by decide +kernel
theorem dX6_runInput_50 : decode cX6_runInput 50 = .ok (.imul, 1) := by decide +kernel
theorem dX6_runInput_51 : decode cX6_runInput 51 = .ok (.aload_n 0, 1) := by decide +kernel
theorem dX6_runInput_52 : decode cX6_runInput 52 = .ok (.getfield 58, 3) := by decide +kernel
theorem dX6_runInput_55 : decode cX6_runInput 55 = .ok (.iload_n 2, 1) := by decide +kernel
theorem dX6_runInput_56 : decode cX6_runInput 56 = .ok (.iconst 3, 1) := by decide +kernel
theorem dX6_runInput_57 : decode cX6_runInput 57 = .ok (.iadd, 1) := by decide +kernel
theorem dX6_runInput_58 : decode cX6_runInput 58 = .ok (.iaload, 1) := by decide +kernel
theorem dX6_runInput_59 : decode cX6_runInput 59 = .ok (.iadd, 1) := by decide +kernel
theorem dX6_runInput_60 : decode cX6_runInput 60 = .ok (.bipush 48, 2) := by decide +kernel
theorem dX6_runInput_62 : decode cX6_runInput 62 = .ok (.isub, 1) := by decide +kernel
theorem dX6_runInput_63 : decode cX6_runInput 63 = .ok (.istore_n 3, 1) := by decide +kernel
theorem dX6_runInput_64 : decode cX6_runInput 64 = .ok (.aload_n 0, 1) := by decide +kernel
theorem dX6_runInput_65 : decode cX6_runInput 65 = .ok (.aload_n 0, 1) := by decide +kernel
theorem dX6_runInput_66 : decode cX6_runInput 66 = .ok (.getfield 58, 3) := by decide +kernel
theorem dX6_runInput_69 : decode cX6_runInput 69 = .ok (.iload_n 2, 1) := by decide +kernel
theorem dX6_runInput_70 : decode cX6_runInput 70 = .ok (.iaload, 1) := by decide +kernel
theorem dX6_runInput_71 : decode cX6_runInput 71 = .ok (.bipush 48, 2) := by decide +kernel
theorem dX6_runInput_73 : decode cX6_runInput 73 = .ok (.isub, 1) := by decide +kernel
theorem dX6_runInput_74 : decode cX6_runInput 74 = .ok (.iload_n 3, 1) := by decide +kernel
theorem dX6_runInput_75 : decode cX6_runInput 75 = .ok (.aload_n 0, 1) := by decide +kernel
theorem dX6_runInput_76 : decode cX6_runInput 76 = .ok (.getfield 58, 3) := by decide +kernel
theorem dX6_runInput_79 : decode cX6_runInput 79 = .ok (.iload_n 2, 1) := by decide +kernel
theorem dX6_runInput_80 : decode cX6_runInput 80 = .ok (.iconst 4, 1) := by decide +kernel
theorem dX6_runInput_81 : decode cX6_runInput 81 = .ok (.iadd, 1) := by decide +kernel
theorem dX6_runInput_82 : decode cX6_runInput 82 = .ok (.iaload, 1) := by decide +kernel
theorem dX6_runInput_83 : decode cX6_runInput 83 = .ok (.bipush 43, 2) := by decide +kernel
theorem dX6_runInput_85 : decode cX6_runInput 85 = .ok (.if_icmp .ne 7, 3) := by decide +kernel
theorem dX6_runInput_88 : decode cX6_runInput 88 = .ok (.iconst 1, 1) := by decide +kernel
theorem dX6_runInput_89 : decode cX6_runInput 89 = .ok (.goto 4, 3) := by decide +kernel
theorem dX6_runInput_92 : decode cX6_runInput 92 = .ok (.iconst 0, 1) := by decide +kernel
theorem dX6_runInput_93 : decode cX6_runInput 93 = .ok (.invokevirtual 116, 3) := by decide +kernel
theorem dX6_runInput_96 : decode cX6_runInput 96 = .ok (.istore 4, 2) := by decide +kernel
theorem dX6_runInput_98 : decode cX6_runInput 98 = .ok (.iload_n 1, 1) := by decide +kernel
theorem dX6_runInput_99 : decode cX6_runInput 99 = .ok (.iload 4, 2) := by decide +kernel
theorem dX6_runInput_101 : decode cX6_runInput 101 = .ok (.iconst 3, 1) := by decide +kernel
theorem dX6_runInput_102 : decode cX6_runInput 102 = .ok (.if_icmp .ge 7, 3) := by decide +kernel
theorem dX6_runInput_105 : decode cX6_runInput 105 = .ok (.iconst 1, 1) := by decide +kernel
theorem dX6_runInput_106 : decode cX6_runInput 106 = .ok (.goto 4, 3) := by decide +kernel
theorem dX6_runInput_109 : decode cX6_runInput 109 = .ok (.iconst 0, 1) := by decide +kernel
theorem dX6_runInput_110 : decode cX6_runInput 110 = .ok (.iadd, 1) := by decide +kernel
theorem dX6_runInput_111 : decode cX6_runInput 111 = .ok (.istore_n 1, 1) := by decide +kernel
theorem dX6_runInput_112 : decode cX6_runInput 112 = .ok (.iinc 2 6, 3) := by decide +kernel
theorem dX6_runInput_115 : decode cX6_runInput 115 = .ok (.goto (-86), 3) := by decide +kernel
theorem dX6_runInput_118 : decode cX6_runInput 118 = .ok (.aload_n 0, 1) := by decide +kernel
theorem dX6_runInput_119 : decode cX6_runInput 119 = .ok (.iconst 0, 1) := by decide +kernel
theorem dX6_runInput_120 : decode cX6_runInput 120 = .ok (.putfield 133, 3) := by decide +kernel
theorem dX6_runInput_123 : decode cX6_runInput 123 = .ok (.iload_n 1, 1) := by decide +kernel
theorem dX6_runInput_124 : decode cX6_runInput 124 = .ok (.ireturn, 1) := by decide +kernel
theorem dX6_cellOf_0 : decode cX6_cellOf 0 = .ok (.iload_n 1, 1) := by decide +kernel
theorem dX6_cellOf_1 : decode cX6_cellOf 1 = .ok (.invokestatic 109, 3) := by decide +kernel
theorem dX6_cellOf_4 : decode cX6_cellOf 4 = .ok (.ifCond .eq 12, 3) := by decide +kernel
theorem dX6_cellOf_7 : decode cX6_cellOf 7 = .ok (.iload_n 1, 1) := by decide +kernel
theorem dX6_cellOf_8 : decode cX6_cellOf 8 = .ok (.aload_n 0, 1) := by decide +kernel
theorem dX6_cellOf_9 : decode cX6_cellOf 9 = .ok (.getfield 7, 3) := by decide +kernel
theorem dX6_cellOf_12 : decode cX6_cellOf 12 = .ok (.irem, 1) := by decide +kernel
theorem dX6_cellOf_13 : decode cX6_cellOf 13 = .ok (.goto 5, 3) := by decide +kernel
theorem dX6_cellOf_16 : decode cX6_cellOf 16 = .ok (.bipush (-105), 2) := by decide +kernel
theorem dX6_cellOf_18 : decode cX6_cellOf 18 = .ok (.ireturn, 1) := by decide +kernel
theorem dX6_score_0 : decode cX6_score 0 = .ok (.aload_n 0, 1) := by decide +kernel
theorem dX6_score_1 : decode cX6_score 1 = .ok (.iload_n 1, 1) := by decide +kernel
theorem dX6_score_2 : decode cX6_score 2 = .ok (.invokevirtual 130, 3) := by decide +kernel
theorem dX6_score_5 : decode cX6_score 5 = .ok (.ifCond .eq 12, 3) := by decide +kernel
theorem dX6_score_8 : decode cX6_score 8 = .ok (.aload_n 0, 1) := by decide +kernel
theorem dX6_score_9 : decode cX6_score 9 = .ok (.getfield 28, 3) := by decide +kernel
theorem dX6_score_12 : decode cX6_score 12 = .ok (.iload_n 1, 1) := by decide +kernel
theorem dX6_score_13 : decode cX6_score 13 = .ok (.iaload, 1) := by decide +kernel
theorem dX6_score_14 : decode cX6_score 14 = .ok (.goto 5, 3) := by decide +kernel
theorem dX6_score_17 : decode cX6_score 17 = .ok (.bipush (-107), 2) := by decide +kernel
theorem dX6_score_19 : decode cX6_score 19 = .ok (.ireturn, 1) := by decide +kernel
theorem dX6_isBlocked_0 : decode cX6_isBlocked 0 = .ok (.aload_n 0, 1) := by decide +kernel
theorem dX6_isBlocked_1 : decode cX6_isBlocked 1 = .ok (.iload_n 1, 1) := by decide +kernel
theorem dX6_isBlocked_2 : decode cX6_isBlocked 2 = .ok (.invokevirtual 130, 3) := by decide +kernel
theorem dX6_isBlocked_5 : decode cX6_isBlocked 5 = .ok (.ifCond .ne 8, 3) := by decide +kernel
theorem dX6_isBlocked_8 : decode cX6_isBlocked 8 = .ok (.bipush (-107), 2) := by decide +kernel
theorem dX6_isBlocked_10 : decode cX6_isBlocked 10 = .ok (.goto 17, 3) := by decide +kernel
theorem dX6_isBlocked_13 : decode cX6_isBlocked 13 = .ok (.aload_n 0, 1) := by decide +kernel
theorem dX6_isBlocked_14 : decode cX6_isBlocked 14 = .ok (.getfield 32, 3) := by decide +kernel
theorem dX6_isBlocked_17 : decode cX6_isBlocked 17 = .ok (.iload_n 1, 1) := by decide +kernel
theorem dX6_isBlocked_18 : decode cX6_isBlocked 18 = .ok (.baload, 1) := by decide +kernel
theorem dX6_isBlocked_19 : decode cX6_isBlocked 19 = .ok (.ifCond .eq 7, 3) := by decide +kernel
theorem dX6_isBlocked_22 : decode cX6_isBlocked 22 = .ok (.iconst 1, 1) := by decide +kernel
theorem dX6_isBlocked_23 : decode cX6_isBlocked 23 = .ok (.goto 4, 3) := by decide +kernel
theorem dX6_isBlocked_26 : decode cX6_isBlocked 26 = .ok (.iconst 0, 1) := by decide +kernel
theorem dX6_isBlocked_27 : decode cX6_isBlocked 27 = .ok (.ireturn, 1) := by decide +kernel
theorem dX6_seenDestinations_0 : decode cX6_seenDestinations 0 = .ok (.aload_n 0, 1) := by decide +kernel
theorem dX6_seenDestinations_1 : decode cX6_seenDestinations 1 = .ok (.iload_n 1, 1) := by decide +kernel
theorem dX6_seenDestinations_2 : decode cX6_seenDestinations 2 = .ok (.invokevirtual 130, 3) := by decide +kernel
theorem dX6_seenDestinations_5 : decode cX6_seenDestinations 5 = .ok (.ifCond .eq 12, 3) := by decide +kernel
theorem dX6_seenDestinations_8 : decode cX6_seenDestinations 8 = .ok (.aload_n 0, 1) := by decide +kernel
theorem dX6_seenDestinations_9 : decode cX6_seenDestinations 9 = .ok (.getfield 36, 3) := by decide +kernel
theorem dX6_seenDestinations_12 : decode cX6_seenDestinations 12 = .ok (.iload_n 1, 1) := by decide +kernel
theorem dX6_seenDestinations_13 : decode cX6_seenDestinations 13 = .ok (.laload, 1) := by decide +kernel
theorem dX6_seenDestinations_14 : decode cX6_seenDestinations 14 = .ok (.goto 6, 3) := by decide +kernel
theorem dX6_seenDestinations_17 : decode cX6_seenDestinations 17 = .ok (.ldc2_w 142, 3) := by decide +kernel
theorem dX6_seenDestinations_20 : decode cX6_seenDestinations 20 = .ok (.lreturn, 1) := by decide +kernel
theorem dX6_blockedContacts_0 : decode cX6_blockedContacts 0 = .ok (.aload_n 0, 1) := by decide +kernel
theorem dX6_blockedContacts_1 : decode cX6_blockedContacts 1 = .ok (.iload_n 1, 1) := by decide +kernel
theorem dX6_blockedContacts_2 : decode cX6_blockedContacts 2 = .ok (.invokevirtual 130, 3) := by decide +kernel
theorem dX6_blockedContacts_5 : decode cX6_blockedContacts 5 = .ok (.ifCond .eq 12, 3) := by decide +kernel
theorem dX6_blockedContacts_8 : decode cX6_blockedContacts 8 = .ok (.aload_n 0, 1) := by decide +kernel
theorem dX6_blockedContacts_9 : decode cX6_blockedContacts 9 = .ok (.getfield 40, 3) := by decide +kernel
theorem dX6_blockedContacts_12 : decode cX6_blockedContacts 12 = .ok (.iload_n 1, 1) := by decide +kernel
theorem dX6_blockedContacts_13 : decode cX6_blockedContacts 13 = .ok (.iaload, 1) := by decide +kernel
theorem dX6_blockedContacts_14 : decode cX6_blockedContacts 14 = .ok (.goto 5, 3) := by decide +kernel
theorem dX6_blockedContacts_17 : decode cX6_blockedContacts 17 = .ok (.bipush (-107), 2) := by decide +kernel
theorem dX6_blockedContacts_19 : decode cX6_blockedContacts 19 = .ok (.ireturn, 1) := by decide +kernel
theorem dX6_wronglyBlocked_0 : decode cX6_wronglyBlocked 0 = .ok (.aload_n 0, 1) := by decide +kernel
theorem dX6_wronglyBlocked_1 : decode cX6_wronglyBlocked 1 = .ok (.iload_n 1, 1) := by decide +kernel
theorem dX6_wronglyBlocked_2 : decode cX6_wronglyBlocked 2 = .ok (.invokevirtual 130, 3) := by decide +kernel
theorem dX6_wronglyBlocked_5 : decode cX6_wronglyBlocked 5 = .ok (.ifCond .eq 12, 3) := by decide +kernel
theorem dX6_wronglyBlocked_8 : decode cX6_wronglyBlocked 8 = .ok (.aload_n 0, 1) := by decide +kernel
theorem dX6_wronglyBlocked_9 : decode cX6_wronglyBlocked 9 = .ok (.getfield 43, 3) := by decide +kernel
theorem dX6_wronglyBlocked_12 : decode cX6_wronglyBlocked 12 = .ok (.iload_n 1, 1) := by decide +kernel
theorem dX6_wronglyBlocked_13 : decode cX6_wronglyBlocked 13 = .ok (.iaload, 1) := by decide +kernel
theorem dX6_wronglyBlocked_14 : decode cX6_wronglyBlocked 14 = .ok (.goto 5, 3) := by decide +kernel
theorem dX6_wronglyBlocked_17 : decode cX6_wronglyBlocked 17 = .ok (.bipush (-107), 2) := by decide +kernel
theorem dX6_wronglyBlocked_19 : decode cX6_wronglyBlocked 19 = .ok (.ireturn, 1) := by decide +kernel
theorem dX6_attemptCount_0 : decode cX6_attemptCount 0 = .ok (.aload_n 0, 1) := by decide +kernel
theorem dX6_attemptCount_1 : decode cX6_attemptCount 1 = .ok (.getfield 74, 3) := by decide +kernel
theorem dX6_attemptCount_4 : decode cX6_attemptCount 4 = .ok (.ireturn, 1) := by decide +kernel
theorem dX6_described_0 : decode cX6_described 0 = .ok (.sipush 1000, 3) := by decide +kernel
theorem dX6_described_3 : decode cX6_described 3 = .ok (.aload_n 0, 1) := by decide +kernel
theorem dX6_described_4 : decode cX6_described 4 = .ok (.getfield 52, 3) := by decide +kernel
theorem dX6_described_7 : decode cX6_described 7 = .ok (.iload_n 1, 1) := by decide +kernel
theorem dX6_described_8 : decode cX6_described 8 = .ok (.iaload, 1) := by decide +kernel
theorem dX6_described_9 : decode cX6_described 9 = .ok (.aload_n 0, 1) := by decide +kernel
theorem dX6_described_10 : decode cX6_described 10 = .ok (.getfield 80, 3) := by decide +kernel
theorem dX6_described_13 : decode cX6_described 13 = .ok (.isub, 1) := by decide +kernel
theorem dX6_described_14 : decode cX6_described 14 = .ok (.imul, 1) := by decide +kernel
theorem dX6_described_15 : decode cX6_described 15 = .ok (.bipush 100, 2) := by decide +kernel
theorem dX6_described_17 : decode cX6_described 17 = .ok (.aload_n 0, 1) := by decide +kernel
theorem dX6_described_18 : decode cX6_described 18 = .ok (.getfield 46, 3) := by decide +kernel
theorem dX6_described_21 : decode cX6_described 21 = .ok (.iload_n 1, 1) := by decide +kernel
theorem dX6_described_22 : decode cX6_described 22 = .ok (.iaload, 1) := by decide +kernel
theorem dX6_described_23 : decode cX6_described 23 = .ok (.imul, 1) := by decide +kernel
theorem dX6_described_24 : decode cX6_described 24 = .ok (.iadd, 1) := by decide +kernel
theorem dX6_described_25 : decode cX6_described 25 = .ok (.aload_n 0, 1) := by decide +kernel
theorem dX6_described_26 : decode cX6_described 26 = .ok (.getfield 49, 3) := by decide +kernel
theorem dX6_described_29 : decode cX6_described 29 = .ok (.iload_n 1, 1) := by decide +kernel
theorem dX6_described_30 : decode cX6_described 30 = .ok (.iaload, 1) := by decide +kernel
theorem dX6_described_31 : decode cX6_described 31 = .ok (.iadd, 1) := by decide +kernel
theorem dX6_described_32 : decode cX6_described 32 = .ok (.ireturn, 1) := by decide +kernel
theorem dX6_describeAttempt_0 : decode cX6_describeAttempt 0 = .ok (.iload_n 1, 1) := by decide +kernel
theorem dX6_describeAttempt_1 : decode cX6_describeAttempt 1 = .ok (.iconst 0, 1) := by decide +kernel
theorem dX6_describeAttempt_2 : decode cX6_describeAttempt 2 = .ok (.aload_n 0, 1) := by decide +kernel
theorem dX6_describeAttempt_3 : decode cX6_describeAttempt 3 = .ok (.getfield 74, 3) := by decide +kernel
theorem dX6_describeAttempt_6 : decode cX6_describeAttempt 6 = .ok (.iconst 1, 1) := by decide +kernel
theorem dX6_describeAttempt_7 : decode cX6_describeAttempt 7 = .ok (.isub, 1) := by decide +kernel
theorem dX6_describeAttempt_8 : decode cX6_describeAttempt 8 = .ok (.invokestatic 83, 3) := by decide +kernel
theorem dX6_describeAttempt_11 : decode cX6_describeAttempt 11 = .ok (.ifCond .eq 11, 3) := by decide +kernel
theorem dX6_describeAttempt_14 : decode cX6_describeAttempt 14 = .ok (.aload_n 0, 1) := by decide +kernel
theorem dX6_describeAttempt_15 : decode cX6_describeAttempt 15 = .ok (.iload_n 1, 1) := by decide +kernel
theorem dX6_describeAttempt_16 : decode cX6_describeAttempt 16 = .ok (.invokevirtual 144, 3) := by decide +kernel
theorem dX6_describeAttempt_19 : decode cX6_describeAttempt 19 = .ok (.goto 5, 3) := by decide +kernel
theorem dX6_describeAttempt_22 : decode cX6_describeAttempt 22 = .ok (.bipush (-108), 2) := by decide +kernel
theorem dX6_describeAttempt_24 : decode cX6_describeAttempt 24 = .ok (.ireturn, 1) := by decide +kernel
theorem dX6_clock_0 : decode cX6_clock 0 = .ok (.aload_n 0, 1) := by decide +kernel
theorem dX6_clock_1 : decode cX6_clock 1 = .ok (.getfield 80, 3) := by decide +kernel
theorem dX6_clock_4 : decode cX6_clock 4 = .ok (.ireturn, 1) := by decide +kernel
theorem dX6_verdictCount_0 : decode cX6_verdictCount 0 = .ok (.aload_n 0, 1) := by decide +kernel
theorem dX6_verdictCount_1 : decode cX6_verdictCount 1 = .ok (.getfield 77, 3) := by decide +kernel
theorem dX6_verdictCount_4 : decode cX6_verdictCount 4 = .ok (.ireturn, 1) := by decide +kernel
theorem dX6_describeVerdict_0 : decode cX6_describeVerdict 0 = .ok (.iload_n 1, 1) := by decide +kernel
theorem dX6_describeVerdict_1 : decode cX6_describeVerdict 1 = .ok (.iconst 0, 1) := by decide +kernel
theorem dX6_describeVerdict_2 : decode cX6_describeVerdict 2 = .ok (.bipush 15, 2) := by decide +kernel
theorem dX6_describeVerdict_4 : decode cX6_describeVerdict 4 = .ok (.invokestatic 83, 3) := by decide +kernel
theorem dX6_describeVerdict_7 : decode cX6_describeVerdict 7 = .ok (.ifCond .eq 20, 3) := by decide +kernel
theorem dX6_describeVerdict_10 : decode cX6_describeVerdict 10 = .ok (.iload_n 1, 1) := by decide +kernel
theorem dX6_describeVerdict_11 : decode cX6_describeVerdict 11 = .ok (.aload_n 0, 1) := by decide +kernel
theorem dX6_describeVerdict_12 : decode cX6_describeVerdict 12 = .ok (.getfield 77, 3) := by decide +kernel
theorem dX6_describeVerdict_15 : decode cX6_describeVerdict 15 = .ok (.if_icmp .ge 12, 3) := by decide +kernel
theorem dX6_describeVerdict_18 : decode cX6_describeVerdict 18 = .ok (.aload_n 0, 1) := by decide +kernel
theorem dX6_describeVerdict_19 : decode cX6_describeVerdict 19 = .ok (.getfield 55, 3) := by decide +kernel
theorem dX6_describeVerdict_22 : decode cX6_describeVerdict 22 = .ok (.iload_n 1, 1) := by decide +kernel
theorem dX6_describeVerdict_23 : decode cX6_describeVerdict 23 = .ok (.iaload, 1) := by decide +kernel
theorem dX6_describeVerdict_24 : decode cX6_describeVerdict 24 = .ok (.goto 5, 3) := by decide +kernel
theorem dX6_describeVerdict_27 : decode cX6_describeVerdict 27 = .ok (.bipush (-109), 2) := by decide +kernel
theorem dX6_describeVerdict_29 : decode cX6_describeVerdict 29 = .ok (.ireturn, 1) := by decide +kernel
theorem dX6_sequences_0 : decode cX6_sequences 0 = .ok (.iconst 0, 1) := by decide +kernel
theorem dX6_sequences_1 : decode cX6_sequences 1 = .ok (.istore_n 3, 1) := by decide +kernel
theorem dX6_sequences_2 : decode cX6_sequences 2 = .ok (.iload_n 3, 1) := by decide +kernel
theorem dX6_sequences_3 : decode cX6_sequences 3 = .ok (.bipush 121, 2) := by decide +kernel
theorem dX6_sequences_5 : decode cX6_sequences 5 = .ok (.if_icmp .ge 26, 3) := by decide +kernel
theorem dX6_sequences_8 : decode cX6_sequences 8 = .ok (.aload_n 0, 1) := by decide +kernel
theorem dX6_sequences_9 : decode cX6_sequences 9 = .ok (.getfield 61, 3) := by decide +kernel
theorem dX6_sequences_12 : decode cX6_sequences 12 = .ok (.iload_n 3, 1) := by decide +kernel
theorem dX6_sequences_13 : decode cX6_sequences 13 = .ok (.iload_n 3, 1) := by decide +kernel
theorem dX6_sequences_14 : decode cX6_sequences 14 = .ok (.bipush 60, 2) := by decide +kernel
theorem dX6_sequences_16 : decode cX6_sequences 16 = .ok (.if_icmp .ne 7, 3) := by decide +kernel
theorem dX6_sequences_19 : decode cX6_sequences 19 = .ok (.iconst 1, 1) := by decide +kernel
theorem dX6_sequences_20 : decode cX6_sequences 20 = .ok (.goto 4, 3) := by decide +kernel
theorem dX6_sequences_23 : decode cX6_sequences 23 = .ok (.iconst 0, 1) := by decide +kernel
theorem dX6_sequences_24 : decode cX6_sequences 24 = .ok (.iastore, 1) := by decide +kernel
theorem dX6_sequences_25 : decode cX6_sequences 25 = .ok (.iinc 3 1, 3) := by decide +kernel
theorem dX6_sequences_28 : decode cX6_sequences 28 = .ok (.goto (-26), 3) := by decide +kernel
theorem dX6_sequences_31 : decode cX6_sequences 31 = .ok (.iconst 0, 1) := by decide +kernel
theorem dX6_sequences_32 : decode cX6_sequences 32 = .ok (.istore_n 3, 1) := by decide +kernel
theorem dX6_sequences_33 : decode cX6_sequences 33 = .ok (.iconst 0, 1) := by decide +kernel
theorem dX6_sequences_34 : decode cX6_sequences 34 = .ok (.istore 4, 2) := by decide +kernel
theorem dX6_sequences_36 : decode cX6_sequences 36 = .ok (.iconst 0, 1) := by decide +kernel
theorem dX6_sequences_37 : decode cX6_sequences 37 = .ok (.istore 5, 2) := by decide +kernel
theorem dX6_sequences_39 : decode cX6_sequences 39 = .ok (.iload 5, 2) := by decide +kernel
theorem dX6_sequences_41 : decode cX6_sequences 41 = .ok (.iload_n 1, 1) := by decide +kernel
theorem dX6_sequences_42 : decode cX6_sequences 42 = .ok (.if_icmp .ge 194, 3) := by decide +kernel
theorem dX6_sequences_45 : decode cX6_sequences 45 = .ok (.iload_n 3, 1) := by decide +kernel
theorem dX6_sequences_46 : decode cX6_sequences 46 = .ok (.iconst 2, 1) := by decide +kernel
theorem dX6_sequences_47 : decode cX6_sequences 47 = .ok (.imul, 1) := by decide +kernel
theorem dX6_sequences_48 : decode cX6_sequences 48 = .ok (.istore_n 3, 1) := by decide +kernel
theorem dX6_sequences_49 : decode cX6_sequences 49 = .ok (.iload 4, 2) := by decide +kernel
theorem dX6_sequences_51 : decode cX6_sequences 51 = .ok (.iconst 2, 1) := by decide +kernel
theorem dX6_sequences_52 : decode cX6_sequences 52 = .ok (.imul, 1) := by decide +kernel
theorem dX6_sequences_53 : decode cX6_sequences 53 = .ok (.istore 4, 2) := by decide +kernel
theorem dX6_sequences_55 : decode cX6_sequences 55 = .ok (.iconst 0, 1) := by decide +kernel
theorem dX6_sequences_56 : decode cX6_sequences 56 = .ok (.istore 6, 2) := by decide +kernel
theorem dX6_sequences_58 : decode cX6_sequences 58 = .ok (.iload 6, 2) := by decide +kernel
theorem dX6_sequences_60 : decode cX6_sequences 60 = .ok (.bipush 121, 2) := by decide +kernel
theorem dX6_sequences_62 : decode cX6_sequences 62 = .ok (.if_icmp .ge 17, 3) := by decide +kernel
theorem dX6_sequences_65 : decode cX6_sequences 65 = .ok (.aload_n 0, 1) := by decide +kernel
theorem dX6_sequences_66 : decode cX6_sequences 66 = .ok (.getfield 64, 3) := by decide +kernel
theorem dX6_sequences_69 : decode cX6_sequences 69 = .ok (.iload 6, 2) := by decide +kernel
theorem dX6_sequences_71 : decode cX6_sequences 71 = .ok (.iconst 0, 1) := by decide +kernel
theorem dX6_sequences_72 : decode cX6_sequences 72 = .ok (.iastore, 1) := by decide +kernel
theorem dX6_sequences_73 : decode cX6_sequences 73 = .ok (.iinc 6 1, 3) := by decide +kernel
theorem dX6_sequences_76 : decode cX6_sequences 76 = .ok (.goto (-18), 3) := by decide +kernel
theorem dX6_sequences_79 : decode cX6_sequences 79 = .ok (.aload_n 0, 1) := by decide +kernel
theorem dX6_sequences_80 : decode cX6_sequences 80 = .ok (.getfield 22, 3) := by decide +kernel
theorem dX6_sequences_83 : decode cX6_sequences 83 = .ok (.iconst 1, 1) := by decide +kernel
theorem dX6_sequences_84 : decode cX6_sequences 84 = .ok (.iadd, 1) := by decide +kernel
theorem dX6_sequences_85 : decode cX6_sequences 85 = .ok (.istore 6, 2) := by decide +kernel
theorem dX6_sequences_87 : decode cX6_sequences 87 = .ok (.iload 6, 2) := by decide +kernel
theorem dX6_sequences_89 : decode cX6_sequences 89 = .ok (.aload_n 0, 1) := by decide +kernel
theorem dX6_sequences_90 : decode cX6_sequences 90 = .ok (.getfield 19, 3) := by decide +kernel
theorem dX6_sequences_93 : decode cX6_sequences 93 = .ok (.if_icmp .ge 107, 3) := by decide +kernel
theorem dX6_sequences_96 : decode cX6_sequences 96 = .ok (.aload_n 0, 1) := by decide +kernel
theorem dX6_sequences_97 : decode cX6_sequences 97 = .ok (.getfield 61, 3) := by decide +kernel
theorem dX6_sequences_100 : decode cX6_sequences 100 = .ok (.bipush 60, 2) := by decide +kernel
theorem dX6_sequences_102 : decode cX6_sequences 102 = .ok (.iload 6, 2) := by decide +kernel
theorem dX6_sequences_104 : decode cX6_sequences 104 = .ok (.iadd, 1) := by decide +kernel
theorem dX6_sequences_105 : decode cX6_sequences 105 = .ok (.iaload, 1) := by decide +kernel
theorem dX6_sequences_106 : decode cX6_sequences 106 = .ok (.istore 7, 2) := by decide +kernel
theorem dX6_sequences_108 : decode cX6_sequences 108 = .ok (.iload 6, 2) := by decide +kernel
theorem dX6_sequences_110 : decode cX6_sequences 110 = .ok (.aload_n 0, 1) := by decide +kernel
theorem dX6_sequences_111 : decode cX6_sequences 111 = .ok (.getfield 13, 3) := by decide +kernel
theorem dX6_sequences_114 : decode cX6_sequences 114 = .ok (.iadd, 1) := by decide +kernel
theorem dX6_sequences_115 : decode cX6_sequences 115 = .ok (.aload_n 0, 1) := by decide +kernel
theorem dX6_sequences_116 : decode cX6_sequences 116 = .ok (.getfield 19, 3) := by decide +kernel
theorem dX6_sequences_119 : decode cX6_sequences 119 = .ok (.if_icmp .lt 11, 3) := by decide +kernel
theorem dX6_sequences_122 : decode cX6_sequences 122 = .ok (.iload_n 3, 1) := by decide +kernel
theorem dX6_sequences_123 : decode cX6_sequences 123 = .ok (.iload 7, 2) := by decide +kernel
theorem dX6_sequences_125 : decode cX6_sequences 125 = .ok (.iadd, 1) := by decide +kernel
theorem dX6_sequences_126 : decode cX6_sequences 126 = .ok (.istore_n 3, 1) := by decide +kernel
theorem dX6_sequences_127 : decode cX6_sequences 127 = .ok (.goto 23, 3) := by decide +kernel
theorem dX6_sequences_130 : decode cX6_sequences 130 = .ok (.aload_n 0, 1) := by decide +kernel
theorem dX6_sequences_131 : decode cX6_sequences 131 = .ok (.getfield 64, 3) := by decide +kernel
theorem dX6_sequences_134 : decode cX6_sequences 134 = .ok (.bipush 60, 2) := by decide +kernel
theorem dX6_sequences_136 : decode cX6_sequences 136 = .ok (.iload 6, 2) := by decide +kernel
theorem dX6_sequences_138 : decode cX6_sequences 138 = .ok (.iadd, 1) := by decide +kernel
theorem dX6_sequences_139 : decode cX6_sequences 139 = .ok (.aload_n 0, 1) := by decide +kernel
theorem dX6_sequences_140 : decode cX6_sequences 140 = .ok (.getfield 13, 3) := by decide +kernel
theorem dX6_sequences_143 : decode cX6_sequences 143 = .ok (.iadd, 1) := by decide +kernel
theorem dX6_sequences_144 : decode cX6_sequences 144 = .ok (.dup2, 1) := by decide +kernel
theorem dX6_sequences_145 : decode cX6_sequences 145 = .ok (.iaload, 1) := by decide +kernel
theorem dX6_sequences_146 : decode cX6_sequences 146 = .ok (.iload 7, 2) := by decide +kernel
theorem dX6_sequences_148 : decode cX6_sequences 148 = .ok (.iadd, 1) := by decide +kernel
theorem dX6_sequences_149 : decode cX6_sequences 149 = .ok (.iastore, 1) := by decide +kernel
theorem dX6_sequences_150 : decode cX6_sequences 150 = .ok (.iload 6, 2) := by decide +kernel
theorem dX6_sequences_152 : decode cX6_sequences 152 = .ok (.aload_n 0, 1) := by decide +kernel
theorem dX6_sequences_153 : decode cX6_sequences 153 = .ok (.getfield 16, 3) := by decide +kernel
theorem dX6_sequences_156 : decode cX6_sequences 156 = .ok (.isub, 1) := by decide +kernel
theorem dX6_sequences_157 : decode cX6_sequences 157 = .ok (.aload_n 0, 1) := by decide +kernel
theorem dX6_sequences_158 : decode cX6_sequences 158 = .ok (.getfield 22, 3) := by decide +kernel
theorem dX6_sequences_161 : decode cX6_sequences 161 = .ok (.if_icmp .gt 13, 3) := by decide +kernel
theorem dX6_sequences_164 : decode cX6_sequences 164 = .ok (.iload 4, 2) := by decide +kernel
theorem dX6_sequences_166 : decode cX6_sequences 166 = .ok (.iload 7, 2) := by decide +kernel
theorem dX6_sequences_168 : decode cX6_sequences 168 = .ok (.iadd, 1) := by decide +kernel
theorem dX6_sequences_169 : decode cX6_sequences 169 = .ok (.istore 4, 2) := by decide +kernel
theorem dX6_sequences_171 : decode cX6_sequences 171 = .ok (.goto 23, 3) := by decide +kernel
theorem dX6_sequences_174 : decode cX6_sequences 174 = .ok (.aload_n 0, 1) := by decide +kernel
theorem dX6_sequences_175 : decode cX6_sequences 175 = .ok (.getfield 64, 3) := by decide +kernel
theorem dX6_sequences_178 : decode cX6_sequences 178 = .ok (.bipush 60, 2) := by decide +kernel
theorem dX6_sequences_180 : decode cX6_sequences 180 = .ok (.iload 6, 2) := by decide +kernel
theorem dX6_sequences_182 : decode cX6_sequences 182 = .ok (.iadd, 1) := by decide +kernel
theorem dX6_sequences_183 : decode cX6_sequences 183 = .ok (.aload_n 0, 1) := by decide +kernel
theorem dX6_sequences_184 : decode cX6_sequences 184 = .ok (.getfield 16, 3) := by decide +kernel
theorem dX6_sequences_187 : decode cX6_sequences 187 = .ok (.isub, 1) := by decide +kernel
theorem dX6_sequences_188 : decode cX6_sequences 188 = .ok (.dup2, 1) := by decide +kernel
theorem dX6_sequences_189 : decode cX6_sequences 189 = .ok (.iaload, 1) := by decide +kernel
theorem dX6_sequences_190 : decode cX6_sequences 190 = .ok (.iload 7, 2) := by decide +kernel
theorem dX6_sequences_192 : decode cX6_sequences 192 = .ok (.iadd, 1) := by decide +kernel
theorem dX6_sequences_193 : decode cX6_sequences 193 = .ok (.iastore, 1) := by decide +kernel
theorem dX6_sequences_194 : decode cX6_sequences 194 = .ok (.iinc 6 1, 3) := by decide +kernel
theorem dX6_sequences_197 : decode cX6_sequences 197 = .ok (.goto (-110), 3) := by decide +kernel
theorem dX6_sequences_200 : decode cX6_sequences 200 = .ok (.iconst 0, 1) := by decide +kernel
theorem dX6_sequences_201 : decode cX6_sequences 201 = .ok (.istore 6, 2) := by decide +kernel
theorem dX6_sequences_203 : decode cX6_sequences 203 = .ok (.iload 6, 2) := by decide +kernel
theorem dX6_sequences_205 : decode cX6_sequences 205 = .ok (.bipush 121, 2) := by decide +kernel
theorem dX6_sequences_207 : decode cX6_sequences 207 = .ok (.if_icmp .ge 23, 3) := by decide +kernel
theorem dX6_sequences_210 : decode cX6_sequences 210 = .ok (.aload_n 0, 1) := by decide +kernel
theorem dX6_sequences_211 : decode cX6_sequences 211 = .ok (.getfield 61, 3) := by decide +kernel
theorem dX6_sequences_214 : decode cX6_sequences 214 = .ok (.iload 6, 2) := by decide +kernel
theorem dX6_sequences_216 : decode cX6_sequences 216 = .ok (.aload_n 0, 1) := by decide +kernel
theorem dX6_sequences_217 : decode cX6_sequences 217 = .ok (.getfield 64, 3) := by decide +kernel
theorem dX6_sequences_220 : decode cX6_sequences 220 = .ok (.iload 6, 2) := by decide +kernel
theorem dX6_sequences_222 : decode cX6_sequences 222 = .ok (.iaload, 1) := by decide +kernel
theorem dX6_sequences_223 : decode cX6_sequences 223 = .ok (.iastore, 1) := by decide +kernel
theorem dX6_sequences_224 : decode cX6_sequences 224 = .ok (.iinc 6 1, 3) := by decide +kernel
theorem dX6_sequences_227 : decode cX6_sequences 227 = .ok (.goto (-24), 3) := by decide +kernel
theorem dX6_sequences_230 : decode cX6_sequences 230 = .ok (.iinc 5 1, 3) := by decide +kernel
theorem dX6_sequences_233 : decode cX6_sequences 233 = .ok (.goto (-194), 3) := by decide +kernel
theorem dX6_sequences_236 : decode cX6_sequences 236 = .ok (.iload_n 2, 1) := by decide +kernel
theorem dX6_sequences_237 : decode cX6_sequences 237 = .ok (.iconst 1, 1) := by decide +kernel
theorem dX6_sequences_238 : decode cX6_sequences 238 = .ok (.if_icmp .ne 7, 3) := by decide +kernel
theorem dX6_sequences_241 : decode cX6_sequences 241 = .ok (.iload_n 3, 1) := by decide +kernel
theorem dX6_sequences_242 : decode cX6_sequences 242 = .ok (.goto 21, 3) := by decide +kernel
theorem dX6_sequences_245 : decode cX6_sequences 245 = .ok (.iload_n 2, 1) := by decide +kernel
theorem dX6_sequences_246 : decode cX6_sequences 246 = .ok (.iconst 2, 1) := by decide +kernel
theorem dX6_sequences_247 : decode cX6_sequences 247 = .ok (.if_icmp .ne 8, 3) := by decide +kernel
theorem dX6_sequences_250 : decode cX6_sequences 250 = .ok (.iload 4, 2) := by decide +kernel
theorem dX6_sequences_252 : decode cX6_sequences 252 = .ok (.goto 11, 3) := by decide +kernel
theorem dX6_sequences_255 : decode cX6_sequences 255 = .ok (.iconst 1, 1) := by decide +kernel
theorem dX6_sequences_256 : decode cX6_sequences 256 = .ok (.iload_n 1, 1) := by decide +kernel
theorem dX6_sequences_257 : decode cX6_sequences 257 = .ok (.ishl, 1) := by decide +kernel
theorem dX6_sequences_258 : decode cX6_sequences 258 = .ok (.iload_n 3, 1) := by decide +kernel
theorem dX6_sequences_259 : decode cX6_sequences 259 = .ok (.isub, 1) := by decide +kernel
theorem dX6_sequences_260 : decode cX6_sequences 260 = .ok (.iload 4, 2) := by decide +kernel
theorem dX6_sequences_262 : decode cX6_sequences 262 = .ok (.isub, 1) := by decide +kernel
theorem dX6_sequences_263 : decode cX6_sequences 263 = .ok (.ireturn, 1) := by decide +kernel
theorem dX6_countSequences_0 : decode cX6_countSequences 0 = .ok (.iload_n 1, 1) := by decide +kernel
theorem dX6_countSequences_1 : decode cX6_countSequences 1 = .ok (.iconst 0, 1) := by decide +kernel
theorem dX6_countSequences_2 : decode cX6_countSequences 2 = .ok (.bipush 20, 2) := by decide +kernel
theorem dX6_countSequences_4 : decode cX6_countSequences 4 = .ok (.invokestatic 83, 3) := by decide +kernel
theorem dX6_countSequences_7 : decode cX6_countSequences 7 = .ok (.ifCond .eq 21, 3) := by decide +kernel
theorem dX6_countSequences_10 : decode cX6_countSequences 10 = .ok (.iload_n 2, 1) := by decide +kernel
theorem dX6_countSequences_11 : decode cX6_countSequences 11 = .ok (.iconst 0, 1) := by decide +kernel
theorem dX6_countSequences_12 : decode cX6_countSequences 12 = .ok (.iconst 2, 1) := by decide +kernel
theorem dX6_countSequences_13 : decode cX6_countSequences 13 = .ok (.invokestatic 83, 3) := by decide +kernel
theorem dX6_countSequences_16 : decode cX6_countSequences 16 = .ok (.ifCond .eq 12, 3) := by decide +kernel
theorem dX6_countSequences_19 : decode cX6_countSequences 19 = .ok (.aload_n 0, 1) := by decide +kernel
theorem dX6_countSequences_20 : decode cX6_countSequences 20 = .ok (.iload_n 1, 1) := by decide +kernel
theorem dX6_countSequences_21 : decode cX6_countSequences 21 = .ok (.iload_n 2, 1) := by decide +kernel
theorem dX6_countSequences_22 : decode cX6_countSequences 22 = .ok (.invokevirtual 148, 3) := by decide +kernel
theorem dX6_countSequences_25 : decode cX6_countSequences 25 = .ok (.goto 5, 3) := by decide +kernel
theorem dX6_countSequences_28 : decode cX6_countSequences 28 = .ok (.bipush (-104), 2) := by decide +kernel
theorem dX6_countSequences_30 : decode cX6_countSequences 30 = .ok (.ireturn, 1) := by decide +kernel
theorem dX6_step_0 : decode cX6_step 0 = .ok (.dconst 0, 1) := by decide +kernel
theorem dX6_step_1 : decode cX6_step 1 = .ok (.dstore 5, 2) := by decide +kernel
theorem dX6_step_3 : decode cX6_step 3 = .ok (.iconst 0, 1) := by decide +kernel
theorem dX6_step_4 : decode cX6_step 4 = .ok (.istore 7, 2) := by decide +kernel
theorem dX6_step_6 : decode cX6_step 6 = .ok (.iload 7, 2) := by decide +kernel
theorem dX6_step_8 : decode cX6_step 8 = .ok (.bipush 121, 2) := by decide +kernel
theorem dX6_step_10 : decode cX6_step 10 = .ok (.if_icmp .ge 17, 3) := by decide +kernel
theorem dX6_step_13 : decode cX6_step 13 = .ok (.aload_n 0, 1) := by decide +kernel
theorem dX6_step_14 : decode cX6_step 14 = .ok (.getfield 71, 3) := by decide +kernel
theorem dX6_step_17 : decode cX6_step 17 = .ok (.iload 7, 2) := by decide +kernel
theorem dX6_step_19 : decode cX6_step 19 = .ok (.dconst 0, 1) := by decide +kernel
theorem dX6_step_20 : decode cX6_step 20 = .ok (.dastore, 1) := by decide +kernel
theorem dX6_step_21 : decode cX6_step 21 = .ok (.iinc 7 1, 3) := by decide +kernel
theorem dX6_step_24 : decode cX6_step 24 = .ok (.goto (-18), 3) := by decide +kernel
theorem dX6_step_27 : decode cX6_step 27 = .ok (.aload_n 0, 1) := by decide +kernel
theorem dX6_step_28 : decode cX6_step 28 = .ok (.getfield 22, 3) := by decide +kernel
theorem dX6_step_31 : decode cX6_step 31 = .ok (.iconst 1, 1) := by decide +kernel
theorem dX6_step_32 : decode cX6_step 32 = .ok (.iadd, 1) := by decide +kernel
theorem dX6_step_33 : decode cX6_step 33 = .ok (.istore 7, 2) := by decide +kernel
theorem dX6_step_35 : decode cX6_step 35 = .ok (.iload 7, 2) := by decide +kernel
theorem dX6_step_37 : decode cX6_step 37 = .ok (.aload_n 0, 1) := by decide +kernel
theorem dX6_step_38 : decode cX6_step 38 = .ok (.getfield 19, 3) := by decide +kernel
theorem dX6_step_41 : decode cX6_step 41 = .ok (.if_icmp .ge 116, 3) := by decide +kernel
theorem dX6_step_44 : decode cX6_step 44 = .ok (.aload_n 0, 1) := by decide +kernel
theorem dX6_step_45 : decode cX6_step 45 = .ok (.getfield 67, 3) := by decide +kernel
theorem dX6_step_48 : decode cX6_step 48 = .ok (.bipush 60, 2) := by decide +kernel
theorem dX6_step_50 : decode cX6_step 50 = .ok (.iload 7, 2) := by decide +kernel
theorem dX6_step_52 : decode cX6_step 52 = .ok (.iadd, 1) := by decide +kernel
theorem dX6_step_53 : decode cX6_step 53 = .ok (.daload, 1) := by decide +kernel
theorem dX6_step_54 : decode cX6_step 54 = .ok (.dstore 8, 2) := by decide +kernel
theorem dX6_step_56 : decode cX6_step 56 = .ok (.dload 5, 2) := by decide +kernel
theorem dX6_step_58 : decode cX6_step 58 = .ok (.dload 8, 2) := by decide +kernel
theorem dX6_step_60 : decode cX6_step 60 = .ok (.dadd, 1) := by decide +kernel
theorem dX6_step_61 : decode cX6_step 61 = .ok (.dstore 5, 2) := by decide +kernel
theorem dX6_step_63 : decode cX6_step 63 = .ok (.iload 7, 2) := by decide +kernel
theorem dX6_step_65 : decode cX6_step 65 = .ok (.aload_n 0, 1) := by decide +kernel
theorem dX6_step_66 : decode cX6_step 66 = .ok (.getfield 13, 3) := by decide +kernel
theorem dX6_step_69 : decode cX6_step 69 = .ok (.iadd, 1) := by decide +kernel
theorem dX6_step_70 : decode cX6_step 70 = .ok (.aload_n 0, 1) := by decide +kernel
theorem dX6_step_71 : decode cX6_step 71 = .ok (.getfield 19, 3) := by decide +kernel
theorem dX6_step_74 : decode cX6_step 74 = .ok (.if_icmp .lt 19, 3) := by decide +kernel
theorem dX6_step_77 : decode cX6_step 77 = .ok (.aload_n 0, 1) := by decide +kernel
theorem dX6_step_78 : decode cX6_step 78 = .ok (.dup, 1) := by decide +kernel
theorem dX6_step_79 : decode cX6_step 79 = .ok (.getfield 151, 3) := by decide +kernel
theorem dX6_step_82 : decode cX6_step 82 = .ok (.dload 8, 2) := by decide +kernel
theorem dX6_step_84 : decode cX6_step 84 = .ok (.dload_n 3, 1) := by decide +kernel
theorem dX6_step_85 : decode cX6_step 85 = .ok (.dmul, 1) := by decide +kernel
theorem dX6_step_86 : decode cX6_step 86 = .ok (.dadd, 1) := by decide +kernel
theorem dX6_step_87 : decode cX6_step 87 = .ok (.putfield 151, 3) := by decide +kernel
theorem dX6_step_90 : decode cX6_step 90 = .ok (.goto 25, 3) := by decide +kernel
theorem dX6_step_93 : decode cX6_step 93 = .ok (.aload_n 0, 1) := by decide +kernel
theorem dX6_step_94 : decode cX6_step 94 = .ok (.getfield 71, 3) := by decide +kernel
theorem dX6_step_97 : decode cX6_step 97 = .ok (.bipush 60, 2) := by decide +kernel
theorem dX6_step_99 : decode cX6_step 99 = .ok (.iload 7, 2) := by decide +kernel
theorem dX6_step_101 : decode cX6_step 101 = .ok (.iadd, 1) := by decide +kernel
theorem dX6_step_102 : decode cX6_step 102 = .ok (.aload_n 0, 1) := by decide +kernel
theorem dX6_step_103 : decode cX6_step 103 = .ok (.getfield 13, 3) := by decide +kernel
theorem dX6_step_106 : decode cX6_step 106 = .ok (.iadd, 1) := by decide +kernel
theorem dX6_step_107 : decode cX6_step 107 = .ok (.dup2, 1) := by decide +kernel
theorem dX6_step_108 : decode cX6_step 108 = .ok (.daload, 1) := by decide +kernel
theorem dX6_step_109 : decode cX6_step 109 = .ok (.dload 8, 2) := by decide +kernel
theorem dX6_step_111 : decode cX6_step 111 = .ok (.dload_n 3, 1) := by decide +kernel
theorem dX6_step_112 : decode cX6_step 112 = .ok (.dmul, 1) := by decide +kernel
theorem dX6_step_113 : decode cX6_step 113 = .ok (.dadd, 1) := by decide +kernel
theorem dX6_step_114 : decode cX6_step 114 = .ok (.dastore, 1) := by decide +kernel
theorem dX6_step_115 : decode cX6_step 115 = .ok (.iload 7, 2) := by decide +kernel
theorem dX6_step_117 : decode cX6_step 117 = .ok (.aload_n 0, 1) := by decide +kernel
theorem dX6_step_118 : decode cX6_step 118 = .ok (.getfield 16, 3) := by decide +kernel
theorem dX6_step_121 : decode cX6_step 121 = .ok (.isub, 1) := by decide +kernel
theorem dX6_step_122 : decode cX6_step 122 = .ok (.aload_n 0, 1) := by decide +kernel
theorem dX6_step_123 : decode cX6_step 123 = .ok (.getfield 22, 3) := by decide +kernel
theorem dX6_step_126 : decode cX6_step 126 = .ok (.if_icmp .le 25, 3) := by decide +kernel
theorem dX6_step_129 : decode cX6_step 129 = .ok (.aload_n 0, 1) := by decide +kernel
theorem dX6_step_130 : decode cX6_step 130 = .ok (.getfield 71, 3) := by decide +kernel
theorem dX6_step_133 : decode cX6_step 133 = .ok (.bipush 60, 2) := by decide +kernel
theorem dX6_step_135 : decode cX6_step 135 = .ok (.iload 7, 2) := by decide +kernel
theorem dX6_step_137 : decode cX6_step 137 = .ok (.iadd, 1) := by decide +kernel
theorem dX6_step_138 : decode cX6_step 138 = .ok (.aload_n 0, 1) := by decide +kernel
theorem dX6_step_139 : decode cX6_step 139 = .ok (.getfield 16, 3) := by decide +kernel
theorem dX6_step_142 : decode cX6_step 142 = .ok (.isub, 1) := by decide +kernel
theorem dX6_step_143 : decode cX6_step 143 = .ok (.dup2, 1) := by decide +kernel
theorem dX6_step_144 : decode cX6_step 144 = .ok (.daload, 1) := by decide +kernel
theorem dX6_step_145 : decode cX6_step 145 = .ok (.dload 8, 2) := by decide +kernel
theorem dX6_step_147 : decode cX6_step 147 = .ok (.dload_n 1, 1) := by decide +kernel
theorem dX6_step_148 : decode cX6_step 148 = .ok (.dmul, 1) := by decide +kernel
theorem dX6_step_149 : decode cX6_step 149 = .ok (.dadd, 1) := by decide +kernel
theorem dX6_step_150 : decode cX6_step 150 = .ok (.dastore, 1) := by decide +kernel
theorem dX6_step_151 : decode cX6_step 151 = .ok (.iinc 7 1, 3) := by decide +kernel
theorem dX6_step_154 : decode cX6_step 154 = .ok (.goto (-119), 3) := by decide +kernel
theorem dX6_step_157 : decode cX6_step 157 = .ok (.aload_n 0, 1) := by decide +kernel
theorem dX6_step_158 : decode cX6_step 158 = .ok (.dup, 1) := by decide +kernel
theorem dX6_step_159 : decode cX6_step 159 = .ok (.getfield 155, 3) := by decide +kernel
theorem dX6_step_162 : decode cX6_step 162 = .ok (.dload 5, 2) := by decide +kernel
theorem dX6_step_164 : decode cX6_step 164 = .ok (.dadd, 1) := by decide +kernel
theorem dX6_step_165 : decode cX6_step 165 = .ok (.putfield 155, 3) := by decide +kernel
theorem dX6_step_168 : decode cX6_step 168 = .ok (.iconst 0, 1) := by decide +kernel
theorem dX6_step_169 : decode cX6_step 169 = .ok (.istore 7, 2) := by decide +kernel
theorem dX6_step_171 : decode cX6_step 171 = .ok (.iload 7, 2) := by decide +kernel
theorem dX6_step_173 : decode cX6_step 173 = .ok (.bipush 121, 2) := by decide +kernel
theorem dX6_step_175 : decode cX6_step 175 = .ok (.if_icmp .ge 23, 3) := by decide +kernel
theorem dX6_step_178 : decode cX6_step 178 = .ok (.aload_n 0, 1) := by decide +kernel
theorem dX6_step_179 : decode cX6_step 179 = .ok (.getfield 67, 3) := by decide +kernel
theorem dX6_step_182 : decode cX6_step 182 = .ok (.iload 7, 2) := by decide +kernel
theorem dX6_step_184 : decode cX6_step 184 = .ok (.aload_n 0, 1) := by decide +kernel
theorem dX6_step_185 : decode cX6_step 185 = .ok (.getfield 71, 3) := by decide +kernel
theorem dX6_step_188 : decode cX6_step 188 = .ok (.iload 7, 2) := by decide +kernel
theorem dX6_step_190 : decode cX6_step 190 = .ok (.daload, 1) := by decide +kernel
theorem dX6_step_191 : decode cX6_step 191 = .ok (.dastore, 1) := by decide +kernel
theorem dX6_step_192 : decode cX6_step 192 = .ok (.iinc 7 1, 3) := by decide +kernel
theorem dX6_step_195 : decode cX6_step 195 = .ok (.goto (-24), 3) := by decide +kernel
theorem dX6_step_198 : decode cX6_step 198 = .ok (.return_, 1) := by decide +kernel
theorem dX6_layChances_0 : decode cX6_layChances 0 = .ok (.iload_n 1, 1) := by decide +kernel
theorem dX6_layChances_1 : decode cX6_layChances 1 = .ok (.i2d, 1) := by decide +kernel
theorem dX6_layChances_2 : decode cX6_layChances 2 = .ok (.ldc2_w 158, 3) := by decide +kernel
theorem dX6_layChances_5 : decode cX6_layChances 5 = .ok (.ddiv, 1) := by decide +kernel
theorem dX6_layChances_6 : decode cX6_layChances 6 = .ok (.dstore_n 3, 1) := by decide +kernel
theorem dX6_layChances_7 : decode cX6_layChances 7 = .ok (.dconst 1, 1) := by decide +kernel
theorem dX6_layChances_8 : decode cX6_layChances 8 = .ok (.dload_n 3, 1) := by decide +kernel
theorem dX6_layChances_9 : decode cX6_layChances 9 = .ok (.dsub, 1) := by decide +kernel
theorem dX6_layChances_10 : decode cX6_layChances 10 = .ok (.dstore 5, 2) := by decide +kernel
theorem dX6_layChances_12 : decode cX6_layChances 12 = .ok (.iconst 0, 1) := by decide +kernel
theorem dX6_layChances_13 : decode cX6_layChances 13 = .ok (.istore 7, 2) := by decide +kernel
theorem dX6_layChances_15 : decode cX6_layChances 15 = .ok (.iload 7, 2) := by decide +kernel
theorem dX6_layChances_17 : decode cX6_layChances 17 = .ok (.bipush 121, 2) := by decide +kernel
theorem dX6_layChances_19 : decode cX6_layChances 19 = .ok (.if_icmp .ge 28, 3) := by decide +kernel
theorem dX6_layChances_22 : decode cX6_layChances 22 = .ok (.aload_n 0, 1) := by decide +kernel
theorem dX6_layChances_23 : decode cX6_layChances 23 = .ok (.getfield 67, 3) := by decide +kernel
theorem dX6_layChances_26 : decode cX6_layChances 26 = .ok (.iload 7, 2) := by decide +kernel
theorem dX6_layChances_28 : decode cX6_layChances 28 = .ok (.iload 7, 2) := by decide +kernel
theorem dX6_layChances_30 : decode cX6_layChances 30 = .ok (.bipush 60, 2) := by decide +kernel
theorem dX6_layChances_32 : decode cX6_layChances 32 = .ok (.if_icmp .ne 7, 3) := by decide +kernel
theorem dX6_layChances_35 : decode cX6_layChances 35 = .ok (.dconst 1, 1) := by decide +kernel
theorem dX6_layChances_36 : decode cX6_layChances 36 = .ok (.goto 4, 3) := by decide +kernel
theorem dX6_layChances_39 : decode cX6_layChances 39 = .ok (.dconst 0, 1) := by decide +kernel
theorem dX6_layChances_40 : decode cX6_layChances 40 = .ok (.dastore, 1) := by decide +kernel
theorem dX6_layChances_41 : decode cX6_layChances 41 = .ok (.iinc 7 1, 3) := by decide +kernel
theorem dX6_layChances_44 : decode cX6_layChances 44 = .ok (.goto (-29), 3) := by decide +kernel
theorem dX6_layChances_47 : decode cX6_layChances 47 = .ok (.aload_n 0, 1) := by decide +kernel
theorem dX6_layChances_48 : decode cX6_layChances 48 = .ok (.dconst 0, 1) := by decide +kernel
theorem dX6_layChances_49 : decode cX6_layChances 49 = .ok (.putfield 151, 3) := by decide +kernel
theorem dX6_layChances_52 : decode cX6_layChances 52 = .ok (.aload_n 0, 1) := by decide +kernel
theorem dX6_layChances_53 : decode cX6_layChances 53 = .ok (.dconst 0, 1) := by decide +kernel
theorem dX6_layChances_54 : decode cX6_layChances 54 = .ok (.putfield 155, 3) := by decide +kernel
theorem dX6_layChances_57 : decode cX6_layChances 57 = .ok (.iconst 0, 1) := by decide +kernel
theorem dX6_layChances_58 : decode cX6_layChances 58 = .ok (.istore 7, 2) := by decide +kernel
theorem dX6_layChances_60 : decode cX6_layChances 60 = .ok (.iload 7, 2) := by decide +kernel
theorem dX6_layChances_62 : decode cX6_layChances 62 = .ok (.iload_n 2, 1) := by decide +kernel
theorem dX6_layChances_63 : decode cX6_layChances 63 = .ok (.if_icmp .ge 16, 3) := by decide +kernel
theorem dX6_layChances_66 : decode cX6_layChances 66 = .ok (.aload_n 0, 1) := by decide +kernel
theorem dX6_layChances_67 : decode cX6_layChances 67 = .ok (.dload_n 3, 1) := by decide +kernel
theorem dX6_layChances_68 : decode cX6_layChances 68 = .ok (.dload 5, 2) := by decide +kernel
theorem dX6_layChances_70 : decode cX6_layChances 70 = .ok (.invokevirtual 160, 3) := by decide +kernel
theorem dX6_layChances_73 : decode cX6_layChances 73 = .ok (.iinc 7 1, 3) := by decide +kernel
theorem dX6_layChances_76 : decode cX6_layChances 76 = .ok (.goto (-16), 3) := by decide +kernel
theorem dX6_layChances_79 : decode cX6_layChances 79 = .ok (.return_, 1) := by decide +kernel
theorem dX6_areRight_0 : decode cX6_areRight 0 = .ok (.iload_n 0, 1) := by decide +kernel
theorem dX6_areRight_1 : decode cX6_areRight 1 = .ok (.iconst 0, 1) := by decide +kernel
theorem dX6_areRight_2 : decode cX6_areRight 2 = .ok (.bipush 100, 2) := by decide +kernel
theorem dX6_areRight_4 : decode cX6_areRight 4 = .ok (.invokestatic 83, 3) := by decide +kernel
theorem dX6_areRight_7 : decode cX6_areRight 7 = .ok (.ifCond .eq 17, 3) := by decide +kernel
theorem dX6_areRight_10 : decode cX6_areRight 10 = .ok (.iload_n 1, 1) := by decide +kernel
theorem dX6_areRight_11 : decode cX6_areRight 11 = .ok (.iconst 0, 1) := by decide +kernel
theorem dX6_areRight_12 : decode cX6_areRight 12 = .ok (.bipush 60, 2) := by decide +kernel
theorem dX6_areRight_14 : decode cX6_areRight 14 = .ok (.invokestatic 83, 3) := by decide +kernel
theorem dX6_areRight_17 : decode cX6_areRight 17 = .ok (.ifCond .eq 7, 3) := by decide +kernel
theorem dX6_areRight_20 : decode cX6_areRight 20 = .ok (.iconst 1, 1) := by decide +kernel
theorem dX6_areRight_21 : decode cX6_areRight 21 = .ok (.goto 4, 3) := by decide +kernel
theorem dX6_areRight_24 : decode cX6_areRight 24 = .ok (.iconst 0, 1) := by decide +kernel
theorem dX6_areRight_25 : decode cX6_areRight 25 = .ok (.ireturn, 1) := by decide +kernel
theorem dX6_scannedBits_0 : decode cX6_scannedBits 0 = .ok (.aload_n 0, 1) := by decide +kernel
theorem dX6_scannedBits_1 : decode cX6_scannedBits 1 = .ok (.iload_n 1, 1) := by decide +kernel
theorem dX6_scannedBits_2 : decode cX6_scannedBits 2 = .ok (.iload_n 2, 1) := by decide +kernel
theorem dX6_scannedBits_3 : decode cX6_scannedBits 3 = .ok (.invokevirtual 164, 3) := by decide +kernel
theorem dX6_scannedBits_6 : decode cX6_scannedBits 6 = .ok (.aload_n 0, 1) := by decide +kernel
theorem dX6_scannedBits_7 : decode cX6_scannedBits 7 = .ok (.getfield 151, 3) := by decide +kernel
theorem dX6_scannedBits_10 : decode cX6_scannedBits 10 = .ok (.invokestatic 168, 3) := by decide +kernel
theorem dX6_scannedBits_13 : decode cX6_scannedBits 13 = .ok (.lreturn, 1) := by decide +kernel
theorem dX6_awaitedBits_0 : decode cX6_awaitedBits 0 = .ok (.aload_n 0, 1) := by decide +kernel
theorem dX6_awaitedBits_1 : decode cX6_awaitedBits 1 = .ok (.iload_n 1, 1) := by decide +kernel
theorem dX6_awaitedBits_2 : decode cX6_awaitedBits 2 = .ok (.iload_n 2, 1) := by decide +kernel
theorem dX6_awaitedBits_3 : decode cX6_awaitedBits 3 = .ok (.invokevirtual 164, 3) := by decide +kernel
theorem dX6_awaitedBits_6 : decode cX6_awaitedBits 6 = .ok (.aload_n 0, 1) := by decide +kernel
theorem dX6_awaitedBits_7 : decode cX6_awaitedBits 7 = .ok (.getfield 155, 3) := by decide +kernel
theorem dX6_awaitedBits_10 : decode cX6_awaitedBits 10 = .ok (.invokestatic 168, 3) := by decide +kernel
theorem dX6_awaitedBits_13 : decode cX6_awaitedBits 13 = .ok (.lreturn, 1) := by decide +kernel
theorem dX6_scannerProbability_0 : decode cX6_scannerProbability 0 = .ok (.iload_n 1, 1) := by decide +kernel
theorem dX6_scannerProbability_1 : decode cX6_scannerProbability 1 = .ok (.iload_n 2, 1) := by decide +kernel
theorem dX6_scannerProbability_2 : decode cX6_scannerProbability 2 = .ok (.invokestatic 174, 3) := by decide +kernel
theorem dX6_scannerProbability_5 : decode cX6_scannerProbability 5 = .ok (.ifCond .eq 12, 3) := by decide +kernel
theorem dX6_scannerProbability_8 : decode cX6_scannerProbability 8 = .ok (.aload_n 0, 1) := by decide +kernel
theorem dX6_scannerProbability_9 : decode cX6_scannerProbability 9 = .ok (.iload_n 1, 1) := by decide +kernel
theorem dX6_scannerProbability_10 : decode cX6_scannerProbability 10 = .ok (.iload_n 2, 1) := by decide +kernel
theorem dX6_scannerProbability_11 : decode cX6_scannerProbability 11 = .ok (.invokevirtual 177, 3) := by decide +kernel
theorem dX6_scannerProbability_14 : decode cX6_scannerProbability 14 = .ok (.goto 6, 3) := by decide +kernel
theorem dX6_scannerProbability_17 : decode cX6_scannerProbability 17 = .ok (.ldc2_w 181, 3) := by decide +kernel
theorem dX6_scannerProbability_20 : decode cX6_scannerProbability 20 = .ok (.lreturn, 1) := by decide +kernel
theorem dX6_expectedContacts_0 : decode cX6_expectedContacts 0 = .ok (.iload_n 1, 1) := by decide +kernel
theorem dX6_expectedContacts_1 : decode cX6_expectedContacts 1 = .ok (.iload_n 2, 1) := by decide +kernel
theorem dX6_expectedContacts_2 : decode cX6_expectedContacts 2 = .ok (.invokestatic 174, 3) := by decide +kernel
theorem dX6_expectedContacts_5 : decode cX6_expectedContacts 5 = .ok (.ifCond .eq 12, 3) := by decide +kernel
theorem dX6_expectedContacts_8 : decode cX6_expectedContacts 8 = .ok (.aload_n 0, 1) := by decide +kernel
theorem dX6_expectedContacts_9 : decode cX6_expectedContacts 9 = .ok (.iload_n 1, 1) := by decide +kernel
theorem dX6_expectedContacts_10 : decode cX6_expectedContacts 10 = .ok (.iload_n 2, 1) := by decide +kernel
theorem dX6_expectedContacts_11 : decode cX6_expectedContacts 11 = .ok (.invokevirtual 183, 3) := by decide +kernel
theorem dX6_expectedContacts_14 : decode cX6_expectedContacts 14 = .ok (.goto 6, 3) := by decide +kernel
theorem dX6_expectedContacts_17 : decode cX6_expectedContacts 17 = .ok (.ldc2_w 181, 3) := by decide +kernel
theorem dX6_expectedContacts_20 : decode cX6_expectedContacts 20 = .ok (.lreturn, 1) := by decide +kernel
theorem dX6_mix_0 : decode cX6_mix 0 = .ok (.aload_n 0, 1) := by decide +kernel
theorem dX6_mix_1 : decode cX6_mix 1 = .ok (.ldc2_w 186, 3) := by decide +kernel
theorem dX6_mix_4 : decode cX6_mix 4 = .ok (.aload_n 0, 1) := by decide +kernel
theorem dX6_mix_5 : decode cX6_mix 5 = .ok (.getfield 188, 3) := by decide +kernel
theorem dX6_mix_8 : decode cX6_mix 8 = .ok (.lmul, 1) := by decide +kernel
theorem dX6_mix_9 : decode cX6_mix 9 = .ok (.lload_n 1, 1) := by decide +kernel
theorem dX6_mix_10 : decode cX6_mix 10 = .ok (.ladd, 1) := by decide +kernel
theorem dX6_mix_11 : decode cX6_mix 11 = .ok (.putfield 188, 3) := by decide +kernel
theorem dX6_mix_14 : decode cX6_mix 14 = .ok (.return_, 1) := by decide +kernel
theorem dX6_digest_0 : decode cX6_digest 0 = .ok (.aload_n 0, 1) := by decide +kernel
theorem dX6_digest_1 : decode cX6_digest 1 = .ok (.ldc2_w 192, 3) := by decide +kernel
theorem dX6_digest_4 : decode cX6_digest 4 = .ok (.putfield 188, 3) := by decide +kernel
theorem dX6_digest_7 : decode cX6_digest 7 = .ok (.aload_n 0, 1) := by decide +kernel
theorem dX6_digest_8 : decode cX6_digest 8 = .ok (.aload_n 0, 1) := by decide +kernel
theorem dX6_digest_9 : decode cX6_digest 9 = .ok (.getfield 7, 3) := by decide +kernel
theorem dX6_digest_12 : decode cX6_digest 12 = .ok (.i2l, 1) := by decide +kernel
theorem dX6_digest_13 : decode cX6_digest 13 = .ok (.invokevirtual 194, 3) := by decide +kernel
theorem dX6_digest_16 : decode cX6_digest 16 = .ok (.aload_n 0, 1) := by decide +kernel
theorem dX6_digest_17 : decode cX6_digest 17 = .ok (.aload_n 0, 1) := by decide +kernel
theorem dX6_digest_18 : decode cX6_digest 18 = .ok (.getfield 13, 3) := by decide +kernel
theorem dX6_digest_21 : decode cX6_digest 21 = .ok (.i2l, 1) := by decide +kernel
theorem dX6_digest_22 : decode cX6_digest 22 = .ok (.invokevirtual 194, 3) := by decide +kernel
theorem dX6_digest_25 : decode cX6_digest 25 = .ok (.aload_n 0, 1) := by decide +kernel
theorem dX6_digest_26 : decode cX6_digest 26 = .ok (.aload_n 0, 1) := by decide +kernel
theorem dX6_digest_27 : decode cX6_digest 27 = .ok (.getfield 16, 3) := by decide +kernel
theorem dX6_digest_30 : decode cX6_digest 30 = .ok (.i2l, 1) := by decide +kernel
theorem dX6_digest_31 : decode cX6_digest 31 = .ok (.invokevirtual 194, 3) := by decide +kernel
theorem dX6_digest_34 : decode cX6_digest 34 = .ok (.aload_n 0, 1) := by decide +kernel
theorem dX6_digest_35 : decode cX6_digest 35 = .ok (.aload_n 0, 1) := by decide +kernel
theorem dX6_digest_36 : decode cX6_digest 36 = .ok (.getfield 19, 3) := by decide +kernel
theorem dX6_digest_39 : decode cX6_digest 39 = .ok (.i2l, 1) := by decide +kernel
theorem dX6_digest_40 : decode cX6_digest 40 = .ok (.invokevirtual 194, 3) := by decide +kernel
theorem dX6_digest_43 : decode cX6_digest 43 = .ok (.aload_n 0, 1) := by decide +kernel
theorem dX6_digest_44 : decode cX6_digest 44 = .ok (.aload_n 0, 1) := by decide +kernel
theorem dX6_digest_45 : decode cX6_digest 45 = .ok (.getfield 22, 3) := by decide +kernel
theorem dX6_digest_48 : decode cX6_digest 48 = .ok (.i2l, 1) := by decide +kernel
theorem dX6_digest_49 : decode cX6_digest 49 = .ok (.invokevirtual 194, 3) := by decide +kernel
theorem dX6_digest_52 : decode cX6_digest 52 = .ok (.aload_n 0, 1) := by decide +kernel
theorem dX6_digest_53 : decode cX6_digest 53 = .ok (.aload_n 0, 1) := by decide +kernel
theorem dX6_digest_54 : decode cX6_digest 54 = .ok (.getfield 25, 3) := by decide +kernel
theorem dX6_digest_57 : decode cX6_digest 57 = .ok (.i2l, 1) := by decide +kernel
theorem dX6_digest_58 : decode cX6_digest 58 = .ok (.invokevirtual 194, 3) := by decide +kernel
theorem dX6_digest_61 : decode cX6_digest 61 = .ok (.aload_n 0, 1) := by decide +kernel
theorem dX6_digest_62 : decode cX6_digest 62 = .ok (.aload_n 0, 1) := by decide +kernel
theorem dX6_digest_63 : decode cX6_digest 63 = .ok (.getfield 80, 3) := by decide +kernel
theorem dX6_digest_66 : decode cX6_digest 66 = .ok (.i2l, 1) := by decide +kernel
theorem dX6_digest_67 : decode cX6_digest 67 = .ok (.invokevirtual 194, 3) := by decide +kernel
theorem dX6_digest_70 : decode cX6_digest 70 = .ok (.iconst 0, 1) := by decide +kernel
theorem dX6_digest_71 : decode cX6_digest 71 = .ok (.istore_n 1, 1) := by decide +kernel
theorem dX6_digest_72 : decode cX6_digest 72 = .ok (.iload_n 1, 1) := by decide +kernel
theorem dX6_digest_73 : decode cX6_digest 73 = .ok (.aload_n 0, 1) := by decide +kernel
theorem dX6_digest_74 : decode cX6_digest 74 = .ok (.getfield 7, 3) := by decide +kernel
theorem dX6_digest_77 : decode cX6_digest 77 = .ok (.if_icmp .ge 70, 3) := by decide +kernel
theorem dX6_digest_80 : decode cX6_digest 80 = .ok (.aload_n 0, 1) := by decide +kernel
theorem dX6_digest_81 : decode cX6_digest 81 = .ok (.aload_n 0, 1) := by decide +kernel
theorem dX6_digest_82 : decode cX6_digest 82 = .ok (.getfield 28, 3) := by decide +kernel
theorem dX6_digest_85 : decode cX6_digest 85 = .ok (.iload_n 1, 1) := by decide +kernel
theorem dX6_digest_86 : decode cX6_digest 86 = .ok (.iaload, 1) := by decide +kernel
theorem dX6_digest_87 : decode cX6_digest 87 = .ok (.i2l, 1) := by decide +kernel
theorem dX6_digest_88 : decode cX6_digest 88 = .ok (.invokevirtual 194, 3) := by decide +kernel
theorem dX6_digest_91 : decode cX6_digest 91 = .ok (.aload_n 0, 1) := by decide +kernel
theorem dX6_digest_92 : decode cX6_digest 92 = .ok (.aload_n 0, 1) := by decide +kernel
theorem dX6_digest_93 : decode cX6_digest 93 = .ok (.getfield 32, 3) := by decide +kernel
theorem dX6_digest_96 : decode cX6_digest 96 = .ok (.iload_n 1, 1) := by decide +kernel
theorem dX6_digest_97 : decode cX6_digest 97 = .ok (.baload, 1) := by decide +kernel
theorem dX6_digest_98 : decode cX6_digest 98 = .ok (.ifCond .eq 7, 3) := by decide +kernel
theorem dX6_digest_101 : decode cX6_digest 101 = .ok (.lconst 1, 1) := by decide +kernel
theorem dX6_digest_102 : decode cX6_digest 102 = .ok (.goto 4, 3) := by decide +kernel
theorem dX6_digest_105 : decode cX6_digest 105 = .ok (.lconst 0, 1) := by decide +kernel
theorem dX6_digest_106 : decode cX6_digest 106 = .ok (.invokevirtual 194, 3) := by decide +kernel
theorem dX6_digest_109 : decode cX6_digest 109 = .ok (.aload_n 0, 1) := by decide +kernel
theorem dX6_digest_110 : decode cX6_digest 110 = .ok (.aload_n 0, 1) := by decide +kernel
theorem dX6_digest_111 : decode cX6_digest 111 = .ok (.getfield 36, 3) := by decide +kernel
theorem dX6_digest_114 : decode cX6_digest 114 = .ok (.iload_n 1, 1) := by decide +kernel
theorem dX6_digest_115 : decode cX6_digest 115 = .ok (.laload, 1) := by decide +kernel
theorem dX6_digest_116 : decode cX6_digest 116 = .ok (.invokevirtual 194, 3) := by decide +kernel
theorem dX6_digest_119 : decode cX6_digest 119 = .ok (.aload_n 0, 1) := by decide +kernel
theorem dX6_digest_120 : decode cX6_digest 120 = .ok (.aload_n 0, 1) := by decide +kernel
theorem dX6_digest_121 : decode cX6_digest 121 = .ok (.getfield 40, 3) := by decide +kernel
theorem dX6_digest_124 : decode cX6_digest 124 = .ok (.iload_n 1, 1) := by decide +kernel
theorem dX6_digest_125 : decode cX6_digest 125 = .ok (.iaload, 1) := by decide +kernel
theorem dX6_digest_126 : decode cX6_digest 126 = .ok (.i2l, 1) := by decide +kernel
theorem dX6_digest_127 : decode cX6_digest 127 = .ok (.invokevirtual 194, 3) := by decide +kernel
theorem dX6_digest_130 : decode cX6_digest 130 = .ok (.aload_n 0, 1) := by decide +kernel
theorem dX6_digest_131 : decode cX6_digest 131 = .ok (.aload_n 0, 1) := by decide +kernel
theorem dX6_digest_132 : decode cX6_digest 132 = .ok (.getfield 43, 3) := by decide +kernel
theorem dX6_digest_135 : decode cX6_digest 135 = .ok (.iload_n 1, 1) := by decide +kernel
theorem dX6_digest_136 : decode cX6_digest 136 = .ok (.iaload, 1) := by decide +kernel
theorem dX6_digest_137 : decode cX6_digest 137 = .ok (.i2l, 1) := by decide +kernel
theorem dX6_digest_138 : decode cX6_digest 138 = .ok (.invokevirtual 194, 3) := by decide +kernel
theorem dX6_digest_141 : decode cX6_digest 141 = .ok (.iinc 1 1, 3) := by decide +kernel
theorem dX6_digest_144 : decode cX6_digest 144 = .ok (.goto (-72), 3) := by decide +kernel
theorem dX6_digest_147 : decode cX6_digest 147 = .ok (.aload_n 0, 1) := by decide +kernel
theorem dX6_digest_148 : decode cX6_digest 148 = .ok (.aload_n 0, 1) := by decide +kernel
theorem dX6_digest_149 : decode cX6_digest 149 = .ok (.getfield 74, 3) := by decide +kernel
theorem dX6_digest_152 : decode cX6_digest 152 = .ok (.i2l, 1) := by decide +kernel
theorem dX6_digest_153 : decode cX6_digest 153 = .ok (.invokevirtual 194, 3) := by decide +kernel
theorem dX6_digest_156 : decode cX6_digest 156 = .ok (.iconst 0, 1) := by decide +kernel
theorem dX6_digest_157 : decode cX6_digest 157 = .ok (.istore_n 1, 1) := by decide +kernel
theorem dX6_digest_158 : decode cX6_digest 158 = .ok (.iload_n 1, 1) := by decide +kernel
theorem dX6_digest_159 : decode cX6_digest 159 = .ok (.aload_n 0, 1) := by decide +kernel
theorem dX6_digest_160 : decode cX6_digest 160 = .ok (.getfield 74, 3) := by decide +kernel
theorem dX6_digest_163 : decode cX6_digest 163 = .ok (.if_icmp .ge 19, 3) := by decide +kernel
theorem dX6_digest_166 : decode cX6_digest 166 = .ok (.aload_n 0, 1) := by decide +kernel
theorem dX6_digest_167 : decode cX6_digest 167 = .ok (.aload_n 0, 1) := by decide +kernel
theorem dX6_digest_168 : decode cX6_digest 168 = .ok (.iload_n 1, 1) := by decide +kernel
theorem dX6_digest_169 : decode cX6_digest 169 = .ok (.invokevirtual 144, 3) := by decide +kernel
theorem dX6_digest_172 : decode cX6_digest 172 = .ok (.i2l, 1) := by decide +kernel
theorem dX6_digest_173 : decode cX6_digest 173 = .ok (.invokevirtual 194, 3) := by decide +kernel
theorem dX6_digest_176 : decode cX6_digest 176 = .ok (.iinc 1 1, 3) := by decide +kernel
theorem dX6_digest_179 : decode cX6_digest 179 = .ok (.goto (-21), 3) := by decide +kernel
theorem dX6_digest_182 : decode cX6_digest 182 = .ok (.aload_n 0, 1) := by decide +kernel
theorem dX6_digest_183 : decode cX6_digest 183 = .ok (.aload_n 0, 1) := by decide +kernel
theorem dX6_digest_184 : decode cX6_digest 184 = .ok (.getfield 77, 3) := by decide +kernel
theorem dX6_digest_187 : decode cX6_digest 187 = .ok (.i2l, 1) := by decide +kernel
theorem dX6_digest_188 : decode cX6_digest 188 = .ok (.invokevirtual 194, 3) := by decide +kernel
theorem dX6_digest_191 : decode cX6_digest 191 = .ok (.iconst 0, 1) := by decide +kernel
theorem dX6_digest_192 : decode cX6_digest 192 = .ok (.istore_n 1, 1) := by decide +kernel
theorem dX6_digest_193 : decode cX6_digest 193 = .ok (.iload_n 1, 1) := by decide +kernel
theorem dX6_digest_194 : decode cX6_digest 194 = .ok (.aload_n 0, 1) := by decide +kernel
theorem dX6_digest_195 : decode cX6_digest 195 = .ok (.getfield 77, 3) := by decide +kernel
theorem dX6_digest_198 : decode cX6_digest 198 = .ok (.if_icmp .ge 26, 3) := by decide +kernel
theorem dX6_digest_201 : decode cX6_digest 201 = .ok (.iload_n 1, 1) := by decide +kernel
theorem dX6_digest_202 : decode cX6_digest 202 = .ok (.bipush 16, 2) := by decide +kernel
theorem dX6_digest_204 : decode cX6_digest 204 = .ok (.if_icmp .ge 20, 3) := by decide +kernel
theorem dX6_digest_207 : decode cX6_digest 207 = .ok (.aload_n 0, 1) := by decide +kernel
theorem dX6_digest_208 : decode cX6_digest 208 = .ok (.aload_n 0, 1) := by decide +kernel
theorem dX6_digest_209 : decode cX6_digest 209 = .ok (.getfield 55, 3) := by decide +kernel
theorem dX6_digest_212 : decode cX6_digest 212 = .ok (.iload_n 1, 1) := by decide +kernel
theorem dX6_digest_213 : decode cX6_digest 213 = .ok (.iaload, 1) := by decide +kernel
theorem dX6_digest_214 : decode cX6_digest 214 = .ok (.i2l, 1) := by decide +kernel
theorem dX6_digest_215 : decode cX6_digest 215 = .ok (.invokevirtual 194, 3) := by decide +kernel
theorem dX6_digest_218 : decode cX6_digest 218 = .ok (.iinc 1 1, 3) := by decide +kernel
theorem dX6_digest_221 : decode cX6_digest 221 = .ok (.goto (-28), 3) := by decide +kernel
theorem dX6_digest_224 : decode cX6_digest 224 = .ok (.aload_n 0, 1) := by decide +kernel
theorem dX6_digest_225 : decode cX6_digest 225 = .ok (.aload_n 0, 1) := by decide +kernel
theorem dX6_digest_226 : decode cX6_digest 226 = .ok (.bipush 10, 2) := by decide +kernel
theorem dX6_digest_228 : decode cX6_digest 228 = .ok (.iconst 1, 1) := by decide +kernel
theorem dX6_digest_229 : decode cX6_digest 229 = .ok (.invokevirtual 148, 3) := by decide +kernel
theorem dX6_digest_232 : decode cX6_digest 232 = .ok (.i2l, 1) := by decide +kernel
theorem dX6_digest_233 : decode cX6_digest 233 = .ok (.invokevirtual 194, 3) := by decide +kernel
theorem dX6_digest_236 : decode cX6_digest 236 = .ok (.aload_n 0, 1) := by decide +kernel
theorem dX6_digest_237 : decode cX6_digest 237 = .ok (.aload_n 0, 1) := by decide +kernel
theorem dX6_digest_238 : decode cX6_digest 238 = .ok (.bipush 10, 2) := by decide +kernel
theorem dX6_digest_240 : decode cX6_digest 240 = .ok (.iconst 2, 1) := by decide +kernel
theorem dX6_digest_241 : decode cX6_digest 241 = .ok (.invokevirtual 148, 3) := by decide +kernel
theorem dX6_digest_244 : decode cX6_digest 244 = .ok (.i2l, 1) := by decide +kernel
theorem dX6_digest_245 : decode cX6_digest 245 = .ok (.invokevirtual 194, 3) := by decide +kernel
theorem dX6_digest_248 : decode cX6_digest 248 = .ok (.aload_n 0, 1) := by decide +kernel
theorem dX6_digest_249 : decode cX6_digest 249 = .ok (.aload_n 0, 1) := by decide +kernel
theorem dX6_digest_250 : decode cX6_digest 250 = .ok (.bipush 20, 2) := by decide +kernel
theorem dX6_digest_252 : decode cX6_digest 252 = .ok (.bipush 12, 2) := by decide +kernel
theorem dX6_digest_254 : decode cX6_digest 254 = .ok (.invokevirtual 177, 3) := by decide +kernel
theorem dX6_digest_257 : decode cX6_digest 257 = .ok (.invokevirtual 194, 3) := by decide +kernel
theorem dX6_digest_260 : decode cX6_digest 260 = .ok (.aload_n 0, 1) := by decide +kernel
theorem dX6_digest_261 : decode cX6_digest 261 = .ok (.aload_n 0, 1) := by decide +kernel
theorem dX6_digest_262 : decode cX6_digest 262 = .ok (.bipush 20, 2) := by decide +kernel
theorem dX6_digest_264 : decode cX6_digest 264 = .ok (.bipush 12, 2) := by decide +kernel
theorem dX6_digest_266 : decode cX6_digest 266 = .ok (.invokevirtual 183, 3) := by decide +kernel
theorem dX6_digest_269 : decode cX6_digest 269 = .ok (.invokevirtual 194, 3) := by decide +kernel
theorem dX6_digest_272 : decode cX6_digest 272 = .ok (.aload_n 0, 1) := by decide +kernel
theorem dX6_digest_273 : decode cX6_digest 273 = .ok (.aload_n 0, 1) := by decide +kernel
theorem dX6_digest_274 : decode cX6_digest 274 = .ok (.getfield 133, 3) := by decide +kernel
theorem dX6_digest_277 : decode cX6_digest 277 = .ok (.i2l, 1) := by decide +kernel
theorem dX6_digest_278 : decode cX6_digest 278 = .ok (.invokevirtual 194, 3) := by decide +kernel
theorem dX6_digest_281 : decode cX6_digest 281 = .ok (.iconst 0, 1) := by decide +kernel
theorem dX6_digest_282 : decode cX6_digest 282 = .ok (.istore_n 1, 1) := by decide +kernel
theorem dX6_digest_283 : decode cX6_digest 283 = .ok (.iload_n 1, 1) := by decide +kernel
theorem dX6_digest_284 : decode cX6_digest 284 = .ok (.aload_n 0, 1) := by decide +kernel
theorem dX6_digest_285 : decode cX6_digest 285 = .ok (.getfield 133, 3) := by decide +kernel
theorem dX6_digest_288 : decode cX6_digest 288 = .ok (.if_icmp .ge 20, 3) := by decide +kernel
theorem dX6_digest_291 : decode cX6_digest 291 = .ok (.aload_n 0, 1) := by decide +kernel
theorem dX6_digest_292 : decode cX6_digest 292 = .ok (.aload_n 0, 1) := by decide +kernel
theorem dX6_digest_293 : decode cX6_digest 293 = .ok (.getfield 58, 3) := by decide +kernel
theorem dX6_digest_296 : decode cX6_digest 296 = .ok (.iload_n 1, 1) := by decide +kernel
theorem dX6_digest_297 : decode cX6_digest 297 = .ok (.iaload, 1) := by decide +kernel
theorem dX6_digest_298 : decode cX6_digest 298 = .ok (.i2l, 1) := by decide +kernel
theorem dX6_digest_299 : decode cX6_digest 299 = .ok (.invokevirtual 194, 3) := by decide +kernel
theorem dX6_digest_302 : decode cX6_digest 302 = .ok (.iinc 1 1, 3) := by decide +kernel
theorem dX6_digest_305 : decode cX6_digest 305 = .ok (.goto (-22), 3) := by decide +kernel
theorem dX6_digest_308 : decode cX6_digest 308 = .ok (.aload_n 0, 1) := by decide +kernel
theorem dX6_digest_309 : decode cX6_digest 309 = .ok (.getfield 188, 3) := by decide +kernel
theorem dX6_digest_312 : decode cX6_digest 312 = .ok (.lreturn, 1) := by decide +kernel
