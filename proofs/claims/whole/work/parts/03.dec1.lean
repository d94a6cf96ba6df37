theorem dX4_init_0 : decode cX4_init 0 = .ok (.aload_n 0, 1) := by decide +kernel
theorem dX4_init_1 : decode cX4_init 1 = .ok (.invokespecial 1, 3) := by decide +kernel
theorem dX4_init_4 : decode cX4_init 4 = .ok (.aload_n 0, 1) := by decide +kernel
theorem dX4_init_5 : decode cX4_init 5 = .ok (.sipush 232, 3) := by decide +kernel
theorem dX4_init_8 : decode cX4_init 8 = .ok (.newarray .int, 2) := by decide +kernel
theorem dX4_init_10 : decode cX4_init 10 = .ok (.putfield 7, 3) := by decide +kernel
theorem dX4_init_13 : decode cX4_init 13 = .ok (.aload_n 0, 1) := by decide +kernel
theorem dX4_init_14 : decode cX4_init 14 = .ok (.sipush 1392, 3) := by decide +kernel
theorem dX4_init_17 : decode cX4_init 17 = .ok (.newarray .int, 2) := by decide +kernel
theorem dX4_init_19 : decode cX4_init 19 = .ok (.putfield 13, 3) := by decide +kernel
theorem dX4_init_22 : decode cX4_init 22 = .ok (.aload_n 0, 1) := by decide +kernel
theorem dX4_init_23 : decode cX4_init 23 = .ok (.bipush 60, 2) := by decide +kernel
theorem dX4_init_25 : decode cX4_init 25 = .ok (.newarray .int, 2) := by decide +kernel
theorem dX4_init_27 : decode cX4_init 27 = .ok (.putfield 16, 3) := by decide +kernel
theorem dX4_init_30 : decode cX4_init 30 = .ok (.aload_n 0, 1) := by decide +kernel
theorem dX4_init_31 : decode cX4_init 31 = .ok (.bipush 88, 2) := by decide +kernel
theorem dX4_init_33 : decode cX4_init 33 = .ok (.newarray .int, 2) := by decide +kernel
theorem dX4_init_35 : decode cX4_init 35 = .ok (.putfield 19, 3) := by decide +kernel
theorem dX4_init_38 : decode cX4_init 38 = .ok (.aload_n 0, 1) := by decide +kernel
theorem dX4_init_39 : decode cX4_init 39 = .ok (.sipush 232, 3) := by decide +kernel
theorem dX4_init_42 : decode cX4_init 42 = .ok (.newarray .int, 2) := by decide +kernel
theorem dX4_init_44 : decode cX4_init 44 = .ok (.putfield 22, 3) := by decide +kernel
theorem dX4_init_47 : decode cX4_init 47 = .ok (.aload_n 0, 1) := by decide +kernel
theorem dX4_init_48 : decode cX4_init 48 = .ok (.getfield 7, 3) := by decide +kernel
theorem dX4_init_51 : decode cX4_init 51 = .ok (.iconst 0, 1) := by decide +kernel
theorem dX4_init_52 : decode cX4_init 52 = .ok (.bipush 60, 2) := by decide +kernel
theorem dX4_init_54 : decode cX4_init 54 = .ok (.iastore, 1) := by decide +kernel
theorem dX4_init_55 : decode cX4_init 55 = .ok (.aload_n 0, 1) := by decide +kernel
theorem dX4_init_56 : decode cX4_init 56 = .ok (.getfield 7, 3) := by decide +kernel
theorem dX4_init_59 : decode cX4_init 59 = .ok (.iconst 1, 1) := by decide +kernel
theorem dX4_init_60 : decode cX4_init 60 = .ok (.iconst 5, 1) := by decide +kernel
theorem dX4_init_61 : decode cX4_init 61 = .ok (.iastore, 1) := by decide +kernel
theorem dX4_init_62 : decode cX4_init 62 = .ok (.aload_n 0, 1) := by decide +kernel
theorem dX4_init_63 : decode cX4_init 63 = .ok (.getfield 7, 3) := by decide +kernel
theorem dX4_init_66 : decode cX4_init 66 = .ok (.iconst 2, 1) := by decide +kernel
theorem dX4_init_67 : decode cX4_init 67 = .ok (.sipush 700, 3) := by decide +kernel
theorem dX4_init_70 : decode cX4_init 70 = .ok (.iastore, 1) := by decide +kernel
theorem dX4_init_71 : decode cX4_init 71 = .ok (.aload_n 0, 1) := by decide +kernel
theorem dX4_init_72 : decode cX4_init 72 = .ok (.getfield 7, 3) := by decide +kernel
theorem dX4_init_75 : decode cX4_init 75 = .ok (.iconst 3, 1) := by decide +kernel
theorem dX4_init_76 : decode cX4_init 76 = .ok (.bipush 50, 2) := by decide +kernel
theorem dX4_init_78 : decode cX4_init 78 = .ok (.iastore, 1) := by decide +kernel
theorem dX4_init_79 : decode cX4_init 79 = .ok (.aload_n 0, 1) := by decide +kernel
theorem dX4_init_80 : decode cX4_init 80 = .ok (.getfield 7, 3) := by decide +kernel
theorem dX4_init_83 : decode cX4_init 83 = .ok (.iconst 5, 1) := by decide +kernel
theorem dX4_init_84 : decode cX4_init 84 = .ok (.bipush 100, 2) := by decide +kernel
theorem dX4_init_86 : decode cX4_init 86 = .ok (.iastore, 1) := by decide +kernel
theorem dX4_init_87 : decode cX4_init 87 = .ok (.aload_n 0, 1) := by decide +kernel
theorem dX4_init_88 : decode cX4_init 88 = .ok (.getfield 7, 3) := by decide +kernel
theorem dX4_init_91 : decode cX4_init 91 = .ok (.bipush 6, 2) := by decide +kernel
theorem dX4_init_93 : decode cX4_init 93 = .ok (.bipush 60, 2) := by decide +kernel
theorem dX4_init_95 : decode cX4_init 95 = .ok (.iastore, 1) := by decide +kernel
theorem dX4_init_96 : decode cX4_init 96 = .ok (.aload_n 0, 1) := by decide +kernel
theorem dX4_init_97 : decode cX4_init 97 = .ok (.getfield 7, 3) := by decide +kernel
theorem dX4_init_100 : decode cX4_init 100 = .ok (.bipush 7, 2) := by decide +kernel
theorem dX4_init_102 : decode cX4_init 102 = .ok (.bipush 30, 2) := by decide +kernel
theorem dX4_init_104 : decode cX4_init 104 = .ok (.iastore, 1) := by decide +kernel
theorem dX4_init_105 : decode cX4_init 105 = .ok (.return_, 1) := by decide +kernel
theorem dX4_thrown_0 : decode cX4_thrown 0 = .ok (.aload_n 0, 1) := by decide +kernel
theorem dX4_thrown_1 : decode cX4_thrown 1 = .ok (.getfield 25, 3) := by decide +kernel
theorem dX4_thrown_4 : decode cX4_thrown 4 = .ok (.ireturn, 1) := by decide +kernel
theorem dX4_within_0 : decode cX4_within 0 = .ok (.iload_n 0, 1) := by decide +kernel
theorem dX4_within_1 : decode cX4_within 1 = .ok (.iload_n 1, 1) := by decide +kernel
theorem dX4_within_2 : decode cX4_within 2 = .ok (.if_icmp .lt 12, 3) := by decide +kernel
theorem dX4_within_5 : decode cX4_within 5 = .ok (.iload_n 0, 1) := by decide +kernel
theorem dX4_within_6 : decode cX4_within 6 = .ok (.iload_n 2, 1) := by decide +kernel
theorem dX4_within_7 : decode cX4_within 7 = .ok (.if_icmp .gt 7, 3) := by decide +kernel
theorem dX4_within_10 : decode cX4_within 10 = .ok (.iconst 1, 1) := by decide +kernel
theorem dX4_within_11 : decode cX4_within 11 = .ok (.goto 4, 3) := by decide +kernel
theorem dX4_within_14 : decode cX4_within 14 = .ok (.iconst 0, 1) := by decide +kernel
theorem dX4_within_15 : decode cX4_within 15 = .ok (.ireturn, 1) := by decide +kernel
theorem dX4_save_0 : decode cX4_save 0 = .ok (.aload_n 0, 1) := by decide +kernel
theorem dX4_save_1 : decode cX4_save 1 = .ok (.getfield 29, 3) := by decide +kernel
theorem dX4_save_4 : decode cX4_save 4 = .ok (.bipush 6, 2) := by decide +kernel
theorem dX4_save_6 : decode cX4_save 6 = .ok (.if_icmp .ne 46, 3) := by decide +kernel
theorem dX4_save_9 : decode cX4_save 9 = .ok (.sipush 232, 3) := by decide +kernel
theorem dX4_save_12 : decode cX4_save 12 = .ok (.istore_n 1, 1) := by decide +kernel
theorem dX4_save_13 : decode cX4_save 13 = .ok (.iload_n 1, 1) := by decide +kernel
theorem dX4_save_14 : decode cX4_save 14 = .ok (.sipush 1392, 3) := by decide +kernel
theorem dX4_save_17 : decode cX4_save 17 = .ok (.if_icmp .ge 25, 3) := by decide +kernel
theorem dX4_save_20 : decode cX4_save 20 = .ok (.aload_n 0, 1) := by decide +kernel
theorem dX4_save_21 : decode cX4_save 21 = .ok (.getfield 13, 3) := by decide +kernel
theorem dX4_save_24 : decode cX4_save 24 = .ok (.iload_n 1, 1) := by decide +kernel
theorem dX4_save_25 : decode cX4_save 25 = .ok (.sipush 232, 3) := by decide +kernel
theorem dX4_save_28 : decode cX4_save 28 = .ok (.isub, 1) := by decide +kernel
theorem dX4_save_29 : decode cX4_save 29 = .ok (.aload_n 0, 1) := by decide +kernel
theorem dX4_save_30 : decode cX4_save 30 = .ok (.getfield 13, 3) := by decide +kernel
theorem dX4_save_33 : decode cX4_save 33 = .ok (.iload_n 1, 1) := by decide +kernel
theorem dX4_save_34 : decode cX4_save 34 = .ok (.iaload, 1) := by decide +kernel
theorem dX4_save_35 : decode cX4_save 35 = .ok (.iastore, 1) := by decide +kernel
theorem dX4_save_36 : decode cX4_save 36 = .ok (.iinc 1 1, 3) := by decide +kernel
theorem dX4_save_39 : decode cX4_save 39 = .ok (.goto (-26), 3) := by decide +kernel
theorem dX4_save_42 : decode cX4_save 42 = .ok (.aload_n 0, 1) := by decide +kernel
theorem dX4_save_43 : decode cX4_save 43 = .ok (.dup, 1) := by decide +kernel
theorem dX4_save_44 : decode cX4_save 44 = .ok (.getfield 29, 3) := by decide +kernel
theorem dX4_save_47 : decode cX4_save 47 = .ok (.iconst 1, 1) := by decide +kernel
theorem dX4_save_48 : decode cX4_save 48 = .ok (.isub, 1) := by decide +kernel
theorem dX4_save_49 : decode cX4_save 49 = .ok (.putfield 29, 3) := by decide +kernel
theorem dX4_save_52 : decode cX4_save 52 = .ok (.iconst 0, 1) := by decide +kernel
theorem dX4_save_53 : decode cX4_save 53 = .ok (.istore_n 1, 1) := by decide +kernel
theorem dX4_save_54 : decode cX4_save 54 = .ok (.iload_n 1, 1) := by decide +kernel
theorem dX4_save_55 : decode cX4_save 55 = .ok (.sipush 232, 3) := by decide +kernel
theorem dX4_save_58 : decode cX4_save 58 = .ok (.if_icmp .ge 30, 3) := by decide +kernel
theorem dX4_save_61 : decode cX4_save 61 = .ok (.aload_n 0, 1) := by decide +kernel
theorem dX4_save_62 : decode cX4_save 62 = .ok (.getfield 13, 3) := by decide +kernel
theorem dX4_save_65 : decode cX4_save 65 = .ok (.sipush 232, 3) := by decide +kernel
theorem dX4_save_68 : decode cX4_save 68 = .ok (.aload_n 0, 1) := by decide +kernel
theorem dX4_save_69 : decode cX4_save 69 = .ok (.getfield 29, 3) := by decide +kernel
theorem dX4_save_72 : decode cX4_save 72 = .ok (.imul, 1) := by decide +kernel
theorem dX4_save_73 : decode cX4_save 73 = .ok (.iload_n 1, 1) := by decide +kernel
theorem dX4_save_74 : decode cX4_save 74 = .ok (.iadd, 1) := by decide +kernel
theorem dX4_save_75 : decode cX4_save 75 = .ok (.aload_n 0, 1) := by decide +kernel
theorem dX4_save_76 : decode cX4_save 76 = .ok (.getfield 7, 3) := by decide +kernel
theorem dX4_save_79 : decode cX4_save 79 = .ok (.iload_n 1, 1) := by decide +kernel
theorem dX4_save_80 : decode cX4_save 80 = .ok (.iaload, 1) := by decide +kernel
theorem dX4_save_81 : decode cX4_save 81 = .ok (.iastore, 1) := by decide +kernel
theorem dX4_save_82 : decode cX4_save 82 = .ok (.iinc 1 1, 3) := by decide +kernel
theorem dX4_save_85 : decode cX4_save 85 = .ok (.goto (-31), 3) := by decide +kernel
theorem dX4_save_88 : decode cX4_save 88 = .ok (.aload_n 0, 1) := by decide +kernel
theorem dX4_save_89 : decode cX4_save 89 = .ok (.dup, 1) := by decide +kernel
theorem dX4_save_90 : decode cX4_save 90 = .ok (.getfield 29, 3) := by decide +kernel
theorem dX4_save_93 : decode cX4_save 93 = .ok (.iconst 1, 1) := by decide +kernel
theorem dX4_save_94 : decode cX4_save 94 = .ok (.iadd, 1) := by decide +kernel
theorem dX4_save_95 : decode cX4_save 95 = .ok (.putfield 29, 3) := by decide +kernel
theorem dX4_save_98 : decode cX4_save 98 = .ok (.return_, 1) := by decide +kernel
theorem dX4_of_0 : decode cX4_of 0 = .ok (.aload_n 0, 1) := by decide +kernel
theorem dX4_of_1 : decode cX4_of 1 = .ok (.getfield 7, 3) := by decide +kernel
theorem dX4_of_4 : decode cX4_of 4 = .ok (.bipush 10, 2) := by decide +kernel
theorem dX4_of_6 : decode cX4_of 6 = .ok (.bipush 37, 2) := by decide +kernel
theorem dX4_of_8 : decode cX4_of 8 = .ok (.iload_n 1, 1) := by decide +kernel
theorem dX4_of_9 : decode cX4_of 9 = .ok (.imul, 1) := by decide +kernel
theorem dX4_of_10 : decode cX4_of 10 = .ok (.iadd, 1) := by decide +kernel
theorem dX4_of_11 : decode cX4_of 11 = .ok (.iload_n 2, 1) := by decide +kernel
theorem dX4_of_12 : decode cX4_of 12 = .ok (.iadd, 1) := by decide +kernel
theorem dX4_of_13 : decode cX4_of 13 = .ok (.iaload, 1) := by decide +kernel
theorem dX4_of_14 : decode cX4_of 14 = .ok (.ireturn, 1) := by decide +kernel
theorem dX4_put_0 : decode cX4_put 0 = .ok (.aload_n 0, 1) := by decide +kernel
theorem dX4_put_1 : decode cX4_put 1 = .ok (.getfield 7, 3) := by decide +kernel
theorem dX4_put_4 : decode cX4_put 4 = .ok (.bipush 10, 2) := by decide +kernel
theorem dX4_put_6 : decode cX4_put 6 = .ok (.bipush 37, 2) := by decide +kernel
theorem dX4_put_8 : decode cX4_put 8 = .ok (.iload_n 1, 1) := by decide +kernel
theorem dX4_put_9 : decode cX4_put 9 = .ok (.imul, 1) := by decide +kernel
theorem dX4_put_10 : decode cX4_put 10 = .ok (.iadd, 1) := by decide +kernel
theorem dX4_put_11 : decode cX4_put 11 = .ok (.iload_n 2, 1) := by decide +kernel
theorem dX4_put_12 : decode cX4_put 12 = .ok (.iadd, 1) := by decide +kernel
theorem dX4_put_13 : decode cX4_put 13 = .ok (.iload_n 3, 1) := by decide +kernel
theorem dX4_put_14 : decode cX4_put 14 = .ok (.iastore, 1) := by decide +kernel
theorem dX4_put_15 : decode cX4_put 15 = .ok (.return_, 1) := by decide +kernel
theorem dX4_add_0 : decode cX4_add 0 = .ok (.aload_n 0, 1) := by decide +kernel
theorem dX4_add_1 : decode cX4_add 1 = .ok (.getfield 7, 3) := by decide +kernel
theorem dX4_add_4 : decode cX4_add 4 = .ok (.bipush 10, 2) := by decide +kernel
theorem dX4_add_6 : decode cX4_add 6 = .ok (.bipush 37, 2) := by decide +kernel
theorem dX4_add_8 : decode cX4_add 8 = .ok (.iload_n 1, 1) := by decide +kernel
theorem dX4_add_9 : decode cX4_add 9 = .ok (.imul, 1) := by decide +kernel
theorem dX4_add_10 : decode cX4_add 10 = .ok (.iadd, 1) := by decide +kernel
theorem dX4_add_11 : decode cX4_add 11 = .ok (.iload_n 2, 1) := by decide +kernel
theorem dX4_add_12 : decode cX4_add 12 = .ok (.iadd, 1) := by decide +kernel
theorem dX4_add_13 : decode cX4_add 13 = .ok (.dup2, 1) := by decide +kernel
theorem dX4_add_14 : decode cX4_add 14 = .ok (.iaload, 1) := by decide +kernel
theorem dX4_add_15 : decode cX4_add 15 = .ok (.iload_n 3, 1) := by decide +kernel
theorem dX4_add_16 : decode cX4_add 16 = .ok (.iadd, 1) := by decide +kernel
theorem dX4_add_17 : decode cX4_add 17 = .ok (.iastore, 1) := by decide +kernel
theorem dX4_add_18 : decode cX4_add 18 = .ok (.return_, 1) := by decide +kernel
theorem dX4_isPhase_0 : decode cX4_isPhase 0 = .ok (.iload_n 1, 1) := by decide +kernel
theorem dX4_isPhase_1 : decode cX4_isPhase 1 = .ok (.iconst 0, 1) := by decide +kernel
theorem dX4_isPhase_2 : decode cX4_isPhase 2 = .ok (.aload_n 0, 1) := by decide +kernel
theorem dX4_isPhase_3 : decode cX4_isPhase 3 = .ok (.getfield 7, 3) := by decide +kernel
theorem dX4_isPhase_6 : decode cX4_isPhase 6 = .ok (.bipush 9, 2) := by decide +kernel
theorem dX4_isPhase_8 : decode cX4_isPhase 8 = .ok (.iaload, 1) := by decide +kernel
theorem dX4_isPhase_9 : decode cX4_isPhase 9 = .ok (.iconst 1, 1) := by decide +kernel
theorem dX4_isPhase_10 : decode cX4_isPhase 10 = .ok (.isub, 1) := by decide +kernel
theorem dX4_isPhase_11 : decode cX4_isPhase 11 = .ok (.invokestatic 32, 3) := by decide +kernel
theorem dX4_isPhase_14 : decode cX4_isPhase 14 = .ok (.ireturn, 1) := by decide +kernel
theorem dX4_isUse_0 : decode cX4_isUse 0 = .ok (.iload_n 0, 1) := by decide +kernel
theorem dX4_isUse_1 : decode cX4_isUse 1 = .ok (.iconst 0, 1) := by decide +kernel
theorem dX4_isUse_2 : decode cX4_isUse 2 = .ok (.iconst 3, 1) := by decide +kernel
theorem dX4_isUse_3 : decode cX4_isUse 3 = .ok (.invokestatic 32, 3) := by decide +kernel
theorem dX4_isUse_6 : decode cX4_isUse 6 = .ok (.ireturn, 1) := by decide +kernel
theorem dX4_hasBegun_0 : decode cX4_hasBegun 0 = .ok (.aload_n 0, 1) := by decide +kernel
theorem dX4_hasBegun_1 : decode cX4_hasBegun 1 = .ok (.iload_n 1, 1) := by decide +kernel
theorem dX4_hasBegun_2 : decode cX4_hasBegun 2 = .ok (.iconst 0, 1) := by decide +kernel
theorem dX4_hasBegun_3 : decode cX4_hasBegun 3 = .ok (.invokevirtual 36, 3) := by decide +kernel
theorem dX4_hasBegun_6 : decode cX4_hasBegun 6 = .ok (.iconst (-1), 1) := by decide +kernel
theorem dX4_hasBegun_7 : decode cX4_hasBegun 7 = .ok (.if_icmp .eq 7, 3) := by decide +kernel
theorem dX4_hasBegun_10 : decode cX4_hasBegun 10 = .ok (.iconst 1, 1) := by decide +kernel
theorem dX4_hasBegun_11 : decode cX4_hasBegun 11 = .ok (.goto 4, 3) := by decide +kernel
theorem dX4_hasBegun_14 : decode cX4_hasBegun 14 = .ok (.iconst 0, 1) := by decide +kernel
theorem dX4_hasBegun_15 : decode cX4_hasBegun 15 = .ok (.ireturn, 1) := by decide +kernel
theorem dX4_rateOf_0 : decode cX4_rateOf 0 = .ok (.aload_n 0, 1) := by decide +kernel
theorem dX4_rateOf_1 : decode cX4_rateOf 1 = .ok (.iload_n 1, 1) := by decide +kernel
theorem dX4_rateOf_2 : decode cX4_rateOf 2 = .ok (.invokevirtual 40, 3) := by decide +kernel
theorem dX4_rateOf_5 : decode cX4_rateOf 5 = .ok (.ifCond .eq 15, 3) := by decide +kernel
theorem dX4_rateOf_8 : decode cX4_rateOf 8 = .ok (.aload_n 0, 1) := by decide +kernel
theorem dX4_rateOf_9 : decode cX4_rateOf 9 = .ok (.iload_n 1, 1) := by decide +kernel
theorem dX4_rateOf_10 : decode cX4_rateOf 10 = .ok (.bipush 9, 2) := by decide +kernel
theorem dX4_rateOf_12 : decode cX4_rateOf 12 = .ok (.iload_n 2, 1) := by decide +kernel
theorem dX4_rateOf_13 : decode cX4_rateOf 13 = .ok (.iadd, 1) := by decide +kernel
theorem dX4_rateOf_14 : decode cX4_rateOf 14 = .ok (.invokevirtual 36, 3) := by decide +kernel
theorem dX4_rateOf_17 : decode cX4_rateOf 17 = .ok (.goto 11, 3) := by decide +kernel
theorem dX4_rateOf_20 : decode cX4_rateOf 20 = .ok (.aload_n 0, 1) := by decide +kernel
theorem dX4_rateOf_21 : decode cX4_rateOf 21 = .ok (.getfield 7, 3) := by decide +kernel
theorem dX4_rateOf_24 : decode cX4_rateOf 24 = .ok (.iconst 5, 1) := by decide +kernel
theorem dX4_rateOf_25 : decode cX4_rateOf 25 = .ok (.iload_n 2, 1) := by decide +kernel
theorem dX4_rateOf_26 : decode cX4_rateOf 26 = .ok (.iadd, 1) := by decide +kernel
theorem dX4_rateOf_27 : decode cX4_rateOf 27 = .ok (.iaload, 1) := by decide +kernel
theorem dX4_rateOf_28 : decode cX4_rateOf 28 = .ok (.ireturn, 1) := by decide +kernel
theorem dX4_chargeOf_0 : decode cX4_chargeOf 0 = .ok (.aload_n 0, 1) := by decide +kernel
theorem dX4_chargeOf_1 : decode cX4_chargeOf 1 = .ok (.iload_n 1, 1) := by decide +kernel
theorem dX4_chargeOf_2 : decode cX4_chargeOf 2 = .ok (.iconst 1, 1) := by decide +kernel
theorem dX4_chargeOf_3 : decode cX4_chargeOf 3 = .ok (.iload_n 2, 1) := by decide +kernel
theorem dX4_chargeOf_4 : decode cX4_chargeOf 4 = .ok (.iadd, 1) := by decide +kernel
theorem dX4_chargeOf_5 : decode cX4_chargeOf 5 = .ok (.invokevirtual 36, 3) := by decide +kernel
theorem dX4_chargeOf_8 : decode cX4_chargeOf 8 = .ok (.aload_n 0, 1) := by decide +kernel
theorem dX4_chargeOf_9 : decode cX4_chargeOf 9 = .ok (.iload_n 1, 1) := by decide +kernel
theorem dX4_chargeOf_10 : decode cX4_chargeOf 10 = .ok (.iload_n 2, 1) := by decide +kernel
theorem dX4_chargeOf_11 : decode cX4_chargeOf 11 = .ok (.invokevirtual 44, 3) := by decide +kernel
theorem dX4_chargeOf_14 : decode cX4_chargeOf 14 = .ok (.imul, 1) := by decide +kernel
theorem dX4_chargeOf_15 : decode cX4_chargeOf 15 = .ok (.ireturn, 1) := by decide +kernel
theorem dX4_reliefOf_0 : decode cX4_reliefOf 0 = .ok (.aload_n 0, 1) := by decide +kernel
theorem dX4_reliefOf_1 : decode cX4_reliefOf 1 = .ok (.iload_n 1, 1) := by decide +kernel
theorem dX4_reliefOf_2 : decode cX4_reliefOf 2 = .ok (.invokevirtual 40, 3) := by decide +kernel
theorem dX4_reliefOf_5 : decode cX4_reliefOf 5 = .ok (.ifCond .eq 15, 3) := by decide +kernel
theorem dX4_reliefOf_8 : decode cX4_reliefOf 8 = .ok (.aload_n 0, 1) := by decide +kernel
theorem dX4_reliefOf_9 : decode cX4_reliefOf 9 = .ok (.iload_n 1, 1) := by decide +kernel
theorem dX4_reliefOf_10 : decode cX4_reliefOf 10 = .ok (.bipush 13, 2) := by decide +kernel
theorem dX4_reliefOf_12 : decode cX4_reliefOf 12 = .ok (.iload_n 2, 1) := by decide +kernel
theorem dX4_reliefOf_13 : decode cX4_reliefOf 13 = .ok (.iadd, 1) := by decide +kernel
theorem dX4_reliefOf_14 : decode cX4_reliefOf 14 = .ok (.invokevirtual 36, 3) := by decide +kernel
theorem dX4_reliefOf_17 : decode cX4_reliefOf 17 = .ok (.goto 20, 3) := by decide +kernel
theorem dX4_reliefOf_20 : decode cX4_reliefOf 20 = .ok (.aload_n 0, 1) := by decide +kernel
theorem dX4_reliefOf_21 : decode cX4_reliefOf 21 = .ok (.iload_n 1, 1) := by decide +kernel
theorem dX4_reliefOf_22 : decode cX4_reliefOf 22 = .ok (.iconst 5, 1) := by decide +kernel
theorem dX4_reliefOf_23 : decode cX4_reliefOf 23 = .ok (.iload_n 2, 1) := by decide +kernel
theorem dX4_reliefOf_24 : decode cX4_reliefOf 24 = .ok (.iadd, 1) := by decide +kernel
theorem dX4_reliefOf_25 : decode cX4_reliefOf 25 = .ok (.invokevirtual 36, 3) := by decide +kernel
theorem dX4_reliefOf_28 : decode cX4_reliefOf 28 = .ok (.aload_n 0, 1) := by decide +kernel
theorem dX4_reliefOf_29 : decode cX4_reliefOf 29 = .ok (.getfield 7, 3) := by decide +kernel
theorem dX4_reliefOf_32 : decode cX4_reliefOf 32 = .ok (.iconst 5, 1) := by decide +kernel
theorem dX4_reliefOf_33 : decode cX4_reliefOf 33 = .ok (.iload_n 2, 1) := by decide +kernel
theorem dX4_reliefOf_34 : decode cX4_reliefOf 34 = .ok (.iadd, 1) := by decide +kernel
theorem dX4_reliefOf_35 : decode cX4_reliefOf 35 = .ok (.iaload, 1) := by decide +kernel
theorem dX4_reliefOf_36 : decode cX4_reliefOf 36 = .ok (.imul, 1) := by decide +kernel
theorem dX4_reliefOf_37 : decode cX4_reliefOf 37 = .ok (.ireturn, 1) := by decide +kernel
theorem dX4_charge_0 : decode cX4_charge 0 = .ok (.iconst 0, 1) := by decide +kernel
theorem dX4_charge_1 : decode cX4_charge 1 = .ok (.istore_n 2, 1) := by decide +kernel
theorem dX4_charge_2 : decode cX4_charge 2 = .ok (.iconst 0, 1) := by decide +kernel
theorem dX4_charge_3 : decode cX4_charge 3 = .ok (.istore_n 3, 1) := by decide +kernel
theorem dX4_charge_4 : decode cX4_charge 4 = .ok (.iload_n 3, 1) := by decide +kernel
theorem dX4_charge_5 : decode cX4_charge 5 = .ok (.iconst 4, 1) := by decide +kernel
theorem dX4_charge_6 : decode cX4_charge 6 = .ok (.if_icmp .ge 18, 3) := by decide +kernel
theorem dX4_charge_9 : decode cX4_charge 9 = .ok (.iload_n 2, 1) := by decide +kernel
theorem dX4_charge_10 : decode cX4_charge 10 = .ok (.aload_n 0, 1) := by decide +kernel
theorem dX4_charge_11 : decode cX4_charge 11 = .ok (.iload_n 1, 1) := by decide +kernel
theorem dX4_charge_12 : decode cX4_charge 12 = .ok (.iload_n 3, 1) := by decide +kernel
theorem dX4_charge_13 : decode cX4_charge 13 = .ok (.invokevirtual 47, 3) := by decide +kernel
theorem dX4_charge_16 : decode cX4_charge 16 = .ok (.iadd, 1) := by decide +kernel
theorem dX4_charge_17 : decode cX4_charge 17 = .ok (.istore_n 2, 1) := by decide +kernel
theorem dX4_charge_18 : decode cX4_charge 18 = .ok (.iinc 3 1, 3) := by decide +kernel
theorem dX4_charge_21 : decode cX4_charge 21 = .ok (.goto (-17), 3) := by decide +kernel
theorem dX4_charge_24 : decode cX4_charge 24 = .ok (.iload_n 2, 1) := by decide +kernel
theorem dX4_charge_25 : decode cX4_charge 25 = .ok (.ireturn, 1) := by decide +kernel
theorem dX4_relief_0 : decode cX4_relief 0 = .ok (.iconst 0, 1) := by decide +kernel
theorem dX4_relief_1 : decode cX4_relief 1 = .ok (.istore_n 2, 1) := by decide +kernel
theorem dX4_relief_2 : decode cX4_relief 2 = .ok (.iconst 0, 1) := by decide +kernel
theorem dX4_relief_3 : decode cX4_relief 3 = .ok (.istore_n 3, 1) := by decide +kernel
theorem dX4_relief_4 : decode cX4_relief 4 = .ok (.iload_n 3, 1) := by decide +kernel
theorem dX4_relief_5 : decode cX4_relief 5 = .ok (.iconst 4, 1) := by decide +kernel
theorem dX4_relief_6 : decode cX4_relief 6 = .ok (.if_icmp .ge 18, 3) := by decide +kernel
theorem dX4_relief_9 : decode cX4_relief 9 = .ok (.iload_n 2, 1) := by decide +kernel
theorem dX4_relief_10 : decode cX4_relief 10 = .ok (.aload_n 0, 1) := by decide +kernel
theorem dX4_relief_11 : decode cX4_relief 11 = .ok (.iload_n 1, 1) := by decide +kernel
theorem dX4_relief_12 : decode cX4_relief 12 = .ok (.iload_n 3, 1) := by decide +kernel
theorem dX4_relief_13 : decode cX4_relief 13 = .ok (.invokevirtual 50, 3) := by decide +kernel
theorem dX4_relief_16 : decode cX4_relief 16 = .ok (.iadd, 1) := by decide +kernel
theorem dX4_relief_17 : decode cX4_relief 17 = .ok (.istore_n 2, 1) := by decide +kernel
theorem dX4_relief_18 : decode cX4_relief 18 = .ok (.iinc 3 1, 3) := by decide +kernel
theorem dX4_relief_21 : decode cX4_relief 21 = .ok (.goto (-17), 3) := by decide +kernel
theorem dX4_relief_24 : decode cX4_relief 24 = .ok (.iload_n 2, 1) := by decide +kernel
theorem dX4_relief_25 : decode cX4_relief 25 = .ok (.ireturn, 1) := by decide +kernel
theorem dX4_areaOf_0 : decode cX4_areaOf 0 = .ok (.iconst 0, 1) := by decide +kernel
theorem dX4_areaOf_1 : decode cX4_areaOf 1 = .ok (.istore_n 2, 1) := by decide +kernel
theorem dX4_areaOf_2 : decode cX4_areaOf 2 = .ok (.iconst 0, 1) := by decide +kernel
theorem dX4_areaOf_3 : decode cX4_areaOf 3 = .ok (.istore_n 3, 1) := by decide +kernel
theorem dX4_areaOf_4 : decode cX4_areaOf 4 = .ok (.iload_n 3, 1) := by decide +kernel
theorem dX4_areaOf_5 : decode cX4_areaOf 5 = .ok (.iconst 4, 1) := by decide +kernel
theorem dX4_areaOf_6 : decode cX4_areaOf 6 = .ok (.if_icmp .ge 20, 3) := by decide +kernel
theorem dX4_areaOf_9 : decode cX4_areaOf 9 = .ok (.iload_n 2, 1) := by decide +kernel
theorem dX4_areaOf_10 : decode cX4_areaOf 10 = .ok (.aload_n 0, 1) := by decide +kernel
theorem dX4_areaOf_11 : decode cX4_areaOf 11 = .ok (.iload_n 1, 1) := by decide +kernel
theorem dX4_areaOf_12 : decode cX4_areaOf 12 = .ok (.iconst 1, 1) := by decide +kernel
theorem dX4_areaOf_13 : decode cX4_areaOf 13 = .ok (.iload_n 3, 1) := by decide +kernel
theorem dX4_areaOf_14 : decode cX4_areaOf 14 = .ok (.iadd, 1) := by decide +kernel
theorem dX4_areaOf_15 : decode cX4_areaOf 15 = .ok (.invokevirtual 36, 3) := by decide +kernel
theorem dX4_areaOf_18 : decode cX4_areaOf 18 = .ok (.iadd, 1) := by decide +kernel
theorem dX4_areaOf_19 : decode cX4_areaOf 19 = .ok (.istore_n 2, 1) := by decide +kernel
theorem dX4_areaOf_20 : decode cX4_areaOf 20 = .ok (.iinc 3 1, 3) := by decide +kernel
theorem dX4_areaOf_23 : decode cX4_areaOf 23 = .ok (.goto (-19), 3) := by decide +kernel
theorem dX4_areaOf_26 : decode cX4_areaOf 26 = .ok (.iload_n 2, 1) := by decide +kernel
theorem dX4_areaOf_27 : decode cX4_areaOf 27 = .ok (.ireturn, 1) := by decide +kernel
theorem dX4_owed_0 : decode cX4_owed 0 = .ok (.aload_n 0, 1) := by decide +kernel
theorem dX4_owed_1 : decode cX4_owed 1 = .ok (.iload_n 1, 1) := by decide +kernel
theorem dX4_owed_2 : decode cX4_owed 2 = .ok (.bipush 30, 2) := by decide +kernel
theorem dX4_owed_4 : decode cX4_owed 4 = .ok (.invokevirtual 36, 3) := by decide +kernel
theorem dX4_owed_7 : decode cX4_owed 7 = .ok (.aload_n 0, 1) := by decide +kernel
theorem dX4_owed_8 : decode cX4_owed 8 = .ok (.iload_n 1, 1) := by decide +kernel
theorem dX4_owed_9 : decode cX4_owed 9 = .ok (.bipush 33, 2) := by decide +kernel
theorem dX4_owed_11 : decode cX4_owed 11 = .ok (.invokevirtual 36, 3) := by decide +kernel
theorem dX4_owed_14 : decode cX4_owed 14 = .ok (.iadd, 1) := by decide +kernel
theorem dX4_owed_15 : decode cX4_owed 15 = .ok (.istore_n 2, 1) := by decide +kernel
theorem dX4_owed_16 : decode cX4_owed 16 = .ok (.iconst 0, 1) := by decide +kernel
theorem dX4_owed_17 : decode cX4_owed 17 = .ok (.istore_n 3, 1) := by decide +kernel
theorem dX4_owed_18 : decode cX4_owed 18 = .ok (.iload_n 3, 1) := by decide +kernel
theorem dX4_owed_19 : decode cX4_owed 19 = .ok (.aload_n 0, 1) := by decide +kernel
theorem dX4_owed_20 : decode cX4_owed 20 = .ok (.iload_n 1, 1) := by decide +kernel
theorem dX4_owed_21 : decode cX4_owed 21 = .ok (.bipush 17, 2) := by decide +kernel
theorem dX4_owed_23 : decode cX4_owed 23 = .ok (.invokevirtual 36, 3) := by decide +kernel
theorem dX4_owed_26 : decode cX4_owed 26 = .ok (.if_icmp .ge 21, 3) := by decide +kernel
theorem dX4_owed_29 : decode cX4_owed 29 = .ok (.iload_n 2, 1) := by decide +kernel
theorem dX4_owed_30 : decode cX4_owed 30 = .ok (.aload_n 0, 1) := by decide +kernel
theorem dX4_owed_31 : decode cX4_owed 31 = .ok (.iload_n 1, 1) := by decide +kernel
theorem dX4_owed_32 : decode cX4_owed 32 = .ok (.bipush 22, 2) := by decide +kernel
theorem dX4_owed_34 : decode cX4_owed 34 = .ok (.iload_n 3, 1) := by decide +kernel
theorem dX4_owed_35 : decode cX4_owed 35 = .ok (.iadd, 1) := by decide +kernel
theorem dX4_owed_36 : decode cX4_owed 36 = .ok (.invokevirtual 36, 3) := by decide +kernel
theorem dX4_owed_39 : decode cX4_owed 39 = .ok (.iadd, 1) := by decide +kernel
theorem dX4_owed_40 : decode cX4_owed 40 = .ok (.istore_n 2, 1) := by decide +kernel
theorem dX4_owed_41 : decode cX4_owed 41 = .ok (.iinc 3 1, 3) := by decide +kernel
theorem dX4_owed_44 : decode cX4_owed 44 = .ok (.goto (-26), 3) := by decide +kernel
theorem dX4_owed_47 : decode cX4_owed 47 = .ok (.aload_n 0, 1) := by decide +kernel
theorem dX4_owed_48 : decode cX4_owed 48 = .ok (.iload_n 1, 1) := by decide +kernel
theorem dX4_owed_49 : decode cX4_owed 49 = .ok (.invokevirtual 40, 3) := by decide +kernel
theorem dX4_owed_52 : decode cX4_owed 52 = .ok (.ifCond .eq 7, 3) := by decide +kernel
theorem dX4_owed_55 : decode cX4_owed 55 = .ok (.iload_n 2, 1) := by decide +kernel
theorem dX4_owed_56 : decode cX4_owed 56 = .ok (.goto 4, 3) := by decide +kernel
theorem dX4_owed_59 : decode cX4_owed 59 = .ok (.iconst 0, 1) := by decide +kernel
theorem dX4_owed_60 : decode cX4_owed 60 = .ok (.ireturn, 1) := by decide +kernel
theorem dX4_dueNow_0 : decode cX4_dueNow 0 = .ok (.aload_n 0, 1) := by decide +kernel
theorem dX4_dueNow_1 : decode cX4_dueNow 1 = .ok (.iload_n 1, 1) := by decide +kernel
theorem dX4_dueNow_2 : decode cX4_dueNow 2 = .ok (.invokevirtual 40, 3) := by decide +kernel
theorem dX4_dueNow_5 : decode cX4_dueNow 5 = .ok (.ifCond .ne 5, 3) := by decide +kernel
theorem dX4_dueNow_8 : decode cX4_dueNow 8 = .ok (.iconst 0, 1) := by decide +kernel
theorem dX4_dueNow_9 : decode cX4_dueNow 9 = .ok (.ireturn, 1) := by decide +kernel
theorem dX4_dueNow_10 : decode cX4_dueNow 10 = .ok (.aload_n 0, 1) := by decide +kernel
theorem dX4_dueNow_11 : decode cX4_dueNow 11 = .ok (.iload_n 1, 1) := by decide +kernel
theorem dX4_dueNow_12 : decode cX4_dueNow 12 = .ok (.bipush 30, 2) := by decide +kernel
theorem dX4_dueNow_14 : decode cX4_dueNow 14 = .ok (.invokevirtual 36, 3) := by decide +kernel
theorem dX4_dueNow_17 : decode cX4_dueNow 17 = .ok (.istore_n 2, 1) := by decide +kernel
theorem dX4_dueNow_18 : decode cX4_dueNow 18 = .ok (.iconst 0, 1) := by decide +kernel
theorem dX4_dueNow_19 : decode cX4_dueNow 19 = .ok (.istore_n 3, 1) := by decide +kernel
theorem dX4_dueNow_20 : decode cX4_dueNow 20 = .ok (.iload_n 3, 1) := by decide +kernel
theorem dX4_dueNow_21 : decode cX4_dueNow 21 = .ok (.aload_n 0, 1) := by decide +kernel
theorem dX4_dueNow_22 : decode cX4_dueNow 22 = .ok (.iload_n 1, 1) := by decide +kernel
theorem dX4_dueNow_23 : decode cX4_dueNow 23 = .ok (.bipush 17, 2) := by decide +kernel
theorem dX4_dueNow_25 : decode cX4_dueNow 25 = .ok (.invokevirtual 36, 3) := by decide +kernel
theorem dX4_dueNow_28 : decode cX4_dueNow 28 = .ok (.if_icmp .ge 43, 3) := by decide +kernel
theorem dX4_dueNow_31 : decode cX4_dueNow 31 = .ok (.iload_n 2, 1) := by decide +kernel
theorem dX4_dueNow_32 : decode cX4_dueNow 32 = .ok (.aload_n 0, 1) := by decide +kernel
theorem dX4_dueNow_33 : decode cX4_dueNow 33 = .ok (.iload_n 1, 1) := by decide +kernel
theorem dX4_dueNow_34 : decode cX4_dueNow 34 = .ok (.bipush 26, 2) := by decide +kernel
theorem dX4_dueNow_36 : decode cX4_dueNow 36 = .ok (.iload_n 3, 1) := by decide +kernel
theorem dX4_dueNow_37 : decode cX4_dueNow 37 = .ok (.iadd, 1) := by decide +kernel
theorem dX4_dueNow_38 : decode cX4_dueNow 38 = .ok (.invokevirtual 36, 3) := by decide +kernel
theorem dX4_dueNow_41 : decode cX4_dueNow 41 = .ok (.aload_n 0, 1) := by decide +kernel
theorem dX4_dueNow_42 : decode cX4_dueNow 42 = .ok (.getfield 7, 3) := by decide +kernel
theorem dX4_dueNow_45 : decode cX4_dueNow 45 = .ok (.iconst 4, 1) := by decide +kernel
theorem dX4_dueNow_46 : decode cX4_dueNow 46 = .ok (.iaload, 1) := by decide +kernel
theorem dX4_dueNow_47 : decode cX4_dueNow 47 = .ok (.if_icmp .gt 15, 3) := by decide +kernel
theorem dX4_dueNow_50 : decode cX4_dueNow 50 = .ok (.aload_n 0, 1) := by decide +kernel
theorem dX4_dueNow_51 : decode cX4_dueNow 51 = .ok (.iload_n 1, 1) := by decide +kernel
theorem dX4_dueNow_52 : decode cX4_dueNow 52 = .ok (.bipush 22, 2) := by decide +kernel
theorem dX4_dueNow_54 : decode cX4_dueNow 54 = .ok (.iload_n 3, 1) := by decide +kernel
theorem dX4_dueNow_55 : decode cX4_dueNow 55 = .ok (.iadd, 1) := by decide +kernel
theorem dX4_dueNow_56 : decode cX4_dueNow 56 = .ok (.invokevirtual 36, 3) := by decide +kernel
theorem dX4_dueNow_59 : decode cX4_dueNow 59 = .ok (.goto 4, 3) := by decide +kernel
theorem dX4_dueNow_62 : decode cX4_dueNow 62 = .ok (.iconst 0, 1) := by decide +kernel
theorem dX4_dueNow_63 : decode cX4_dueNow 63 = .ok (.iadd, 1) := by decide +kernel
theorem dX4_dueNow_64 : decode cX4_dueNow 64 = .ok (.istore_n 2, 1) := by decide +kernel
theorem dX4_dueNow_65 : decode cX4_dueNow 65 = .ok (.iinc 3 1, 3) := by decide +kernel
theorem dX4_dueNow_68 : decode cX4_dueNow 68 = .ok (.goto (-48), 3) := by decide +kernel
theorem dX4_dueNow_71 : decode cX4_dueNow 71 = .ok (.aload_n 0, 1) := by decide +kernel
theorem dX4_dueNow_72 : decode cX4_dueNow 72 = .ok (.iload_n 1, 1) := by decide +kernel
theorem dX4_dueNow_73 : decode cX4_dueNow 73 = .ok (.bipush 36, 2) := by decide +kernel
theorem dX4_dueNow_75 : decode cX4_dueNow 75 = .ok (.invokevirtual 36, 3) := by decide +kernel
theorem dX4_dueNow_78 : decode cX4_dueNow 78 = .ok (.iconst 1, 1) := by decide +kernel
theorem dX4_dueNow_79 : decode cX4_dueNow 79 = .ok (.if_icmp .ne 11, 3) := by decide +kernel
theorem dX4_dueNow_82 : decode cX4_dueNow 82 = .ok (.aload_n 0, 1) := by decide +kernel
theorem dX4_dueNow_83 : decode cX4_dueNow 83 = .ok (.iload_n 1, 1) := by decide +kernel
theorem dX4_dueNow_84 : decode cX4_dueNow 84 = .ok (.invokevirtual 53, 3) := by decide +kernel
theorem dX4_dueNow_87 : decode cX4_dueNow 87 = .ok (.goto 4, 3) := by decide +kernel
theorem dX4_dueNow_90 : decode cX4_dueNow 90 = .ok (.iload_n 2, 1) := by decide +kernel
theorem dX4_dueNow_91 : decode cX4_dueNow 91 = .ok (.ireturn, 1) := by decide +kernel
theorem dX4_roomForLand_0 : decode cX4_roomForLand 0 = .ok (.aload_n 0, 1) := by decide +kernel
theorem dX4_roomForLand_1 : decode cX4_roomForLand 1 = .ok (.iload_n 1, 1) := by decide +kernel
theorem dX4_roomForLand_2 : decode cX4_roomForLand 2 = .ok (.invokevirtual 57, 3) := by decide +kernel
theorem dX4_roomForLand_5 : decode cX4_roomForLand 5 = .ok (.aload_n 0, 1) := by decide +kernel
theorem dX4_roomForLand_6 : decode cX4_roomForLand 6 = .ok (.iload_n 1, 1) := by decide +kernel
theorem dX4_roomForLand_7 : decode cX4_roomForLand 7 = .ok (.invokevirtual 60, 3) := by decide +kernel
theorem dX4_roomForLand_10 : decode cX4_roomForLand 10 = .ok (.isub, 1) := by decide +kernel
theorem dX4_roomForLand_11 : decode cX4_roomForLand 11 = .ok (.i2l, 1) := by decide +kernel
theorem dX4_roomForLand_12 : decode cX4_roomForLand 12 = .ok (.aload_n 0, 1) := by decide +kernel
theorem dX4_roomForLand_13 : decode cX4_roomForLand 13 = .ok (.getfield 7, 3) := by decide +kernel
theorem dX4_roomForLand_16 : decode cX4_roomForLand 16 = .ok (.iconst 3, 1) := by decide +kernel
theorem dX4_roomForLand_17 : decode cX4_roomForLand 17 = .ok (.iaload, 1) := by decide +kernel
theorem dX4_roomForLand_18 : decode cX4_roomForLand 18 = .ok (.i2l, 1) := by decide +kernel
theorem dX4_roomForLand_19 : decode cX4_roomForLand 19 = .ok (.lmul, 1) := by decide +kernel
theorem dX4_roomForLand_20 : decode cX4_roomForLand 20 = .ok (.ldc2_w 63, 3) := by decide +kernel
theorem dX4_roomForLand_23 : decode cX4_roomForLand 23 = .ok (.ldiv, 1) := by decide +kernel
theorem dX4_roomForLand_24 : decode cX4_roomForLand 24 = .ok (.l2i, 1) := by decide +kernel
theorem dX4_roomForLand_25 : decode cX4_roomForLand 25 = .ok (.aload_n 0, 1) := by decide +kernel
theorem dX4_roomForLand_26 : decode cX4_roomForLand 26 = .ok (.iload_n 1, 1) := by decide +kernel
theorem dX4_roomForLand_27 : decode cX4_roomForLand 27 = .ok (.bipush 35, 2) := by decide +kernel
theorem dX4_roomForLand_29 : decode cX4_roomForLand 29 = .ok (.invokevirtual 36, 3) := by decide +kernel
theorem dX4_roomForLand_32 : decode cX4_roomForLand 32 = .ok (.isub, 1) := by decide +kernel
theorem dX4_roomForLand_33 : decode cX4_roomForLand 33 = .ok (.istore_n 2, 1) := by decide +kernel
theorem dX4_roomForLand_34 : decode cX4_roomForLand 34 = .ok (.aload_n 0, 1) := by decide +kernel
theorem dX4_roomForLand_35 : decode cX4_roomForLand 35 = .ok (.iload_n 1, 1) := by decide +kernel
theorem dX4_roomForLand_36 : decode cX4_roomForLand 36 = .ok (.invokevirtual 40, 3) := by decide +kernel
theorem dX4_roomForLand_39 : decode cX4_roomForLand 39 = .ok (.ifCond .eq 11, 3) := by decide +kernel
theorem dX4_roomForLand_42 : decode cX4_roomForLand 42 = .ok (.iload_n 2, 1) := by decide +kernel
theorem dX4_roomForLand_43 : decode cX4_roomForLand 43 = .ok (.ifCond .le 7, 3) := by decide +kernel
theorem dX4_roomForLand_46 : decode cX4_roomForLand 46 = .ok (.iload_n 2, 1) := by decide +kernel
theorem dX4_roomForLand_47 : decode cX4_roomForLand 47 = .ok (.goto 4, 3) := by decide +kernel
theorem dX4_roomForLand_50 : decode cX4_roomForLand 50 = .ok (.iconst 0, 1) := by decide +kernel
theorem dX4_roomForLand_51 : decode cX4_roomForLand 51 = .ok (.ireturn, 1) := by decide +kernel
theorem dX4_partsFor_0 : decode cX4_partsFor 0 = .ok (.iload_n 0, 1) := by decide +kernel
theorem dX4_partsFor_1 : decode cX4_partsFor 1 = .ok (.sipush 1000, 3) := by decide +kernel
theorem dX4_partsFor_4 : decode cX4_partsFor 4 = .ok (.if_icmp .ge 7, 3) := by decide +kernel
theorem dX4_partsFor_7 : decode cX4_partsFor 7 = .ok (.iconst 1, 1) := by decide +kernel
theorem dX4_partsFor_8 : decode cX4_partsFor 8 = .ok (.goto 26, 3) := by decide +kernel
theorem dX4_partsFor_11 : decode cX4_partsFor 11 = .ok (.iload_n 0, 1) := by decide +kernel
theorem dX4_partsFor_12 : decode cX4_partsFor 12 = .ok (.sipush 5000, 3) := by decide +kernel
theorem dX4_partsFor_15 : decode cX4_partsFor 15 = .ok (.if_icmp .ge 7, 3) := by decide +kernel
theorem dX4_partsFor_18 : decode cX4_partsFor 18 = .ok (.iconst 2, 1) := by decide +kernel
theorem dX4_partsFor_19 : decode cX4_partsFor 19 = .ok (.goto 15, 3) := by decide +kernel
theorem dX4_partsFor_22 : decode cX4_partsFor 22 = .ok (.iload_n 0, 1) := by decide +kernel
theorem dX4_partsFor_23 : decode cX4_partsFor 23 = .ok (.sipush 20000, 3) := by decide +kernel
theorem dX4_partsFor_26 : decode cX4_partsFor 26 = .ok (.if_icmp .ge 7, 3) := by decide +kernel
theorem dX4_partsFor_29 : decode cX4_partsFor 29 = .ok (.iconst 3, 1) := by decide +kernel
theorem dX4_partsFor_30 : decode cX4_partsFor 30 = .ok (.goto 4, 3) := by decide +kernel
theorem dX4_partsFor_33 : decode cX4_partsFor 33 = .ok (.iconst 4, 1) := by decide +kernel
theorem dX4_partsFor_34 : decode cX4_partsFor 34 = .ok (.ireturn, 1) := by decide +kernel
theorem dX4_lastOf_0 : decode cX4_lastOf 0 = .ok (.iload_n 0, 1) := by decide +kernel
theorem dX4_lastOf_1 : decode cX4_lastOf 1 = .ok (.iload_n 0, 1) := by decide +kernel
theorem dX4_lastOf_2 : decode cX4_lastOf 2 = .ok (.invokestatic 65, 3) := by decide +kernel
theorem dX4_lastOf_5 : decode cX4_lastOf 5 = .ok (.idiv, 1) := by decide +kernel
theorem dX4_lastOf_6 : decode cX4_lastOf 6 = .ok (.iload_n 0, 1) := by decide +kernel
theorem dX4_lastOf_7 : decode cX4_lastOf 7 = .ok (.iload_n 0, 1) := by decide +kernel
theorem dX4_lastOf_8 : decode cX4_lastOf 8 = .ok (.invokestatic 65, 3) := by decide +kernel
theorem dX4_lastOf_11 : decode cX4_lastOf 11 = .ok (.irem, 1) := by decide +kernel
theorem dX4_lastOf_12 : decode cX4_lastOf 12 = .ok (.iadd, 1) := by decide +kernel
theorem dX4_lastOf_13 : decode cX4_lastOf 13 = .ok (.ireturn, 1) := by decide +kernel
theorem dX4_whyNoBeginning_0 : decode cX4_whyNoBeginning 0 = .ok (.aload_n 0, 1) := by decide +kernel
theorem dX4_whyNoBeginning_1 : decode cX4_whyNoBeginning 1 = .ok (.iload_n 1, 1) := by decide +kernel
theorem dX4_whyNoBeginning_2 : decode cX4_whyNoBeginning 2 = .ok (.invokevirtual 40, 3) := by decide +kernel
theorem dX4_whyNoBeginning_5 : decode cX4_whyNoBeginning 5 = .ok (.ifCond .eq 7, 3) := by decide +kernel
theorem dX4_whyNoBeginning_8 : decode cX4_whyNoBeginning 8 = .ok (.iconst 1, 1) := by decide +kernel
theorem dX4_whyNoBeginning_9 : decode cX4_whyNoBeginning 9 = .ok (.goto 16, 3) := by decide +kernel
theorem dX4_whyNoBeginning_12 : decode cX4_whyNoBeginning 12 = .ok (.aload_n 0, 1) := by decide +kernel
theorem dX4_whyNoBeginning_13 : decode cX4_whyNoBeginning 13 = .ok (.iload_n 1, 1) := by decide +kernel
theorem dX4_whyNoBeginning_14 : decode cX4_whyNoBeginning 14 = .ok (.invokevirtual 68, 3) := by decide +kernel
theorem dX4_whyNoBeginning_17 : decode cX4_whyNoBeginning 17 = .ok (.ifCond .ne 7, 3) := by decide +kernel
theorem dX4_whyNoBeginning_20 : decode cX4_whyNoBeginning 20 = .ok (.iconst 3, 1) := by decide +kernel
theorem dX4_whyNoBeginning_21 : decode cX4_whyNoBeginning 21 = .ok (.goto 4, 3) := by decide +kernel
theorem dX4_whyNoBeginning_24 : decode cX4_whyNoBeginning 24 = .ok (.iconst 0, 1) := by decide +kernel
theorem dX4_whyNoBeginning_25 : decode cX4_whyNoBeginning 25 = .ok (.ireturn, 1) := by decide +kernel
theorem dX4_whyNoPayment_0 : decode cX4_whyNoPayment 0 = .ok (.aload_n 0, 1) := by decide +kernel
theorem dX4_whyNoPayment_1 : decode cX4_whyNoPayment 1 = .ok (.iload_n 1, 1) := by decide +kernel
theorem dX4_whyNoPayment_2 : decode cX4_whyNoPayment 2 = .ok (.invokevirtual 40, 3) := by decide +kernel
theorem dX4_whyNoPayment_5 : decode cX4_whyNoPayment 5 = .ok (.ifCond .ne 7, 3) := by decide +kernel
theorem dX4_whyNoPayment_8 : decode cX4_whyNoPayment 8 = .ok (.iconst 2, 1) := by decide +kernel
theorem dX4_whyNoPayment_9 : decode cX4_whyNoPayment 9 = .ok (.goto 16, 3) := by decide +kernel
theorem dX4_whyNoPayment_12 : decode cX4_whyNoPayment 12 = .ok (.aload_n 0, 1) := by decide +kernel
theorem dX4_whyNoPayment_13 : decode cX4_whyNoPayment 13 = .ok (.iload_n 1, 1) := by decide +kernel
theorem dX4_whyNoPayment_14 : decode cX4_whyNoPayment 14 = .ok (.invokevirtual 53, 3) := by decide +kernel
theorem dX4_whyNoPayment_17 : decode cX4_whyNoPayment 17 = .ok (.ifCond .ne 7, 3) := by decide +kernel
theorem dX4_whyNoPayment_20 : decode cX4_whyNoPayment 20 = .ok (.iconst 4, 1) := by decide +kernel
theorem dX4_whyNoPayment_21 : decode cX4_whyNoPayment 21 = .ok (.goto 4, 3) := by decide +kernel
theorem dX4_whyNoPayment_24 : decode cX4_whyNoPayment 24 = .ok (.iconst 0, 1) := by decide +kernel
theorem dX4_whyNoPayment_25 : decode cX4_whyNoPayment 25 = .ok (.ireturn, 1) := by decide +kernel
theorem dX4_whyNoLand_0 : decode cX4_whyNoLand 0 = .ok (.aload_n 0, 1) := by decide +kernel
theorem dX4_whyNoLand_1 : decode cX4_whyNoLand 1 = .ok (.iload_n 1, 1) := by decide +kernel
theorem dX4_whyNoLand_2 : decode cX4_whyNoLand 2 = .ok (.invokevirtual 71, 3) := by decide +kernel
theorem dX4_whyNoLand_5 : decode cX4_whyNoLand 5 = .ok (.istore_n 2, 1) := by decide +kernel
theorem dX4_whyNoLand_6 : decode cX4_whyNoLand 6 = .ok (.iload_n 2, 1) := by decide +kernel
theorem dX4_whyNoLand_7 : decode cX4_whyNoLand 7 = .ok (.ifCond .ne 15, 3) := by decide +kernel
theorem dX4_whyNoLand_10 : decode cX4_whyNoLand 10 = .ok (.aload_n 0, 1) := by decide +kernel
theorem dX4_whyNoLand_11 : decode cX4_whyNoLand 11 = .ok (.iload_n 1, 1) := by decide +kernel
theorem dX4_whyNoLand_12 : decode cX4_whyNoLand 12 = .ok (.invokevirtual 74, 3) := by decide +kernel
theorem dX4_whyNoLand_15 : decode cX4_whyNoLand 15 = .ok (.ifCond .ne 7, 3) := by decide +kernel
theorem dX4_whyNoLand_18 : decode cX4_whyNoLand 18 = .ok (.iconst 5, 1) := by decide +kernel
theorem dX4_whyNoLand_19 : decode cX4_whyNoLand 19 = .ok (.goto 4, 3) := by decide +kernel
theorem dX4_whyNoLand_22 : decode cX4_whyNoLand 22 = .ok (.iload_n 2, 1) := by decide +kernel
theorem dX4_whyNoLand_23 : decode cX4_whyNoLand 23 = .ok (.ireturn, 1) := by decide +kernel
theorem dX4_whyNoLapse_0 : decode cX4_whyNoLapse 0 = .ok (.aload_n 0, 1) := by decide +kernel
theorem dX4_whyNoLapse_1 : decode cX4_whyNoLapse 1 = .ok (.iload_n 1, 1) := by decide +kernel
theorem dX4_whyNoLapse_2 : decode cX4_whyNoLapse 2 = .ok (.invokevirtual 40, 3) := by decide +kernel
theorem dX4_whyNoLapse_5 : decode cX4_whyNoLapse 5 = .ok (.ifCond .ne 5, 3) := by decide +kernel
theorem dX4_whyNoLapse_8 : decode cX4_whyNoLapse 8 = .ok (.iconst 2, 1) := by decide +kernel
theorem dX4_whyNoLapse_9 : decode cX4_whyNoLapse 9 = .ok (.ireturn, 1) := by decide +kernel
theorem dX4_whyNoLapse_10 : decode cX4_whyNoLapse 10 = .ok (.aload_n 0, 1) := by decide +kernel
theorem dX4_whyNoLapse_11 : decode cX4_whyNoLapse 11 = .ok (.iload_n 1, 1) := by decide +kernel
theorem dX4_whyNoLapse_12 : decode cX4_whyNoLapse 12 = .ok (.bipush 13, 2) := by decide +kernel
theorem dX4_whyNoLapse_14 : decode cX4_whyNoLapse 14 = .ok (.iload_n 2, 1) := by decide +kernel
theorem dX4_whyNoLapse_15 : decode cX4_whyNoLapse 15 = .ok (.iadd, 1) := by decide +kernel
theorem dX4_whyNoLapse_16 : decode cX4_whyNoLapse 16 = .ok (.invokevirtual 36, 3) := by decide +kernel
theorem dX4_whyNoLapse_19 : decode cX4_whyNoLapse 19 = .ok (.ifCond .eq 25, 3) := by decide +kernel
theorem dX4_whyNoLapse_22 : decode cX4_whyNoLapse 22 = .ok (.aload_n 0, 1) := by decide +kernel
theorem dX4_whyNoLapse_23 : decode cX4_whyNoLapse 23 = .ok (.getfield 7, 3) := by decide +kernel
theorem dX4_whyNoLapse_26 : decode cX4_whyNoLapse 26 = .ok (.iconst 4, 1) := by decide +kernel
theorem dX4_whyNoLapse_27 : decode cX4_whyNoLapse 27 = .ok (.iaload, 1) := by decide +kernel
theorem dX4_whyNoLapse_28 : decode cX4_whyNoLapse 28 = .ok (.aload_n 0, 1) := by decide +kernel
theorem dX4_whyNoLapse_29 : decode cX4_whyNoLapse 29 = .ok (.iload_n 1, 1) := by decide +kernel
theorem dX4_whyNoLapse_30 : decode cX4_whyNoLapse 30 = .ok (.iconst 0, 1) := by decide +kernel
theorem dX4_whyNoLapse_31 : decode cX4_whyNoLapse 31 = .ok (.invokevirtual 36, 3) := by decide +kernel
theorem dX4_whyNoLapse_34 : decode cX4_whyNoLapse 34 = .ok (.aload_n 0, 1) := by decide +kernel
theorem dX4_whyNoLapse_35 : decode cX4_whyNoLapse 35 = .ok (.getfield 7, 3) := by decide +kernel
theorem dX4_whyNoLapse_38 : decode cX4_whyNoLapse 38 = .ok (.iconst 2, 1) := by decide +kernel
theorem dX4_whyNoLapse_39 : decode cX4_whyNoLapse 39 = .ok (.iaload, 1) := by decide +kernel
theorem dX4_whyNoLapse_40 : decode cX4_whyNoLapse 40 = .ok (.iadd, 1) := by decide +kernel
theorem dX4_whyNoLapse_41 : decode cX4_whyNoLapse 41 = .ok (.if_icmp .le 8, 3) := by decide +kernel
theorem dX4_whyNoLapse_44 : decode cX4_whyNoLapse 44 = .ok (.bipush 6, 2) := by decide +kernel
theorem dX4_whyNoLapse_46 : decode cX4_whyNoLapse 46 = .ok (.goto 4, 3) := by decide +kernel
theorem dX4_whyNoLapse_49 : decode cX4_whyNoLapse 49 = .ok (.iconst 0, 1) := by decide +kernel
theorem dX4_whyNoLapse_50 : decode cX4_whyNoLapse 50 = .ok (.ireturn, 1) := by decide +kernel
theorem dX4_addPhase_0 : decode cX4_addPhase 0 = .ok (.aload_n 0, 1) := by decide +kernel
theorem dX4_addPhase_1 : decode cX4_addPhase 1 = .ok (.aload_n 0, 1) := by decide +kernel
theorem dX4_addPhase_2 : decode cX4_addPhase 2 = .ok (.getfield 7, 3) := by decide +kernel
theorem dX4_addPhase_5 : decode cX4_addPhase 5 = .ok (.bipush 9, 2) := by decide +kernel
theorem dX4_addPhase_7 : decode cX4_addPhase 7 = .ok (.iaload, 1) := by decide +kernel
theorem dX4_addPhase_8 : decode cX4_addPhase 8 = .ok (.bipush 6, 2) := by decide +kernel
theorem dX4_addPhase_10 : decode cX4_addPhase 10 = .ok (.if_icmp .ne 7, 3) := by decide +kernel
theorem dX4_addPhase_13 : decode cX4_addPhase 13 = .ok (.iconst 1, 1) := by decide +kernel
theorem dX4_addPhase_14 : decode cX4_addPhase 14 = .ok (.goto 4, 3) := by decide +kernel
theorem dX4_addPhase_17 : decode cX4_addPhase 17 = .ok (.iconst 0, 1) := by decide +kernel
theorem dX4_addPhase_18 : decode cX4_addPhase 18 = .ok (.putfield 25, 3) := by decide +kernel
theorem dX4_addPhase_21 : decode cX4_addPhase 21 = .ok (.aload_n 0, 1) := by decide +kernel
theorem dX4_addPhase_22 : decode cX4_addPhase 22 = .ok (.getfield 25, 3) := by decide +kernel
theorem dX4_addPhase_25 : decode cX4_addPhase 25 = .ok (.ifCond .le 5, 3) := by decide +kernel
theorem dX4_addPhase_28 : decode cX4_addPhase 28 = .ok (.iconst 0, 1) := by decide +kernel
theorem dX4_addPhase_29 : decode cX4_addPhase 29 = .ok (.ireturn, 1) := by decide +kernel
theorem dX4_addPhase_30 : decode cX4_addPhase 30 = .ok (.aload_n 0, 1) := by decide +kernel
theorem dX4_addPhase_31 : decode cX4_addPhase 31 = .ok (.invokevirtual 77, 3) := by decide +kernel
theorem dX4_addPhase_34 : decode cX4_addPhase 34 = .ok (.aload_n 0, 1) := by decide +kernel
theorem dX4_addPhase_35 : decode cX4_addPhase 35 = .ok (.getfield 7, 3) := by decide +kernel
theorem dX4_addPhase_38 : decode cX4_addPhase 38 = .ok (.bipush 9, 2) := by decide +kernel
theorem dX4_addPhase_40 : decode cX4_addPhase 40 = .ok (.iaload, 1) := by decide +kernel
theorem dX4_addPhase_41 : decode cX4_addPhase 41 = .ok (.istore_n 1, 1) := by decide +kernel
theorem dX4_addPhase_42 : decode cX4_addPhase 42 = .ok (.aload_n 0, 1) := by decide +kernel
theorem dX4_addPhase_43 : decode cX4_addPhase 43 = .ok (.getfield 7, 3) := by decide +kernel
theorem dX4_addPhase_46 : decode cX4_addPhase 46 = .ok (.bipush 9, 2) := by decide +kernel
theorem dX4_addPhase_48 : decode cX4_addPhase 48 = .ok (.dup2, 1) := by decide +kernel
theorem dX4_addPhase_49 : decode cX4_addPhase 49 = .ok (.iaload, 1) := by decide +kernel
theorem dX4_addPhase_50 : decode cX4_addPhase 50 = .ok (.iconst 1, 1) := by decide +kernel
theorem dX4_addPhase_51 : decode cX4_addPhase 51 = .ok (.iadd, 1) := by decide +kernel
theorem dX4_addPhase_52 : decode cX4_addPhase 52 = .ok (.iastore, 1) := by decide +kernel
theorem dX4_addPhase_53 : decode cX4_addPhase 53 = .ok (.iconst 0, 1) := by decide +kernel
theorem dX4_addPhase_54 : decode cX4_addPhase 54 = .ok (.istore_n 2, 1) := by decide +kernel
theorem dX4_addPhase_55 : decode cX4_addPhase 55 = .ok (.iload_n 2, 1) := by decide +kernel
theorem dX4_addPhase_56 : decode cX4_addPhase 56 = .ok (.bipush 37, 2) := by decide +kernel
theorem dX4_addPhase_58 : decode cX4_addPhase 58 = .ok (.if_icmp .ge 16, 3) := by decide +kernel
theorem dX4_addPhase_61 : decode cX4_addPhase 61 = .ok (.aload_n 0, 1) := by decide +kernel
theorem dX4_addPhase_62 : decode cX4_addPhase 62 = .ok (.iload_n 1, 1) := by decide +kernel
theorem dX4_addPhase_63 : decode cX4_addPhase 63 = .ok (.iload_n 2, 1) := by decide +kernel
theorem dX4_addPhase_64 : decode cX4_addPhase 64 = .ok (.iconst 0, 1) := by decide +kernel
theorem dX4_addPhase_65 : decode cX4_addPhase 65 = .ok (.invokevirtual 80, 3) := by decide +kernel
theorem dX4_addPhase_68 : decode cX4_addPhase 68 = .ok (.iinc 2 1, 3) := by decide +kernel
theorem dX4_addPhase_71 : decode cX4_addPhase 71 = .ok (.goto (-16), 3) := by decide +kernel
theorem dX4_addPhase_74 : decode cX4_addPhase 74 = .ok (.aload_n 0, 1) := by decide +kernel
theorem dX4_addPhase_75 : decode cX4_addPhase 75 = .ok (.iload_n 1, 1) := by decide +kernel
theorem dX4_addPhase_76 : decode cX4_addPhase 76 = .ok (.iconst 0, 1) := by decide +kernel
theorem dX4_addPhase_77 : decode cX4_addPhase 77 = .ok (.iconst (-1), 1) := by decide +kernel
theorem dX4_addPhase_78 : decode cX4_addPhase 78 = .ok (.invokevirtual 80, 3) := by decide +kernel
theorem dX4_addPhase_81 : decode cX4_addPhase 81 = .ok (.iload_n 1, 1) := by decide +kernel
theorem dX4_addPhase_82 : decode cX4_addPhase 82 = .ok (.ireturn, 1) := by decide +kernel
theorem dX4_isArea_0 : decode cX4_isArea 0 = .ok (.iload_n 0, 1) := by decide +kernel
theorem dX4_isArea_1 : decode cX4_isArea 1 = .ok (.iconst 0, 1) := by decide +kernel
theorem dX4_isArea_2 : decode cX4_isArea 2 = .ok (.sipush 999, 3) := by decide +kernel
theorem dX4_isArea_5 : decode cX4_isArea 5 = .ok (.invokestatic 32, 3) := by decide +kernel
theorem dX4_isArea_8 : decode cX4_isArea 8 = .ok (.ireturn, 1) := by decide +kernel
theorem dX4_changeArea_0 : decode cX4_changeArea 0 = .ok (.aload_n 0, 1) := by decide +kernel
theorem dX4_changeArea_1 : decode cX4_changeArea 1 = .ok (.iload_n 1, 1) := by decide +kernel
theorem dX4_changeArea_2 : decode cX4_changeArea 2 = .ok (.iconst 1, 1) := by decide +kernel
theorem dX4_changeArea_3 : decode cX4_changeArea 3 = .ok (.iload_n 2, 1) := by decide +kernel
theorem dX4_changeArea_4 : decode cX4_changeArea 4 = .ok (.iadd, 1) := by decide +kernel
theorem dX4_changeArea_5 : decode cX4_changeArea 5 = .ok (.iload_n 3, 1) := by decide +kernel
theorem dX4_changeArea_6 : decode cX4_changeArea 6 = .ok (.invokevirtual 80, 3) := by decide +kernel
theorem dX4_changeArea_9 : decode cX4_changeArea 9 = .ok (.aload_n 0, 1) := by decide +kernel
theorem dX4_changeArea_10 : decode cX4_changeArea 10 = .ok (.iload_n 1, 1) := by decide +kernel
theorem dX4_changeArea_11 : decode cX4_changeArea 11 = .ok (.iconst 5, 1) := by decide +kernel
theorem dX4_changeArea_12 : decode cX4_changeArea 12 = .ok (.iload_n 2, 1) := by decide +kernel
theorem dX4_changeArea_13 : decode cX4_changeArea 13 = .ok (.iadd, 1) := by decide +kernel
theorem dX4_changeArea_14 : decode cX4_changeArea 14 = .ok (.aload_n 0, 1) := by decide +kernel
theorem dX4_changeArea_15 : decode cX4_changeArea 15 = .ok (.iload_n 1, 1) := by decide +kernel
theorem dX4_changeArea_16 : decode cX4_changeArea 16 = .ok (.iconst 5, 1) := by decide +kernel
theorem dX4_changeArea_17 : decode cX4_changeArea 17 = .ok (.iload_n 2, 1) := by decide +kernel
theorem dX4_changeArea_18 : decode cX4_changeArea 18 = .ok (.iadd, 1) := by decide +kernel
theorem dX4_changeArea_19 : decode cX4_changeArea 19 = .ok (.invokevirtual 36, 3) := by decide +kernel
theorem dX4_changeArea_22 : decode cX4_changeArea 22 = .ok (.iload_n 3, 1) := by decide +kernel
theorem dX4_changeArea_23 : decode cX4_changeArea 23 = .ok (.if_icmp .ge 14, 3) := by decide +kernel
theorem dX4_changeArea_26 : decode cX4_changeArea 26 = .ok (.aload_n 0, 1) := by decide +kernel
theorem dX4_changeArea_27 : decode cX4_changeArea 27 = .ok (.iload_n 1, 1) := by decide +kernel
theorem dX4_changeArea_28 : decode cX4_changeArea 28 = .ok (.iconst 5, 1) := by decide +kernel
theorem dX4_changeArea_29 : decode cX4_changeArea 29 = .ok (.iload_n 2, 1) := by decide +kernel
theorem dX4_changeArea_30 : decode cX4_changeArea 30 = .ok (.iadd, 1) := by decide +kernel
theorem dX4_changeArea_31 : decode cX4_changeArea 31 = .ok (.invokevirtual 36, 3) := by decide +kernel
theorem dX4_changeArea_34 : decode cX4_changeArea 34 = .ok (.goto 4, 3) := by decide +kernel
theorem dX4_changeArea_37 : decode cX4_changeArea 37 = .ok (.iload_n 3, 1) := by decide +kernel
theorem dX4_changeArea_38 : decode cX4_changeArea 38 = .ok (.invokevirtual 80, 3) := by decide +kernel
theorem dX4_changeArea_41 : decode cX4_changeArea 41 = .ok (.return_, 1) := by decide +kernel
theorem dX4_area_0 : decode cX4_area 0 = .ok (.aload_n 0, 1) := by decide +kernel
theorem dX4_area_1 : decode cX4_area 1 = .ok (.aload_n 0, 1) := by decide +kernel
theorem dX4_area_2 : decode cX4_area 2 = .ok (.iload_n 1, 1) := by decide +kernel
theorem dX4_area_3 : decode cX4_area 3 = .ok (.invokevirtual 84, 3) := by decide +kernel
theorem dX4_area_6 : decode cX4_area 6 = .ok (.ifCond .eq 10, 3) := by decide +kernel
theorem dX4_area_9 : decode cX4_area 9 = .ok (.iload_n 2, 1) := by decide +kernel
theorem dX4_area_10 : decode cX4_area 10 = .ok (.invokestatic 87, 3) := by decide +kernel
theorem dX4_area_13 : decode cX4_area 13 = .ok (.ifCond .ne 7, 3) := by decide +kernel
theorem dX4_area_16 : decode cX4_area 16 = .ok (.iconst 1, 1) := by decide +kernel
theorem dX4_area_17 : decode cX4_area 17 = .ok (.goto 27, 3) := by decide +kernel
theorem dX4_area_20 : decode cX4_area 20 = .ok (.iload_n 3, 1) := by decide +kernel
theorem dX4_area_21 : decode cX4_area 21 = .ok (.invokestatic 90, 3) := by decide +kernel
theorem dX4_area_24 : decode cX4_area 24 = .ok (.ifCond .ne 7, 3) := by decide +kernel
theorem dX4_area_27 : decode cX4_area 27 = .ok (.iconst 2, 1) := by decide +kernel
theorem dX4_area_28 : decode cX4_area 28 = .ok (.goto 16, 3) := by decide +kernel
theorem dX4_area_31 : decode cX4_area 31 = .ok (.aload_n 0, 1) := by decide +kernel
theorem dX4_area_32 : decode cX4_area 32 = .ok (.iload_n 1, 1) := by decide +kernel
theorem dX4_area_33 : decode cX4_area 33 = .ok (.invokevirtual 40, 3) := by decide +kernel
theorem dX4_area_36 : decode cX4_area 36 = .ok (.ifCond .eq 7, 3) := by decide +kernel
theorem dX4_area_39 : decode cX4_area 39 = .ok (.iconst 3, 1) := by decide +kernel
theorem dX4_area_40 : decode cX4_area 40 = .ok (.goto 4, 3) := by decide +kernel
theorem dX4_area_43 : decode cX4_area 43 = .ok (.iconst 0, 1) := by decide +kernel
theorem dX4_area_44 : decode cX4_area 44 = .ok (.putfield 25, 3) := by decide +kernel
theorem dX4_area_47 : decode cX4_area 47 = .ok (.aload_n 0, 1) := by decide +kernel
theorem dX4_area_48 : decode cX4_area 48 = .ok (.getfield 25, 3) := by decide +kernel
theorem dX4_area_51 : decode cX4_area 51 = .ok (.ifCond .le 5, 3) := by decide +kernel
theorem dX4_area_54 : decode cX4_area 54 = .ok (.iconst 0, 1) := by decide +kernel
theorem dX4_area_55 : decode cX4_area 55 = .ok (.ireturn, 1) := by decide +kernel
theorem dX4_area_56 : decode cX4_area 56 = .ok (.aload_n 0, 1) := by decide +kernel
theorem dX4_area_57 : decode cX4_area 57 = .ok (.invokevirtual 77, 3) := by decide +kernel
theorem dX4_area_60 : decode cX4_area 60 = .ok (.aload_n 0, 1) := by decide +kernel
theorem dX4_area_61 : decode cX4_area 61 = .ok (.iload_n 1, 1) := by decide +kernel
theorem dX4_area_62 : decode cX4_area 62 = .ok (.iconst 1, 1) := by decide +kernel
theorem dX4_area_63 : decode cX4_area 63 = .ok (.iload_n 2, 1) := by decide +kernel
theorem dX4_area_64 : decode cX4_area 64 = .ok (.iadd, 1) := by decide +kernel
theorem dX4_area_65 : decode cX4_area 65 = .ok (.invokevirtual 36, 3) := by decide +kernel
theorem dX4_area_68 : decode cX4_area 68 = .ok (.istore 4, 2) := by decide +kernel
theorem dX4_area_70 : decode cX4_area 70 = .ok (.aload_n 0, 1) := by decide +kernel
theorem dX4_area_71 : decode cX4_area 71 = .ok (.iload_n 1, 1) := by decide +kernel
theorem dX4_area_72 : decode cX4_area 72 = .ok (.iload_n 2, 1) := by decide +kernel
theorem dX4_area_73 : decode cX4_area 73 = .ok (.iload_n 3, 1) := by decide +kernel
theorem dX4_area_74 : decode cX4_area 74 = .ok (.invokevirtual 93, 3) := by decide +kernel
theorem dX4_area_77 : decode cX4_area 77 = .ok (.iload 4, 2) := by decide +kernel
theorem dX4_area_79 : decode cX4_area 79 = .ok (.ireturn, 1) := by decide +kernel
theorem dX4_exempt_0 : decode cX4_exempt 0 = .ok (.aload_n 0, 1) := by decide +kernel
theorem dX4_exempt_1 : decode cX4_exempt 1 = .ok (.aload_n 0, 1) := by decide +kernel
theorem dX4_exempt_2 : decode cX4_exempt 2 = .ok (.iload_n 1, 1) := by decide +kernel
theorem dX4_exempt_3 : decode cX4_exempt 3 = .ok (.invokevirtual 84, 3) := by decide +kernel
theorem dX4_exempt_6 : decode cX4_exempt 6 = .ok (.ifCond .eq 10, 3) := by decide +kernel
theorem dX4_exempt_9 : decode cX4_exempt 9 = .ok (.iload_n 2, 1) := by decide +kernel
theorem dX4_exempt_10 : decode cX4_exempt 10 = .ok (.invokestatic 87, 3) := by decide +kernel
theorem dX4_exempt_13 : decode cX4_exempt 13 = .ok (.ifCond .ne 7, 3) := by decide +kernel
theorem dX4_exempt_16 : decode cX4_exempt 16 = .ok (.iconst 1, 1) := by decide +kernel
theorem dX4_exempt_17 : decode cX4_exempt 17 = .ok (.goto 36, 3) := by decide +kernel
theorem dX4_exempt_20 : decode cX4_exempt 20 = .ok (.iload_n 3, 1) := by decide +kernel
theorem dX4_exempt_21 : decode cX4_exempt 21 = .ok (.iconst 0, 1) := by decide +kernel
theorem dX4_exempt_22 : decode cX4_exempt 22 = .ok (.aload_n 0, 1) := by decide +kernel
theorem dX4_exempt_23 : decode cX4_exempt 23 = .ok (.iload_n 1, 1) := by decide +kernel
theorem dX4_exempt_24 : decode cX4_exempt 24 = .ok (.iconst 1, 1) := by decide +kernel
theorem dX4_exempt_25 : decode cX4_exempt 25 = .ok (.iload_n 2, 1) := by decide +kernel
theorem dX4_exempt_26 : decode cX4_exempt 26 = .ok (.iadd, 1) := by decide +kernel
theorem dX4_exempt_27 : decode cX4_exempt 27 = .ok (.invokevirtual 36, 3) := by decide +kernel
theorem dX4_exempt_30 : decode cX4_exempt 30 = .ok (.invokestatic 32, 3) := by decide +kernel
theorem dX4_exempt_33 : decode cX4_exempt 33 = .ok (.ifCond .ne 7, 3) := by decide +kernel
theorem dX4_exempt_36 : decode cX4_exempt 36 = .ok (.iconst 2, 1) := by decide +kernel
theorem dX4_exempt_37 : decode cX4_exempt 37 = .ok (.goto 16, 3) := by decide +kernel
theorem dX4_exempt_40 : decode cX4_exempt 40 = .ok (.aload_n 0, 1) := by decide +kernel
theorem dX4_exempt_41 : decode cX4_exempt 41 = .ok (.iload_n 1, 1) := by decide +kernel
theorem dX4_exempt_42 : decode cX4_exempt 42 = .ok (.invokevirtual 40, 3) := by decide +kernel
theorem dX4_exempt_45 : decode cX4_exempt 45 = .ok (.ifCond .eq 7, 3) := by decide +kernel
theorem dX4_exempt_48 : decode cX4_exempt 48 = .ok (.iconst 3, 1) := by decide +kernel
theorem dX4_exempt_49 : decode cX4_exempt 49 = .ok (.goto 4, 3) := by decide +kernel
theorem dX4_exempt_52 : decode cX4_exempt 52 = .ok (.iconst 0, 1) := by decide +kernel
theorem dX4_exempt_53 : decode cX4_exempt 53 = .ok (.putfield 25, 3) := by decide +kernel
theorem dX4_exempt_56 : decode cX4_exempt 56 = .ok (.aload_n 0, 1) := by decide +kernel
theorem dX4_exempt_57 : decode cX4_exempt 57 = .ok (.getfield 25, 3) := by decide +kernel
theorem dX4_exempt_60 : decode cX4_exempt 60 = .ok (.ifCond .le 5, 3) := by decide +kernel
theorem dX4_exempt_63 : decode cX4_exempt 63 = .ok (.iconst 0, 1) := by decide +kernel
theorem dX4_exempt_64 : decode cX4_exempt 64 = .ok (.ireturn, 1) := by decide +kernel
theorem dX4_exempt_65 : decode cX4_exempt 65 = .ok (.aload_n 0, 1) := by decide +kernel
theorem dX4_exempt_66 : decode cX4_exempt 66 = .ok (.invokevirtual 77, 3) := by decide +kernel
theorem dX4_exempt_69 : decode cX4_exempt 69 = .ok (.aload_n 0, 1) := by decide +kernel
theorem dX4_exempt_70 : decode cX4_exempt 70 = .ok (.iload_n 1, 1) := by decide +kernel
theorem dX4_exempt_71 : decode cX4_exempt 71 = .ok (.iconst 5, 1) := by decide +kernel
theorem dX4_exempt_72 : decode cX4_exempt 72 = .ok (.iload_n 2, 1) := by decide +kernel
theorem dX4_exempt_73 : decode cX4_exempt 73 = .ok (.iadd, 1) := by decide +kernel
theorem dX4_exempt_74 : decode cX4_exempt 74 = .ok (.invokevirtual 36, 3) := by decide +kernel
theorem dX4_exempt_77 : decode cX4_exempt 77 = .ok (.istore 4, 2) := by decide +kernel
theorem dX4_exempt_79 : decode cX4_exempt 79 = .ok (.aload_n 0, 1) := by decide +kernel
theorem dX4_exempt_80 : decode cX4_exempt 80 = .ok (.iload_n 1, 1) := by decide +kernel
theorem dX4_exempt_81 : decode cX4_exempt 81 = .ok (.iconst 5, 1) := by decide +kernel
theorem dX4_exempt_82 : decode cX4_exempt 82 = .ok (.iload_n 2, 1) := by decide +kernel
theorem dX4_exempt_83 : decode cX4_exempt 83 = .ok (.iadd, 1) := by decide +kernel
theorem dX4_exempt_84 : decode cX4_exempt 84 = .ok (.iload_n 3, 1) := by decide +kernel
theorem dX4_exempt_85 : decode cX4_exempt 85 = .ok (.invokevirtual 80, 3) := by decide +kernel
theorem dX4_exempt_88 : decode cX4_exempt 88 = .ok (.iload 4, 2) := by decide +kernel
theorem dX4_exempt_90 : decode cX4_exempt 90 = .ok (.ireturn, 1) := by decide +kernel
theorem dX4_rate_0 : decode cX4_rate 0 = .ok (.aload_n 0, 1) := by decide +kernel
theorem dX4_rate_1 : decode cX4_rate 1 = .ok (.iload_n 1, 1) := by decide +kernel
theorem dX4_rate_2 : decode cX4_rate 2 = .ok (.invokestatic 87, 3) := by decide +kernel
theorem dX4_rate_5 : decode cX4_rate 5 = .ok (.ifCond .ne 7, 3) := by decide +kernel
theorem dX4_rate_8 : decode cX4_rate 8 = .ok (.iconst 1, 1) := by decide +kernel
theorem dX4_rate_9 : decode cX4_rate 9 = .ok (.goto 19, 3) := by decide +kernel
theorem dX4_rate_12 : decode cX4_rate 12 = .ok (.iload_n 2, 1) := by decide +kernel
theorem dX4_rate_13 : decode cX4_rate 13 = .ok (.iconst 0, 1) := by decide +kernel
theorem dX4_rate_14 : decode cX4_rate 14 = .ok (.sipush 999, 3) := by decide +kernel
theorem dX4_rate_17 : decode cX4_rate 17 = .ok (.invokestatic 32, 3) := by decide +kernel
theorem dX4_rate_20 : decode cX4_rate 20 = .ok (.ifCond .eq 7, 3) := by decide +kernel
theorem dX4_rate_23 : decode cX4_rate 23 = .ok (.iconst 0, 1) := by decide +kernel
theorem dX4_rate_24 : decode cX4_rate 24 = .ok (.goto 4, 3) := by decide +kernel
theorem dX4_rate_27 : decode cX4_rate 27 = .ok (.iconst 2, 1) := by decide +kernel
theorem dX4_rate_28 : decode cX4_rate 28 = .ok (.putfield 25, 3) := by decide +kernel
theorem dX4_rate_31 : decode cX4_rate 31 = .ok (.aload_n 0, 1) := by decide +kernel
theorem dX4_rate_32 : decode cX4_rate 32 = .ok (.getfield 25, 3) := by decide +kernel
theorem dX4_rate_35 : decode cX4_rate 35 = .ok (.ifCond .le 5, 3) := by decide +kernel
theorem dX4_rate_38 : decode cX4_rate 38 = .ok (.iconst 0, 1) := by decide +kernel
theorem dX4_rate_39 : decode cX4_rate 39 = .ok (.ireturn, 1) := by decide +kernel
theorem dX4_rate_40 : decode cX4_rate 40 = .ok (.aload_n 0, 1) := by decide +kernel
theorem dX4_rate_41 : decode cX4_rate 41 = .ok (.invokevirtual 77, 3) := by decide +kernel
theorem dX4_rate_44 : decode cX4_rate 44 = .ok (.aload_n 0, 1) := by decide +kernel
theorem dX4_rate_45 : decode cX4_rate 45 = .ok (.getfield 7, 3) := by decide +kernel
theorem dX4_rate_48 : decode cX4_rate 48 = .ok (.iconst 5, 1) := by decide +kernel
theorem dX4_rate_49 : decode cX4_rate 49 = .ok (.iload_n 1, 1) := by decide +kernel
theorem dX4_rate_50 : decode cX4_rate 50 = .ok (.iadd, 1) := by decide +kernel
theorem dX4_rate_51 : decode cX4_rate 51 = .ok (.iaload, 1) := by decide +kernel
theorem dX4_rate_52 : decode cX4_rate 52 = .ok (.istore_n 3, 1) := by decide +kernel
theorem dX4_rate_53 : decode cX4_rate 53 = .ok (.aload_n 0, 1) := by decide +kernel
theorem dX4_rate_54 : decode cX4_rate 54 = .ok (.getfield 7, 3) := by decide +kernel
theorem dX4_rate_57 : decode cX4_rate 57 = .ok (.iconst 5, 1) := by decide +kernel
theorem dX4_rate_58 : decode cX4_rate 58 = .ok (.iload_n 1, 1) := by decide +kernel
theorem dX4_rate_59 : decode cX4_rate 59 = .ok (.iadd, 1) := by decide +kernel
theorem dX4_rate_60 : decode cX4_rate 60 = .ok (.iload_n 2, 1) := by decide +kernel
theorem dX4_rate_61 : decode cX4_rate 61 = .ok (.iastore, 1) := by decide +kernel
theorem dX4_rate_62 : decode cX4_rate 62 = .ok (.iload_n 3, 1) := by decide +kernel
theorem dX4_rate_63 : decode cX4_rate 63 = .ok (.ireturn, 1) := by decide +kernel
theorem dX4_isSetting_0 : decode cX4_isSetting 0 = .ok (.iload_n 0, 1) := by decide +kernel
theorem dX4_isSetting_1 : decode cX4_isSetting 1 = .ok (.iconst 0, 1) := by decide +kernel
theorem dX4_isSetting_2 : decode cX4_isSetting 2 = .ok (.iconst 3, 1) := by decide +kernel
theorem dX4_isSetting_3 : decode cX4_isSetting 3 = .ok (.invokestatic 32, 3) := by decide +kernel
theorem dX4_isSetting_6 : decode cX4_isSetting 6 = .ok (.ireturn, 1) := by decide +kernel
theorem dX4_isValue_0 : decode cX4_isValue 0 = .ok (.iload_n 0, 1) := by decide +kernel
theorem dX4_isValue_1 : decode cX4_isValue 1 = .ok (.ifCond .ne 13, 3) := by decide +kernel
theorem dX4_isValue_4 : decode cX4_isValue 4 = .ok (.iload_n 1, 1) := by decide +kernel
theorem dX4_isValue_5 : decode cX4_isValue 5 = .ok (.iconst 1, 1) := by decide +kernel
theorem dX4_isValue_6 : decode cX4_isValue 6 = .ok (.bipush 120, 2) := by decide +kernel
theorem dX4_isValue_8 : decode cX4_isValue 8 = .ok (.invokestatic 32, 3) := by decide +kernel
theorem dX4_isValue_11 : decode cX4_isValue 11 = .ok (.goto 31, 3) := by decide +kernel
theorem dX4_isValue_14 : decode cX4_isValue 14 = .ok (.iload_n 1, 1) := by decide +kernel
theorem dX4_isValue_15 : decode cX4_isValue 15 = .ok (.iconst 0, 1) := by decide +kernel
theorem dX4_isValue_16 : decode cX4_isValue 16 = .ok (.iload_n 0, 1) := by decide +kernel
theorem dX4_isValue_17 : decode cX4_isValue 17 = .ok (.iconst 1, 1) := by decide +kernel
theorem dX4_isValue_18 : decode cX4_isValue 18 = .ok (.if_icmp .ne 8, 3) := by decide +kernel
theorem dX4_isValue_21 : decode cX4_isValue 21 = .ok (.bipush 50, 2) := by decide +kernel
theorem dX4_isValue_23 : decode cX4_isValue 23 = .ok (.goto 16, 3) := by decide +kernel
theorem dX4_isValue_26 : decode cX4_isValue 26 = .ok (.iload_n 0, 1) := by decide +kernel
theorem dX4_isValue_27 : decode cX4_isValue 27 = .ok (.iconst 2, 1) := by decide +kernel
theorem dX4_isValue_28 : decode cX4_isValue 28 = .ok (.if_icmp .ne 9, 3) := by decide +kernel
theorem dX4_isValue_31 : decode cX4_isValue 31 = .ok (.sipush 3000, 3) := by decide +kernel
theorem dX4_isValue_34 : decode cX4_isValue 34 = .ok (.goto 5, 3) := by decide +kernel
theorem dX4_isValue_37 : decode cX4_isValue 37 = .ok (.bipush 100, 2) := by decide +kernel
theorem dX4_isValue_39 : decode cX4_isValue 39 = .ok (.invokestatic 32, 3) := by decide +kernel
theorem dX4_isValue_42 : decode cX4_isValue 42 = .ok (.ireturn, 1) := by decide +kernel
theorem dX4_set_0 : decode cX4_set 0 = .ok (.aload_n 0, 1) := by decide +kernel
theorem dX4_set_1 : decode cX4_set 1 = .ok (.iload_n 1, 1) := by decide +kernel
theorem dX4_set_2 : decode cX4_set 2 = .ok (.invokestatic 96, 3) := by decide +kernel
theorem dX4_set_5 : decode cX4_set 5 = .ok (.ifCond .ne 7, 3) := by decide +kernel
theorem dX4_set_8 : decode cX4_set 8 = .ok (.iconst 1, 1) := by decide +kernel
theorem dX4_set_9 : decode cX4_set 9 = .ok (.goto 16, 3) := by decide +kernel
theorem dX4_set_12 : decode cX4_set 12 = .ok (.iload_n 1, 1) := by decide +kernel
theorem dX4_set_13 : decode cX4_set 13 = .ok (.iload_n 2, 1) := by decide +kernel
theorem dX4_set_14 : decode cX4_set 14 = .ok (.invokestatic 99, 3) := by decide +kernel
theorem dX4_set_17 : decode cX4_set 17 = .ok (.ifCond .eq 7, 3) := by decide +kernel
theorem dX4_set_20 : decode cX4_set 20 = .ok (.iconst 0, 1) := by decide +kernel
theorem dX4_set_21 : decode cX4_set 21 = .ok (.goto 4, 3) := by decide +kernel
theorem dX4_set_24 : decode cX4_set 24 = .ok (.iconst 2, 1) := by decide +kernel
theorem dX4_set_25 : decode cX4_set 25 = .ok (.putfield 25, 3) := by decide +kernel
theorem dX4_set_28 : decode cX4_set 28 = .ok (.aload_n 0, 1) := by decide +kernel
theorem dX4_set_29 : decode cX4_set 29 = .ok (.getfield 25, 3) := by decide +kernel
theorem dX4_set_32 : decode cX4_set 32 = .ok (.ifCond .le 5, 3) := by decide +kernel
theorem dX4_set_35 : decode cX4_set 35 = .ok (.iconst 0, 1) := by decide +kernel
theorem dX4_set_36 : decode cX4_set 36 = .ok (.ireturn, 1) := by decide +kernel
theorem dX4_set_37 : decode cX4_set 37 = .ok (.aload_n 0, 1) := by decide +kernel
theorem dX4_set_38 : decode cX4_set 38 = .ok (.invokevirtual 77, 3) := by decide +kernel
theorem dX4_set_41 : decode cX4_set 41 = .ok (.aload_n 0, 1) := by decide +kernel
theorem dX4_set_42 : decode cX4_set 42 = .ok (.getfield 7, 3) := by decide +kernel
theorem dX4_set_45 : decode cX4_set 45 = .ok (.iload_n 1, 1) := by decide +kernel
theorem dX4_set_46 : decode cX4_set 46 = .ok (.iaload, 1) := by decide +kernel
theorem dX4_set_47 : decode cX4_set 47 = .ok (.istore_n 3, 1) := by decide +kernel
theorem dX4_set_48 : decode cX4_set 48 = .ok (.aload_n 0, 1) := by decide +kernel
theorem dX4_set_49 : decode cX4_set 49 = .ok (.getfield 7, 3) := by decide +kernel
theorem dX4_set_52 : decode cX4_set 52 = .ok (.iload_n 1, 1) := by decide +kernel
theorem dX4_set_53 : decode cX4_set 53 = .ok (.iload_n 2, 1) := by decide +kernel
theorem dX4_set_54 : decode cX4_set 54 = .ok (.iastore, 1) := by decide +kernel
theorem dX4_set_55 : decode cX4_set 55 = .ok (.iload_n 3, 1) := by decide +kernel
theorem dX4_set_56 : decode cX4_set 56 = .ok (.ireturn, 1) := by decide +kernel
theorem dX4_begins_0 : decode cX4_begins 0 = .ok (.aload_n 0, 1) := by decide +kernel
theorem dX4_begins_1 : decode cX4_begins 1 = .ok (.iload_n 1, 1) := by decide +kernel
theorem dX4_begins_2 : decode cX4_begins 2 = .ok (.invokevirtual 57, 3) := by decide +kernel
theorem dX4_begins_5 : decode cX4_begins 5 = .ok (.aload_n 0, 1) := by decide +kernel
theorem dX4_begins_6 : decode cX4_begins 6 = .ok (.iload_n 1, 1) := by decide +kernel
theorem dX4_begins_7 : decode cX4_begins 7 = .ok (.invokevirtual 60, 3) := by decide +kernel
theorem dX4_begins_10 : decode cX4_begins 10 = .ok (.isub, 1) := by decide +kernel
theorem dX4_begins_11 : decode cX4_begins 11 = .ok (.istore_n 2, 1) := by decide +kernel
theorem dX4_begins_12 : decode cX4_begins 12 = .ok (.iconst 0, 1) := by decide +kernel
theorem dX4_begins_13 : decode cX4_begins 13 = .ok (.istore_n 3, 1) := by decide +kernel
theorem dX4_begins_14 : decode cX4_begins 14 = .ok (.iload_n 3, 1) := by decide +kernel
theorem dX4_begins_15 : decode cX4_begins 15 = .ok (.iconst 4, 1) := by decide +kernel
theorem dX4_begins_16 : decode cX4_begins 16 = .ok (.if_icmp .ge 52, 3) := by decide +kernel
theorem dX4_begins_19 : decode cX4_begins 19 = .ok (.aload_n 0, 1) := by decide +kernel
theorem dX4_begins_20 : decode cX4_begins 20 = .ok (.iload_n 1, 1) := by decide +kernel
theorem dX4_begins_21 : decode cX4_begins 21 = .ok (.bipush 9, 2) := by decide +kernel
theorem dX4_begins_23 : decode cX4_begins 23 = .ok (.iload_n 3, 1) := by decide +kernel
theorem dX4_begins_24 : decode cX4_begins 24 = .ok (.iadd, 1) := by decide +kernel
theorem dX4_begins_25 : decode cX4_begins 25 = .ok (.aload_n 0, 1) := by decide +kernel
theorem dX4_begins_26 : decode cX4_begins 26 = .ok (.getfield 7, 3) := by decide +kernel
theorem dX4_begins_29 : decode cX4_begins 29 = .ok (.iconst 5, 1) := by decide +kernel
theorem dX4_begins_30 : decode cX4_begins 30 = .ok (.iload_n 3, 1) := by decide +kernel
theorem dX4_begins_31 : decode cX4_begins 31 = .ok (.iadd, 1) := by decide +kernel
theorem dX4_begins_32 : decode cX4_begins 32 = .ok (.iaload, 1) := by decide +kernel
theorem dX4_begins_33 : decode cX4_begins 33 = .ok (.invokevirtual 80, 3) := by decide +kernel
theorem dX4_begins_36 : decode cX4_begins 36 = .ok (.aload_n 0, 1) := by decide +kernel
theorem dX4_begins_37 : decode cX4_begins 37 = .ok (.iload_n 1, 1) := by decide +kernel
theorem dX4_begins_38 : decode cX4_begins 38 = .ok (.bipush 13, 2) := by decide +kernel
theorem dX4_begins_40 : decode cX4_begins 40 = .ok (.iload_n 3, 1) := by decide +kernel
theorem dX4_begins_41 : decode cX4_begins 41 = .ok (.iadd, 1) := by decide +kernel
theorem dX4_begins_42 : decode cX4_begins 42 = .ok (.aload_n 0, 1) := by decide +kernel
theorem dX4_begins_43 : decode cX4_begins 43 = .ok (.iload_n 1, 1) := by decide +kernel
theorem dX4_begins_44 : decode cX4_begins 44 = .ok (.iconst 5, 1) := by decide +kernel
theorem dX4_begins_45 : decode cX4_begins 45 = .ok (.iload_n 3, 1) := by decide +kernel
theorem dX4_begins_46 : decode cX4_begins 46 = .ok (.iadd, 1) := by decide +kernel
theorem dX4_begins_47 : decode cX4_begins 47 = .ok (.invokevirtual 36, 3) := by decide +kernel
theorem dX4_begins_50 : decode cX4_begins 50 = .ok (.aload_n 0, 1) := by decide +kernel
theorem dX4_begins_51 : decode cX4_begins 51 = .ok (.getfield 7, 3) := by decide +kernel
theorem dX4_begins_54 : decode cX4_begins 54 = .ok (.iconst 5, 1) := by decide +kernel
theorem dX4_begins_55 : decode cX4_begins 55 = .ok (.iload_n 3, 1) := by decide +kernel
theorem dX4_begins_56 : decode cX4_begins 56 = .ok (.iadd, 1) := by decide +kernel
theorem dX4_begins_57 : decode cX4_begins 57 = .ok (.iaload, 1) := by decide +kernel
theorem dX4_begins_58 : decode cX4_begins 58 = .ok (.imul, 1) := by decide +kernel
theorem dX4_begins_59 : decode cX4_begins 59 = .ok (.invokevirtual 80, 3) := by decide +kernel
theorem dX4_begins_62 : decode cX4_begins 62 = .ok (.iinc 3 1, 3) := by decide +kernel
theorem dX4_begins_65 : decode cX4_begins 65 = .ok (.goto (-51), 3) := by decide +kernel
theorem dX4_begins_68 : decode cX4_begins 68 = .ok (.aload_n 0, 1) := by decide +kernel
theorem dX4_begins_69 : decode cX4_begins 69 = .ok (.iload_n 1, 1) := by decide +kernel
theorem dX4_begins_70 : decode cX4_begins 70 = .ok (.iconst 0, 1) := by decide +kernel
theorem dX4_begins_71 : decode cX4_begins 71 = .ok (.aload_n 0, 1) := by decide +kernel
theorem dX4_begins_72 : decode cX4_begins 72 = .ok (.getfield 7, 3) := by decide +kernel
theorem dX4_begins_75 : decode cX4_begins 75 = .ok (.iconst 4, 1) := by decide +kernel
theorem dX4_begins_76 : decode cX4_begins 76 = .ok (.iaload, 1) := by decide +kernel
theorem dX4_begins_77 : decode cX4_begins 77 = .ok (.invokevirtual 80, 3) := by decide +kernel
theorem dX4_begins_80 : decode cX4_begins 80 = .ok (.aload_n 0, 1) := by decide +kernel
theorem dX4_begins_81 : decode cX4_begins 81 = .ok (.iload_n 1, 1) := by decide +kernel
theorem dX4_begins_82 : decode cX4_begins 82 = .ok (.bipush 17, 2) := by decide +kernel
theorem dX4_begins_84 : decode cX4_begins 84 = .ok (.iload_n 2, 1) := by decide +kernel
theorem dX4_begins_85 : decode cX4_begins 85 = .ok (.invokestatic 65, 3) := by decide +kernel
theorem dX4_begins_88 : decode cX4_begins 88 = .ok (.invokevirtual 80, 3) := by decide +kernel
theorem dX4_begins_91 : decode cX4_begins 91 = .ok (.iconst 0, 1) := by decide +kernel
theorem dX4_begins_92 : decode cX4_begins 92 = .ok (.istore_n 3, 1) := by decide +kernel
theorem dX4_begins_93 : decode cX4_begins 93 = .ok (.iload_n 3, 1) := by decide +kernel
theorem dX4_begins_94 : decode cX4_begins 94 = .ok (.iload_n 2, 1) := by decide +kernel
theorem dX4_begins_95 : decode cX4_begins 95 = .ok (.invokestatic 65, 3) := by decide +kernel
theorem dX4_begins_98 : decode cX4_begins 98 = .ok (.if_icmp .ge 82, 3) := by decide +kernel
theorem dX4_begins_101 : decode cX4_begins 101 = .ok (.iload_n 3, 1) := by decide +kernel
theorem dX4_begins_102 : decode cX4_begins 102 = .ok (.iload_n 2, 1) := by decide +kernel
theorem dX4_begins_103 : decode cX4_begins 103 = .ok (.invokestatic 65, 3) := by decide +kernel
theorem dX4_begins_106 : decode cX4_begins 106 = .ok (.iconst 1, 1) := by decide +kernel
theorem dX4_begins_107 : decode cX4_begins 107 = .ok (.isub, 1) := by decide +kernel
theorem dX4_begins_108 : decode cX4_begins 108 = .ok (.if_icmp .ne 10, 3) := by decide +kernel
theorem dX4_begins_111 : decode cX4_begins 111 = .ok (.iload_n 2, 1) := by decide +kernel
theorem dX4_begins_112 : decode cX4_begins 112 = .ok (.invokestatic 103, 3) := by decide +kernel
theorem dX4_begins_115 : decode cX4_begins 115 = .ok (.goto 9, 3) := by decide +kernel
theorem dX4_begins_118 : decode cX4_begins 118 = .ok (.iload_n 2, 1) := by decide +kernel
theorem dX4_begins_119 : decode cX4_begins 119 = .ok (.iload_n 2, 1) := by decide +kernel
theorem dX4_begins_120 : decode cX4_begins 120 = .ok (.invokestatic 65, 3) := by decide +kernel
theorem dX4_begins_123 : decode cX4_begins 123 = .ok (.idiv, 1) := by decide +kernel
theorem dX4_begins_124 : decode cX4_begins 124 = .ok (.istore 4, 2) := by decide +kernel
theorem dX4_begins_126 : decode cX4_begins 126 = .ok (.aload_n 0, 1) := by decide +kernel
theorem dX4_begins_127 : decode cX4_begins 127 = .ok (.iload_n 1, 1) := by decide +kernel
theorem dX4_begins_128 : decode cX4_begins 128 = .ok (.bipush 18, 2) := by decide +kernel
theorem dX4_begins_130 : decode cX4_begins 130 = .ok (.iload_n 3, 1) := by decide +kernel
theorem dX4_begins_131 : decode cX4_begins 131 = .ok (.iadd, 1) := by decide +kernel
theorem dX4_begins_132 : decode cX4_begins 132 = .ok (.iload 4, 2) := by decide +kernel
theorem dX4_begins_134 : decode cX4_begins 134 = .ok (.invokevirtual 80, 3) := by decide +kernel
theorem dX4_begins_137 : decode cX4_begins 137 = .ok (.aload_n 0, 1) := by decide +kernel
theorem dX4_begins_138 : decode cX4_begins 138 = .ok (.iload_n 1, 1) := by decide +kernel
theorem dX4_begins_139 : decode cX4_begins 139 = .ok (.bipush 22, 2) := by decide +kernel
theorem dX4_begins_141 : decode cX4_begins 141 = .ok (.iload_n 3, 1) := by decide +kernel
theorem dX4_begins_142 : decode cX4_begins 142 = .ok (.iadd, 1) := by decide +kernel
theorem dX4_begins_143 : decode cX4_begins 143 = .ok (.iload 4, 2) := by decide +kernel
theorem dX4_begins_145 : decode cX4_begins 145 = .ok (.invokevirtual 80, 3) := by decide +kernel
theorem dX4_begins_148 : decode cX4_begins 148 = .ok (.aload_n 0, 1) := by decide +kernel
theorem dX4_begins_149 : decode cX4_begins 149 = .ok (.iload_n 1, 1) := by decide +kernel
theorem dX4_begins_150 : decode cX4_begins 150 = .ok (.bipush 26, 2) := by decide +kernel
theorem dX4_begins_152 : decode cX4_begins 152 = .ok (.iload_n 3, 1) := by decide +kernel
theorem dX4_begins_153 : decode cX4_begins 153 = .ok (.iadd, 1) := by decide +kernel
theorem dX4_begins_154 : decode cX4_begins 154 = .ok (.aload_n 0, 1) := by decide +kernel
theorem dX4_begins_155 : decode cX4_begins 155 = .ok (.getfield 7, 3) := by decide +kernel
theorem dX4_begins_158 : decode cX4_begins 158 = .ok (.iconst 4, 1) := by decide +kernel
theorem dX4_begins_159 : decode cX4_begins 159 = .ok (.iaload, 1) := by decide +kernel
theorem dX4_begins_160 : decode cX4_begins 160 = .ok (.iload_n 3, 1) := by decide +kernel
theorem dX4_begins_161 : decode cX4_begins 161 = .ok (.iconst 1, 1) := by decide +kernel
theorem dX4_begins_162 : decode cX4_begins 162 = .ok (.iadd, 1) := by decide +kernel
theorem dX4_begins_163 : decode cX4_begins 163 = .ok (.aload_n 0, 1) := by decide +kernel
theorem dX4_begins_164 : decode cX4_begins 164 = .ok (.getfield 7, 3) := by decide +kernel
theorem dX4_begins_167 : decode cX4_begins 167 = .ok (.iconst 0, 1) := by decide +kernel
theorem dX4_begins_168 : decode cX4_begins 168 = .ok (.iaload, 1) := by decide +kernel
theorem dX4_begins_169 : decode cX4_begins 169 = .ok (.imul, 1) := by decide +kernel
theorem dX4_begins_170 : decode cX4_begins 170 = .ok (.iadd, 1) := by decide +kernel
theorem dX4_begins_171 : decode cX4_begins 171 = .ok (.invokevirtual 80, 3) := by decide +kernel
theorem dX4_begins_174 : decode cX4_begins 174 = .ok (.iinc 3 1, 3) := by decide +kernel
theorem dX4_begins_177 : decode cX4_begins 177 = .ok (.goto (-84), 3) := by decide +kernel
theorem dX4_begins_180 : decode cX4_begins 180 = .ok (.iload_n 2, 1) := by decide +kernel
theorem dX4_begins_181 : decode cX4_begins 181 = .ok (.ireturn, 1) := by decide +kernel
theorem dX4_begin_0 : decode cX4_begin 0 = .ok (.aload_n 0, 1) := by decide +kernel
theorem dX4_begin_1 : decode cX4_begin 1 = .ok (.aload_n 0, 1) := by decide +kernel
theorem dX4_begin_2 : decode cX4_begin 2 = .ok (.iload_n 1, 1) := by decide +kernel
theorem dX4_begin_3 : decode cX4_begin 3 = .ok (.invokevirtual 84, 3) := by decide +kernel
theorem dX4_begin_6 : decode cX4_begin 6 = .ok (.ifCond .ne 7, 3) := by decide +kernel
theorem dX4_begin_9 : decode cX4_begin 9 = .ok (.iconst 1, 1) := by decide +kernel
theorem dX4_begin_10 : decode cX4_begin 10 = .ok (.goto 16, 3) := by decide +kernel
theorem dX4_begin_13 : decode cX4_begin 13 = .ok (.aload_n 0, 1) := by decide +kernel
theorem dX4_begin_14 : decode cX4_begin 14 = .ok (.iload_n 1, 1) := by decide +kernel
theorem dX4_begin_15 : decode cX4_begin 15 = .ok (.invokevirtual 106, 3) := by decide +kernel
theorem dX4_begin_18 : decode cX4_begin 18 = .ok (.ifCond .ne 7, 3) := by decide +kernel
theorem dX4_begin_21 : decode cX4_begin 21 = .ok (.iconst 0, 1) := by decide +kernel
theorem dX4_begin_22 : decode cX4_begin 22 = .ok (.goto 4, 3) := by decide +kernel
theorem dX4_begin_25 : decode cX4_begin 25 = .ok (.iconst 2, 1) := by decide +kernel
theorem dX4_begin_26 : decode cX4_begin 26 = .ok (.putfield 25, 3) := by decide +kernel
theorem dX4_begin_29 : decode cX4_begin 29 = .ok (.aload_n 0, 1) := by decide +kernel
theorem dX4_begin_30 : decode cX4_begin 30 = .ok (.getfield 25, 3) := by decide +kernel
theorem dX4_begin_33 : decode cX4_begin 33 = .ok (.ifCond .le 5, 3) := by decide +kernel
theorem dX4_begin_36 : decode cX4_begin 36 = .ok (.iconst 0, 1) := by decide +kernel
theorem dX4_begin_37 : decode cX4_begin 37 = .ok (.ireturn, 1) := by decide +kernel
theorem dX4_begin_38 : decode cX4_begin 38 = .ok (.aload_n 0, 1) := by decide +kernel
theorem dX4_begin_39 : decode cX4_begin 39 = .ok (.invokevirtual 77, 3) := by decide +kernel
theorem dX4_begin_42 : decode cX4_begin 42 = .ok (.aload_n 0, 1) := by decide +kernel
theorem dX4_begin_43 : decode cX4_begin 43 = .ok (.iload_n 1, 1) := by decide +kernel
theorem dX4_begin_44 : decode cX4_begin 44 = .ok (.invokevirtual 109, 3) := by decide +kernel
theorem dX4_begin_47 : decode cX4_begin 47 = .ok (.ireturn, 1) := by decide +kernel
theorem dX4_settle_0 : decode cX4_settle 0 = .ok (.aload_n 0, 1) := by decide +kernel
theorem dX4_settle_1 : decode cX4_settle 1 = .ok (.iload_n 1, 1) := by decide +kernel
theorem dX4_settle_2 : decode cX4_settle 2 = .ok (.iload_n 2, 1) := by decide +kernel
theorem dX4_settle_3 : decode cX4_settle 3 = .ok (.invokevirtual 36, 3) := by decide +kernel
theorem dX4_settle_6 : decode cX4_settle 6 = .ok (.iload_n 3, 1) := by decide +kernel
theorem dX4_settle_7 : decode cX4_settle 7 = .ok (.if_icmp .ge 12, 3) := by decide +kernel
theorem dX4_settle_10 : decode cX4_settle 10 = .ok (.aload_n 0, 1) := by decide +kernel
theorem dX4_settle_11 : decode cX4_settle 11 = .ok (.iload_n 1, 1) := by decide +kernel
theorem dX4_settle_12 : decode cX4_settle 12 = .ok (.iload_n 2, 1) := by decide +kernel
theorem dX4_settle_13 : decode cX4_settle 13 = .ok (.invokevirtual 36, 3) := by decide +kernel
theorem dX4_settle_16 : decode cX4_settle 16 = .ok (.goto 4, 3) := by decide +kernel
theorem dX4_settle_19 : decode cX4_settle 19 = .ok (.iload_n 3, 1) := by decide +kernel
theorem dX4_settle_20 : decode cX4_settle 20 = .ok (.istore 4, 2) := by decide +kernel
theorem dX4_settle_22 : decode cX4_settle 22 = .ok (.aload_n 0, 1) := by decide +kernel
theorem dX4_settle_23 : decode cX4_settle 23 = .ok (.iload_n 1, 1) := by decide +kernel
theorem dX4_settle_24 : decode cX4_settle 24 = .ok (.iload_n 2, 1) := by decide +kernel
theorem dX4_settle_25 : decode cX4_settle 25 = .ok (.iload 4, 2) := by decide +kernel
theorem dX4_settle_27 : decode cX4_settle 27 = .ok (.ineg, 1) := by decide +kernel
theorem dX4_settle_28 : decode cX4_settle 28 = .ok (.invokevirtual 112, 3) := by decide +kernel
theorem dX4_settle_31 : decode cX4_settle 31 = .ok (.iload_n 3, 1) := by decide +kernel
theorem dX4_settle_32 : decode cX4_settle 32 = .ok (.iload 4, 2) := by decide +kernel
theorem dX4_settle_34 : decode cX4_settle 34 = .ok (.isub, 1) := by decide +kernel
theorem dX4_settle_35 : decode cX4_settle 35 = .ok (.ireturn, 1) := by decide +kernel
theorem dX4_takes_0 : decode cX4_takes 0 = .ok (.iload_n 2, 1) := by decide +kernel
theorem dX4_takes_1 : decode cX4_takes 1 = .ok (.istore 4, 2) := by decide +kernel
theorem dX4_takes_3 : decode cX4_takes 3 = .ok (.iconst 0, 1) := by decide +kernel
theorem dX4_takes_4 : decode cX4_takes 4 = .ok (.istore 5, 2) := by decide +kernel
theorem dX4_takes_6 : decode cX4_takes 6 = .ok (.iload 5, 2) := by decide +kernel
theorem dX4_takes_8 : decode cX4_takes 8 = .ok (.aload_n 0, 1) := by decide +kernel
theorem dX4_takes_9 : decode cX4_takes 9 = .ok (.iload_n 1, 1) := by decide +kernel
theorem dX4_takes_10 : decode cX4_takes 10 = .ok (.bipush 17, 2) := by decide +kernel
theorem dX4_takes_12 : decode cX4_takes 12 = .ok (.invokevirtual 36, 3) := by decide +kernel
theorem dX4_takes_15 : decode cX4_takes 15 = .ok (.if_icmp .ge 23, 3) := by decide +kernel
theorem dX4_takes_18 : decode cX4_takes 18 = .ok (.aload_n 0, 1) := by decide +kernel
theorem dX4_takes_19 : decode cX4_takes 19 = .ok (.iload_n 1, 1) := by decide +kernel
theorem dX4_takes_20 : decode cX4_takes 20 = .ok (.bipush 22, 2) := by decide +kernel
theorem dX4_takes_22 : decode cX4_takes 22 = .ok (.iload 5, 2) := by decide +kernel
theorem dX4_takes_24 : decode cX4_takes 24 = .ok (.iadd, 1) := by decide +kernel
theorem dX4_takes_25 : decode cX4_takes 25 = .ok (.iload 4, 2) := by decide +kernel
theorem dX4_takes_27 : decode cX4_takes 27 = .ok (.invokevirtual 115, 3) := by decide +kernel
theorem dX4_takes_30 : decode cX4_takes 30 = .ok (.istore 4, 2) := by decide +kernel
theorem dX4_takes_32 : decode cX4_takes 32 = .ok (.iinc 5 1, 3) := by decide +kernel
theorem dX4_takes_35 : decode cX4_takes 35 = .ok (.goto (-29), 3) := by decide +kernel
theorem dX4_takes_38 : decode cX4_takes 38 = .ok (.aload_n 0, 1) := by decide +kernel
theorem dX4_takes_39 : decode cX4_takes 39 = .ok (.iload_n 1, 1) := by decide +kernel
theorem dX4_takes_40 : decode cX4_takes 40 = .ok (.bipush 30, 2) := by decide +kernel
theorem dX4_takes_42 : decode cX4_takes 42 = .ok (.iload 4, 2) := by decide +kernel
theorem dX4_takes_44 : decode cX4_takes 44 = .ok (.invokevirtual 115, 3) := by decide +kernel
theorem dX4_takes_47 : decode cX4_takes 47 = .ok (.istore 4, 2) := by decide +kernel
theorem dX4_takes_49 : decode cX4_takes 49 = .ok (.aload_n 0, 1) := by decide +kernel
theorem dX4_takes_50 : decode cX4_takes 50 = .ok (.iload_n 1, 1) := by decide +kernel
theorem dX4_takes_51 : decode cX4_takes 51 = .ok (.bipush 33, 2) := by decide +kernel
theorem dX4_takes_53 : decode cX4_takes 53 = .ok (.iload 4, 2) := by decide +kernel
theorem dX4_takes_55 : decode cX4_takes 55 = .ok (.invokevirtual 115, 3) := by decide +kernel
theorem dX4_takes_58 : decode cX4_takes 58 = .ok (.istore 4, 2) := by decide +kernel
theorem dX4_takes_60 : decode cX4_takes 60 = .ok (.aload_n 0, 1) := by decide +kernel
theorem dX4_takes_61 : decode cX4_takes 61 = .ok (.iload_n 1, 1) := by decide +kernel
theorem dX4_takes_62 : decode cX4_takes 62 = .ok (.iload_n 3, 1) := by decide +kernel
theorem dX4_takes_63 : decode cX4_takes 63 = .ok (.iload_n 2, 1) := by decide +kernel
theorem dX4_takes_64 : decode cX4_takes 64 = .ok (.iload 4, 2) := by decide +kernel
theorem dX4_takes_66 : decode cX4_takes 66 = .ok (.isub, 1) := by decide +kernel
theorem dX4_takes_67 : decode cX4_takes 67 = .ok (.invokevirtual 112, 3) := by decide +kernel
theorem dX4_takes_70 : decode cX4_takes 70 = .ok (.iload_n 2, 1) := by decide +kernel
theorem dX4_takes_71 : decode cX4_takes 71 = .ok (.iload 4, 2) := by decide +kernel
theorem dX4_takes_73 : decode cX4_takes 73 = .ok (.isub, 1) := by decide +kernel
theorem dX4_takes_74 : decode cX4_takes 74 = .ok (.ireturn, 1) := by decide +kernel
theorem dX4_isMoney_0 : decode cX4_isMoney 0 = .ok (.iload_n 0, 1) := by decide +kernel
theorem dX4_isMoney_1 : decode cX4_isMoney 1 = .ok (.iconst 1, 1) := by decide +kernel
theorem dX4_isMoney_2 : decode cX4_isMoney 2 = .ok (.ldc 119, 2) := by decide +kernel
theorem dX4_isMoney_4 : decode cX4_isMoney 4 = .ok (.invokestatic 32, 3) := by decide +kernel
theorem dX4_isMoney_7 : decode cX4_isMoney 7 = .ok (.ireturn, 1) := by decide +kernel
theorem dX4_pay_0 : decode cX4_pay 0 = .ok (.aload_n 0, 1) := by decide +kernel
theorem dX4_pay_1 : decode cX4_pay 1 = .ok (.aload_n 0, 1) := by decide +kernel
theorem dX4_pay_2 : decode cX4_pay 2 = .ok (.iload_n 1, 1) := by decide +kernel
theorem dX4_pay_3 : decode cX4_pay 3 = .ok (.invokevirtual 84, 3) := by decide +kernel
theorem dX4_pay_6 : decode cX4_pay 6 = .ok (.ifCond .ne 7, 3) := by decide +kernel
theorem dX4_pay_9 : decode cX4_pay 9 = .ok (.iconst 1, 1) := by decide +kernel
theorem dX4_pay_10 : decode cX4_pay 10 = .ok (.goto 27, 3) := by decide +kernel
theorem dX4_pay_13 : decode cX4_pay 13 = .ok (.iload_n 2, 1) := by decide +kernel
theorem dX4_pay_14 : decode cX4_pay 14 = .ok (.invokestatic 120, 3) := by decide +kernel
theorem dX4_pay_17 : decode cX4_pay 17 = .ok (.ifCond .ne 7, 3) := by decide +kernel
theorem dX4_pay_20 : decode cX4_pay 20 = .ok (.iconst 2, 1) := by decide +kernel
theorem dX4_pay_21 : decode cX4_pay 21 = .ok (.goto 16, 3) := by decide +kernel
theorem dX4_pay_24 : decode cX4_pay 24 = .ok (.aload_n 0, 1) := by decide +kernel
theorem dX4_pay_25 : decode cX4_pay 25 = .ok (.iload_n 1, 1) := by decide +kernel
theorem dX4_pay_26 : decode cX4_pay 26 = .ok (.invokevirtual 71, 3) := by decide +kernel
theorem dX4_pay_29 : decode cX4_pay 29 = .ok (.ifCond .ne 7, 3) := by decide +kernel
theorem dX4_pay_32 : decode cX4_pay 32 = .ok (.iconst 0, 1) := by decide +kernel
theorem dX4_pay_33 : decode cX4_pay 33 = .ok (.goto 4, 3) := by decide +kernel
theorem dX4_pay_36 : decode cX4_pay 36 = .ok (.iconst 3, 1) := by decide +kernel
theorem dX4_pay_37 : decode cX4_pay 37 = .ok (.putfield 25, 3) := by decide +kernel
theorem dX4_pay_40 : decode cX4_pay 40 = .ok (.aload_n 0, 1) := by decide +kernel
theorem dX4_pay_41 : decode cX4_pay 41 = .ok (.getfield 25, 3) := by decide +kernel
theorem dX4_pay_44 : decode cX4_pay 44 = .ok (.ifCond .le 5, 3) := by decide +kernel
theorem dX4_pay_47 : decode cX4_pay 47 = .ok (.iconst 0, 1) := by decide +kernel
theorem dX4_pay_48 : decode cX4_pay 48 = .ok (.ireturn, 1) := by decide +kernel
theorem dX4_pay_49 : decode cX4_pay 49 = .ok (.aload_n 0, 1) := by decide +kernel
theorem dX4_pay_50 : decode cX4_pay 50 = .ok (.invokevirtual 77, 3) := by decide +kernel
theorem dX4_pay_53 : decode cX4_pay 53 = .ok (.aload_n 0, 1) := by decide +kernel
theorem dX4_pay_54 : decode cX4_pay 54 = .ok (.iload_n 1, 1) := by decide +kernel
theorem dX4_pay_55 : decode cX4_pay 55 = .ok (.iload_n 2, 1) := by decide +kernel
theorem dX4_pay_56 : decode cX4_pay 56 = .ok (.bipush 34, 2) := by decide +kernel
theorem dX4_pay_58 : decode cX4_pay 58 = .ok (.invokevirtual 123, 3) := by decide +kernel
theorem dX4_pay_61 : decode cX4_pay 61 = .ok (.ireturn, 1) := by decide +kernel
theorem dX4_land_0 : decode cX4_land 0 = .ok (.aload_n 0, 1) := by decide +kernel
theorem dX4_land_1 : decode cX4_land 1 = .ok (.aload_n 0, 1) := by decide +kernel
theorem dX4_land_2 : decode cX4_land 2 = .ok (.iload_n 1, 1) := by decide +kernel
theorem dX4_land_3 : decode cX4_land 3 = .ok (.invokevirtual 84, 3) := by decide +kernel
theorem dX4_land_6 : decode cX4_land 6 = .ok (.ifCond .ne 7, 3) := by decide +kernel
theorem dX4_land_9 : decode cX4_land 9 = .ok (.iconst 1, 1) := by decide +kernel
theorem dX4_land_10 : decode cX4_land 10 = .ok (.goto 27, 3) := by decide +kernel
theorem dX4_land_13 : decode cX4_land 13 = .ok (.iload_n 2, 1) := by decide +kernel
theorem dX4_land_14 : decode cX4_land 14 = .ok (.invokestatic 120, 3) := by decide +kernel
theorem dX4_land_17 : decode cX4_land 17 = .ok (.ifCond .ne 7, 3) := by decide +kernel
theorem dX4_land_20 : decode cX4_land 20 = .ok (.iconst 2, 1) := by decide +kernel
theorem dX4_land_21 : decode cX4_land 21 = .ok (.goto 16, 3) := by decide +kernel
theorem dX4_land_24 : decode cX4_land 24 = .ok (.aload_n 0, 1) := by decide +kernel
theorem dX4_land_25 : decode cX4_land 25 = .ok (.iload_n 1, 1) := by decide +kernel
theorem dX4_land_26 : decode cX4_land 26 = .ok (.invokevirtual 126, 3) := by decide +kernel
theorem dX4_land_29 : decode cX4_land 29 = .ok (.ifCond .ne 7, 3) := by decide +kernel
theorem dX4_land_32 : decode cX4_land 32 = .ok (.iconst 0, 1) := by decide +kernel
theorem dX4_land_33 : decode cX4_land 33 = .ok (.goto 4, 3) := by decide +kernel
theorem dX4_land_36 : decode cX4_land 36 = .ok (.iconst 3, 1) := by decide +kernel
theorem dX4_land_37 : decode cX4_land 37 = .ok (.putfield 25, 3) := by decide +kernel
theorem dX4_land_40 : decode cX4_land 40 = .ok (.aload_n 0, 1) := by decide +kernel
theorem dX4_land_41 : decode cX4_land 41 = .ok (.getfield 25, 3) := by decide +kernel
theorem dX4_land_44 : decode cX4_land 44 = .ok (.ifCond .le 5, 3) := by decide +kernel
theorem dX4_land_47 : decode cX4_land 47 = .ok (.iconst 0, 1) := by decide +kernel
theorem dX4_land_48 : decode cX4_land 48 = .ok (.ireturn, 1) := by decide +kernel
theorem dX4_land_49 : decode cX4_land 49 = .ok (.aload_n 0, 1) := by decide +kernel
theorem dX4_land_50 : decode cX4_land 50 = .ok (.invokevirtual 77, 3) := by decide +kernel
theorem dX4_land_53 : decode cX4_land 53 = .ok (.aload_n 0, 1) := by decide +kernel
theorem dX4_land_54 : decode cX4_land 54 = .ok (.iload_n 1, 1) := by decide +kernel
theorem dX4_land_55 : decode cX4_land 55 = .ok (.invokevirtual 74, 3) := by decide +kernel
theorem dX4_land_58 : decode cX4_land 58 = .ok (.istore_n 3, 1) := by decide +kernel
theorem dX4_land_59 : decode cX4_land 59 = .ok (.aload_n 0, 1) := by decide +kernel
theorem dX4_land_60 : decode cX4_land 60 = .ok (.iload_n 1, 1) := by decide +kernel
theorem dX4_land_61 : decode cX4_land 61 = .ok (.iload_n 2, 1) := by decide +kernel
theorem dX4_land_62 : decode cX4_land 62 = .ok (.iload_n 3, 1) := by decide +kernel
theorem dX4_land_63 : decode cX4_land 63 = .ok (.if_icmp .ge 7, 3) := by decide +kernel
theorem dX4_land_66 : decode cX4_land 66 = .ok (.iload_n 2, 1) := by decide +kernel
theorem dX4_land_67 : decode cX4_land 67 = .ok (.goto 4, 3) := by decide +kernel
theorem dX4_land_70 : decode cX4_land 70 = .ok (.iload_n 3, 1) := by decide +kernel
theorem dX4_land_71 : decode cX4_land 71 = .ok (.bipush 35, 2) := by decide +kernel
theorem dX4_land_73 : decode cX4_land 73 = .ok (.invokevirtual 123, 3) := by decide +kernel
theorem dX4_land_76 : decode cX4_land 76 = .ok (.ireturn, 1) := by decide +kernel
theorem dX4_lapse_0 : decode cX4_lapse 0 = .ok (.aload_n 0, 1) := by decide +kernel
theorem dX4_lapse_1 : decode cX4_lapse 1 = .ok (.aload_n 0, 1) := by decide +kernel
theorem dX4_lapse_2 : decode cX4_lapse 2 = .ok (.iload_n 1, 1) := by decide +kernel
theorem dX4_lapse_3 : decode cX4_lapse 3 = .ok (.invokevirtual 84, 3) := by decide +kernel
theorem dX4_lapse_6 : decode cX4_lapse 6 = .ok (.ifCond .eq 10, 3) := by decide +kernel
theorem dX4_lapse_9 : decode cX4_lapse 9 = .ok (.iload_n 2, 1) := by decide +kernel
theorem dX4_lapse_10 : decode cX4_lapse 10 = .ok (.invokestatic 87, 3) := by decide +kernel
theorem dX4_lapse_13 : decode cX4_lapse 13 = .ok (.ifCond .ne 7, 3) := by decide +kernel
theorem dX4_lapse_16 : decode cX4_lapse 16 = .ok (.iconst 1, 1) := by decide +kernel
theorem dX4_lapse_17 : decode cX4_lapse 17 = .ok (.goto 17, 3) := by decide +kernel
theorem dX4_lapse_20 : decode cX4_lapse 20 = .ok (.aload_n 0, 1) := by decide +kernel
theorem dX4_lapse_21 : decode cX4_lapse 21 = .ok (.iload_n 1, 1) := by decide +kernel
theorem dX4_lapse_22 : decode cX4_lapse 22 = .ok (.iload_n 2, 1) := by decide +kernel
theorem dX4_lapse_23 : decode cX4_lapse 23 = .ok (.invokevirtual 129, 3) := by decide +kernel
theorem dX4_lapse_26 : decode cX4_lapse 26 = .ok (.ifCond .ne 7, 3) := by decide +kernel
theorem dX4_lapse_29 : decode cX4_lapse 29 = .ok (.iconst 0, 1) := by decide +kernel
theorem dX4_lapse_30 : decode cX4_lapse 30 = .ok (.goto 4, 3) := by decide +kernel
theorem dX4_lapse_33 : decode cX4_lapse 33 = .ok (.iconst 2, 1) := by decide +kernel
theorem dX4_lapse_34 : decode cX4_lapse 34 = .ok (.putfield 25, 3) := by decide +kernel
theorem dX4_lapse_37 : decode cX4_lapse 37 = .ok (.aload_n 0, 1) := by decide +kernel
theorem dX4_lapse_38 : decode cX4_lapse 38 = .ok (.getfield 25, 3) := by decide +kernel
theorem dX4_lapse_41 : decode cX4_lapse 41 = .ok (.ifCond .le 5, 3) := by decide +kernel
theorem dX4_lapse_44 : decode cX4_lapse 44 = .ok (.iconst 0, 1) := by decide +kernel
theorem dX4_lapse_45 : decode cX4_lapse 45 = .ok (.ireturn, 1) := by decide +kernel
theorem dX4_lapse_46 : decode cX4_lapse 46 = .ok (.aload_n 0, 1) := by decide +kernel
theorem dX4_lapse_47 : decode cX4_lapse 47 = .ok (.invokevirtual 77, 3) := by decide +kernel
theorem dX4_lapse_50 : decode cX4_lapse 50 = .ok (.aload_n 0, 1) := by decide +kernel
theorem dX4_lapse_51 : decode cX4_lapse 51 = .ok (.iload_n 1, 1) := by decide +kernel
theorem dX4_lapse_52 : decode cX4_lapse 52 = .ok (.bipush 13, 2) := by decide +kernel
theorem dX4_lapse_54 : decode cX4_lapse 54 = .ok (.iload_n 2, 1) := by decide +kernel
theorem dX4_lapse_55 : decode cX4_lapse 55 = .ok (.iadd, 1) := by decide +kernel
theorem dX4_lapse_56 : decode cX4_lapse 56 = .ok (.invokevirtual 36, 3) := by decide +kernel
theorem dX4_lapse_59 : decode cX4_lapse 59 = .ok (.istore_n 3, 1) := by decide +kernel
theorem dX4_lapse_60 : decode cX4_lapse 60 = .ok (.aload_n 0, 1) := by decide +kernel
theorem dX4_lapse_61 : decode cX4_lapse 61 = .ok (.iload_n 1, 1) := by decide +kernel
theorem dX4_lapse_62 : decode cX4_lapse 62 = .ok (.bipush 13, 2) := by decide +kernel
theorem dX4_lapse_64 : decode cX4_lapse 64 = .ok (.iload_n 2, 1) := by decide +kernel
theorem dX4_lapse_65 : decode cX4_lapse 65 = .ok (.iadd, 1) := by decide +kernel
theorem dX4_lapse_66 : decode cX4_lapse 66 = .ok (.iconst 0, 1) := by decide +kernel
theorem dX4_lapse_67 : decode cX4_lapse 67 = .ok (.invokevirtual 80, 3) := by decide +kernel
theorem dX4_lapse_70 : decode cX4_lapse 70 = .ok (.aload_n 0, 1) := by decide +kernel
theorem dX4_lapse_71 : decode cX4_lapse 71 = .ok (.iload_n 1, 1) := by decide +kernel
theorem dX4_lapse_72 : decode cX4_lapse 72 = .ok (.bipush 31, 2) := by decide +kernel
theorem dX4_lapse_74 : decode cX4_lapse 74 = .ok (.iload_n 3, 1) := by decide +kernel
theorem dX4_lapse_75 : decode cX4_lapse 75 = .ok (.invokevirtual 112, 3) := by decide +kernel
theorem dX4_lapse_78 : decode cX4_lapse 78 = .ok (.aload_n 0, 1) := by decide +kernel
theorem dX4_lapse_79 : decode cX4_lapse 79 = .ok (.iload_n 1, 1) := by decide +kernel
theorem dX4_lapse_80 : decode cX4_lapse 80 = .ok (.bipush 30, 2) := by decide +kernel
theorem dX4_lapse_82 : decode cX4_lapse 82 = .ok (.iload_n 3, 1) := by decide +kernel
theorem dX4_lapse_83 : decode cX4_lapse 83 = .ok (.invokevirtual 112, 3) := by decide +kernel
theorem dX4_lapse_86 : decode cX4_lapse 86 = .ok (.iload_n 3, 1) := by decide +kernel
theorem dX4_lapse_87 : decode cX4_lapse 87 = .ok (.ireturn, 1) := by decide +kernel
theorem dX4_firstDue_0 : decode cX4_firstDue 0 = .ok (.iconst 0, 1) := by decide +kernel
theorem dX4_firstDue_1 : decode cX4_firstDue 1 = .ok (.istore_n 2, 1) := by decide +kernel
theorem dX4_firstDue_2 : decode cX4_firstDue 2 = .ok (.iload_n 2, 1) := by decide +kernel
theorem dX4_firstDue_3 : decode cX4_firstDue 3 = .ok (.aload_n 0, 1) := by decide +kernel
theorem dX4_firstDue_4 : decode cX4_firstDue 4 = .ok (.iload_n 1, 1) := by decide +kernel
theorem dX4_firstDue_5 : decode cX4_firstDue 5 = .ok (.bipush 17, 2) := by decide +kernel
theorem dX4_firstDue_7 : decode cX4_firstDue 7 = .ok (.invokevirtual 36, 3) := by decide +kernel
theorem dX4_firstDue_10 : decode cX4_firstDue 10 = .ok (.if_icmp .ge 31, 3) := by decide +kernel
theorem dX4_firstDue_13 : decode cX4_firstDue 13 = .ok (.aload_n 0, 1) := by decide +kernel
theorem dX4_firstDue_14 : decode cX4_firstDue 14 = .ok (.iload_n 1, 1) := by decide +kernel
theorem dX4_firstDue_15 : decode cX4_firstDue 15 = .ok (.bipush 22, 2) := by decide +kernel
theorem dX4_firstDue_17 : decode cX4_firstDue 17 = .ok (.iload_n 2, 1) := by decide +kernel
theorem dX4_firstDue_18 : decode cX4_firstDue 18 = .ok (.iadd, 1) := by decide +kernel
theorem dX4_firstDue_19 : decode cX4_firstDue 19 = .ok (.invokevirtual 36, 3) := by decide +kernel
theorem dX4_firstDue_22 : decode cX4_firstDue 22 = .ok (.ifCond .le 13, 3) := by decide +kernel
theorem dX4_firstDue_25 : decode cX4_firstDue 25 = .ok (.aload_n 0, 1) := by decide +kernel
theorem dX4_firstDue_26 : decode cX4_firstDue 26 = .ok (.iload_n 1, 1) := by decide +kernel
theorem dX4_firstDue_27 : decode cX4_firstDue 27 = .ok (.bipush 26, 2) := by decide +kernel
theorem dX4_firstDue_29 : decode cX4_firstDue 29 = .ok (.iload_n 2, 1) := by decide +kernel
theorem dX4_firstDue_30 : decode cX4_firstDue 30 = .ok (.iadd, 1) := by decide +kernel
theorem dX4_firstDue_31 : decode cX4_firstDue 31 = .ok (.invokevirtual 36, 3) := by decide +kernel
theorem dX4_firstDue_34 : decode cX4_firstDue 34 = .ok (.ireturn, 1) := by decide +kernel
theorem dX4_firstDue_35 : decode cX4_firstDue 35 = .ok (.iinc 2 1, 3) := by decide +kernel
theorem dX4_firstDue_38 : decode cX4_firstDue 38 = .ok (.goto (-36), 3) := by decide +kernel
theorem dX4_firstDue_41 : decode cX4_firstDue 41 = .ok (.iconst (-1), 1) := by decide +kernel
theorem dX4_firstDue_42 : decode cX4_firstDue 42 = .ok (.ireturn, 1) := by decide +kernel
theorem dX4_canBreak_0 : decode cX4_canBreak 0 = .ok (.aload_n 0, 1) := by decide +kernel
theorem dX4_canBreak_1 : decode cX4_canBreak 1 = .ok (.iload_n 1, 1) := by decide +kernel
theorem dX4_canBreak_2 : decode cX4_canBreak 2 = .ok (.invokevirtual 40, 3) := by decide +kernel
theorem dX4_canBreak_5 : decode cX4_canBreak 5 = .ok (.ifCond .eq 26, 3) := by decide +kernel
theorem dX4_canBreak_8 : decode cX4_canBreak 8 = .ok (.aload_n 0, 1) := by decide +kernel
theorem dX4_canBreak_9 : decode cX4_canBreak 9 = .ok (.iload_n 1, 1) := by decide +kernel
theorem dX4_canBreak_10 : decode cX4_canBreak 10 = .ok (.bipush 36, 2) := by decide +kernel
theorem dX4_canBreak_12 : decode cX4_canBreak 12 = .ok (.invokevirtual 36, 3) := by decide +kernel
theorem dX4_canBreak_15 : decode cX4_canBreak 15 = .ok (.ifCond .ne 16, 3) := by decide +kernel
theorem dX4_canBreak_18 : decode cX4_canBreak 18 = .ok (.aload_n 0, 1) := by decide +kernel
theorem dX4_canBreak_19 : decode cX4_canBreak 19 = .ok (.iload_n 1, 1) := by decide +kernel
theorem dX4_canBreak_20 : decode cX4_canBreak 20 = .ok (.invokevirtual 132, 3) := by decide +kernel
theorem dX4_canBreak_23 : decode cX4_canBreak 23 = .ok (.iconst (-1), 1) := by decide +kernel
theorem dX4_canBreak_24 : decode cX4_canBreak 24 = .ok (.if_icmp .eq 7, 3) := by decide +kernel
theorem dX4_canBreak_27 : decode cX4_canBreak 27 = .ok (.iconst 1, 1) := by decide +kernel
theorem dX4_canBreak_28 : decode cX4_canBreak 28 = .ok (.goto 4, 3) := by decide +kernel
theorem dX4_canBreak_31 : decode cX4_canBreak 31 = .ok (.iconst 0, 1) := by decide +kernel
theorem dX4_canBreak_32 : decode cX4_canBreak 32 = .ok (.ireturn, 1) := by decide +kernel
theorem dX4_dayPasses_0 : decode cX4_dayPasses 0 = .ok (.aload_n 0, 1) := by decide +kernel
theorem dX4_dayPasses_1 : decode cX4_dayPasses 1 = .ok (.getfield 7, 3) := by decide +kernel
theorem dX4_dayPasses_4 : decode cX4_dayPasses 4 = .ok (.iconst 4, 1) := by decide +kernel
theorem dX4_dayPasses_5 : decode cX4_dayPasses 5 = .ok (.dup2, 1) := by decide +kernel
theorem dX4_dayPasses_6 : decode cX4_dayPasses 6 = .ok (.iaload, 1) := by decide +kernel
theorem dX4_dayPasses_7 : decode cX4_dayPasses 7 = .ok (.iconst 1, 1) := by decide +kernel
theorem dX4_dayPasses_8 : decode cX4_dayPasses 8 = .ok (.iadd, 1) := by decide +kernel
theorem dX4_dayPasses_9 : decode cX4_dayPasses 9 = .ok (.iastore, 1) := by decide +kernel
theorem dX4_dayPasses_10 : decode cX4_dayPasses 10 = .ok (.iconst 0, 1) := by decide +kernel
theorem dX4_dayPasses_11 : decode cX4_dayPasses 11 = .ok (.istore_n 1, 1) := by decide +kernel
theorem dX4_dayPasses_12 : decode cX4_dayPasses 12 = .ok (.iconst 0, 1) := by decide +kernel
theorem dX4_dayPasses_13 : decode cX4_dayPasses 13 = .ok (.istore_n 2, 1) := by decide +kernel
theorem dX4_dayPasses_14 : decode cX4_dayPasses 14 = .ok (.iload_n 2, 1) := by decide +kernel
theorem dX4_dayPasses_15 : decode cX4_dayPasses 15 = .ok (.aload_n 0, 1) := by decide +kernel
theorem dX4_dayPasses_16 : decode cX4_dayPasses 16 = .ok (.getfield 7, 3) := by decide +kernel
theorem dX4_dayPasses_19 : decode cX4_dayPasses 19 = .ok (.bipush 9, 2) := by decide +kernel
theorem dX4_dayPasses_21 : decode cX4_dayPasses 21 = .ok (.iaload, 1) := by decide +kernel
theorem dX4_dayPasses_22 : decode cX4_dayPasses 22 = .ok (.if_icmp .ge 79, 3) := by decide +kernel
theorem dX4_dayPasses_25 : decode cX4_dayPasses 25 = .ok (.aload_n 0, 1) := by decide +kernel
theorem dX4_dayPasses_26 : decode cX4_dayPasses 26 = .ok (.iload_n 2, 1) := by decide +kernel
theorem dX4_dayPasses_27 : decode cX4_dayPasses 27 = .ok (.invokevirtual 135, 3) := by decide +kernel
theorem dX4_dayPasses_30 : decode cX4_dayPasses 30 = .ok (.ifCond .eq 65, 3) := by decide +kernel
theorem dX4_dayPasses_33 : decode cX4_dayPasses 33 = .ok (.aload_n 0, 1) := by decide +kernel
theorem dX4_dayPasses_34 : decode cX4_dayPasses 34 = .ok (.getfield 7, 3) := by decide +kernel
theorem dX4_dayPasses_37 : decode cX4_dayPasses 37 = .ok (.iconst 4, 1) := by decide +kernel
theorem dX4_dayPasses_38 : decode cX4_dayPasses 38 = .ok (.iaload, 1) := by decide +kernel
theorem dX4_dayPasses_39 : decode cX4_dayPasses 39 = .ok (.aload_n 0, 1) := by decide +kernel
theorem dX4_dayPasses_40 : decode cX4_dayPasses 40 = .ok (.iload_n 2, 1) := by decide +kernel
theorem dX4_dayPasses_41 : decode cX4_dayPasses 41 = .ok (.invokevirtual 132, 3) := by decide +kernel
theorem dX4_dayPasses_44 : decode cX4_dayPasses 44 = .ok (.if_icmp .le 51, 3) := by decide +kernel
theorem dX4_dayPasses_47 : decode cX4_dayPasses 47 = .ok (.aload_n 0, 1) := by decide +kernel
theorem dX4_dayPasses_48 : decode cX4_dayPasses 48 = .ok (.iload_n 2, 1) := by decide +kernel
theorem dX4_dayPasses_49 : decode cX4_dayPasses 49 = .ok (.invokevirtual 53, 3) := by decide +kernel
theorem dX4_dayPasses_52 : decode cX4_dayPasses 52 = .ok (.i2l, 1) := by decide +kernel
theorem dX4_dayPasses_53 : decode cX4_dayPasses 53 = .ok (.aload_n 0, 1) := by decide +kernel
theorem dX4_dayPasses_54 : decode cX4_dayPasses 54 = .ok (.getfield 7, 3) := by decide +kernel
theorem dX4_dayPasses_57 : decode cX4_dayPasses 57 = .ok (.iconst 1, 1) := by decide +kernel
theorem dX4_dayPasses_58 : decode cX4_dayPasses 58 = .ok (.iaload, 1) := by decide +kernel
theorem dX4_dayPasses_59 : decode cX4_dayPasses 59 = .ok (.i2l, 1) := by decide +kernel
theorem dX4_dayPasses_60 : decode cX4_dayPasses 60 = .ok (.lmul, 1) := by decide +kernel
theorem dX4_dayPasses_61 : decode cX4_dayPasses 61 = .ok (.ldc2_w 63, 3) := by decide +kernel
theorem dX4_dayPasses_64 : decode cX4_dayPasses 64 = .ok (.ldiv, 1) := by decide +kernel
theorem dX4_dayPasses_65 : decode cX4_dayPasses 65 = .ok (.l2i, 1) := by decide +kernel
theorem dX4_dayPasses_66 : decode cX4_dayPasses 66 = .ok (.istore_n 3, 1) := by decide +kernel
theorem dX4_dayPasses_67 : decode cX4_dayPasses 67 = .ok (.aload_n 0, 1) := by decide +kernel
theorem dX4_dayPasses_68 : decode cX4_dayPasses 68 = .ok (.iload_n 2, 1) := by decide +kernel
theorem dX4_dayPasses_69 : decode cX4_dayPasses 69 = .ok (.bipush 36, 2) := by decide +kernel
theorem dX4_dayPasses_71 : decode cX4_dayPasses 71 = .ok (.iconst 1, 1) := by decide +kernel
theorem dX4_dayPasses_72 : decode cX4_dayPasses 72 = .ok (.invokevirtual 80, 3) := by decide +kernel
theorem dX4_dayPasses_75 : decode cX4_dayPasses 75 = .ok (.aload_n 0, 1) := by decide +kernel
theorem dX4_dayPasses_76 : decode cX4_dayPasses 76 = .ok (.iload_n 2, 1) := by decide +kernel
theorem dX4_dayPasses_77 : decode cX4_dayPasses 77 = .ok (.bipush 32, 2) := by decide +kernel
theorem dX4_dayPasses_79 : decode cX4_dayPasses 79 = .ok (.iload_n 3, 1) := by decide +kernel
theorem dX4_dayPasses_80 : decode cX4_dayPasses 80 = .ok (.invokevirtual 112, 3) := by decide +kernel
theorem dX4_dayPasses_83 : decode cX4_dayPasses 83 = .ok (.aload_n 0, 1) := by decide +kernel
theorem dX4_dayPasses_84 : decode cX4_dayPasses 84 = .ok (.iload_n 2, 1) := by decide +kernel
theorem dX4_dayPasses_85 : decode cX4_dayPasses 85 = .ok (.bipush 33, 2) := by decide +kernel
theorem dX4_dayPasses_87 : decode cX4_dayPasses 87 = .ok (.iload_n 3, 1) := by decide +kernel
theorem dX4_dayPasses_88 : decode cX4_dayPasses 88 = .ok (.invokevirtual 112, 3) := by decide +kernel
theorem dX4_dayPasses_91 : decode cX4_dayPasses 91 = .ok (.iload_n 1, 1) := by decide +kernel
theorem dX4_dayPasses_92 : decode cX4_dayPasses 92 = .ok (.iload_n 3, 1) := by decide +kernel
theorem dX4_dayPasses_93 : decode cX4_dayPasses 93 = .ok (.iadd, 1) := by decide +kernel
theorem dX4_dayPasses_94 : decode cX4_dayPasses 94 = .ok (.istore_n 1, 1) := by decide +kernel
theorem dX4_dayPasses_95 : decode cX4_dayPasses 95 = .ok (.iinc 2 1, 3) := by decide +kernel
theorem dX4_dayPasses_98 : decode cX4_dayPasses 98 = .ok (.goto (-84), 3) := by decide +kernel
theorem dX4_dayPasses_101 : decode cX4_dayPasses 101 = .ok (.iload_n 1, 1) := by decide +kernel
theorem dX4_dayPasses_102 : decode cX4_dayPasses 102 = .ok (.ireturn, 1) := by decide +kernel
theorem dX4_daysPass_0 : decode cX4_daysPass 0 = .ok (.iconst 0, 1) := by decide +kernel
theorem dX4_daysPass_1 : decode cX4_daysPass 1 = .ok (.istore_n 2, 1) := by decide +kernel
theorem dX4_daysPass_2 : decode cX4_daysPass 2 = .ok (.iconst 0, 1) := by decide +kernel
theorem dX4_daysPass_3 : decode cX4_daysPass 3 = .ok (.istore_n 3, 1) := by decide +kernel
theorem dX4_daysPass_4 : decode cX4_daysPass 4 = .ok (.iload_n 3, 1) := by decide +kernel
theorem dX4_daysPass_5 : decode cX4_daysPass 5 = .ok (.iload_n 1, 1) := by decide +kernel
theorem dX4_daysPass_6 : decode cX4_daysPass 6 = .ok (.if_icmp .ge 20, 3) := by decide +kernel
theorem dX4_daysPass_9 : decode cX4_daysPass 9 = .ok (.aload_n 0, 1) := by decide +kernel
theorem dX4_daysPass_10 : decode cX4_daysPass 10 = .ok (.invokevirtual 138, 3) := by decide +kernel
theorem dX4_daysPass_13 : decode cX4_daysPass 13 = .ok (.istore 4, 2) := by decide +kernel
theorem dX4_daysPass_15 : decode cX4_daysPass 15 = .ok (.iload_n 2, 1) := by decide +kernel
theorem dX4_daysPass_16 : decode cX4_daysPass 16 = .ok (.iload 4, 2) := by decide +kernel
theorem dX4_daysPass_18 : decode cX4_daysPass 18 = .ok (.iadd, 1) := by decide +kernel
theorem dX4_daysPass_19 : decode cX4_daysPass 19 = .ok (.istore_n 2, 1) := by decide +kernel
theorem dX4_daysPass_20 : decode cX4_daysPass 20 = .ok (.iinc 3 1, 3) := by decide +kernel
theorem dX4_daysPass_23 : decode cX4_daysPass 23 = .ok (.goto (-19), 3) := by decide +kernel
theorem dX4_daysPass_26 : decode cX4_daysPass 26 = .ok (.iload_n 2, 1) := by decide +kernel
theorem dX4_daysPass_27 : decode cX4_daysPass 27 = .ok (.ireturn, 1) := by decide +kernel
theorem dX4_canPass_0 : decode cX4_canPass 0 = .ok (.aload_n 0, 1) := by decide +kernel
theorem dX4_canPass_1 : decode cX4_canPass 1 = .ok (.getfield 7, 3) := by decide +kernel
theorem dX4_canPass_4 : decode cX4_canPass 4 = .ok (.iconst 4, 1) := by decide +kernel
theorem dX4_canPass_5 : decode cX4_canPass 5 = .ok (.iaload, 1) := by decide +kernel
theorem dX4_canPass_6 : decode cX4_canPass 6 = .ok (.iload_n 1, 1) := by decide +kernel
theorem dX4_canPass_7 : decode cX4_canPass 7 = .ok (.iadd, 1) := by decide +kernel
theorem dX4_canPass_8 : decode cX4_canPass 8 = .ok (.sipush 9999, 3) := by decide +kernel
theorem dX4_canPass_11 : decode cX4_canPass 11 = .ok (.if_icmp .gt 7, 3) := by decide +kernel
theorem dX4_canPass_14 : decode cX4_canPass 14 = .ok (.iconst 1, 1) := by decide +kernel
theorem dX4_canPass_15 : decode cX4_canPass 15 = .ok (.goto 4, 3) := by decide +kernel
theorem dX4_canPass_18 : decode cX4_canPass 18 = .ok (.iconst 0, 1) := by decide +kernel
theorem dX4_canPass_19 : decode cX4_canPass 19 = .ok (.ireturn, 1) := by decide +kernel
theorem dX4_pass_0 : decode cX4_pass 0 = .ok (.aload_n 0, 1) := by decide +kernel
theorem dX4_pass_1 : decode cX4_pass 1 = .ok (.iload_n 1, 1) := by decide +kernel
theorem dX4_pass_2 : decode cX4_pass 2 = .ok (.iconst 1, 1) := by decide +kernel
theorem dX4_pass_3 : decode cX4_pass 3 = .ok (.bipush 99, 2) := by decide +kernel
theorem dX4_pass_5 : decode cX4_pass 5 = .ok (.invokestatic 32, 3) := by decide +kernel
theorem dX4_pass_8 : decode cX4_pass 8 = .ok (.ifCond .ne 7, 3) := by decide +kernel
theorem dX4_pass_11 : decode cX4_pass 11 = .ok (.iconst 1, 1) := by decide +kernel
theorem dX4_pass_12 : decode cX4_pass 12 = .ok (.goto 16, 3) := by decide +kernel
theorem dX4_pass_15 : decode cX4_pass 15 = .ok (.aload_n 0, 1) := by decide +kernel
theorem dX4_pass_16 : decode cX4_pass 16 = .ok (.iload_n 1, 1) := by decide +kernel
theorem dX4_pass_17 : decode cX4_pass 17 = .ok (.invokevirtual 142, 3) := by decide +kernel
theorem dX4_pass_20 : decode cX4_pass 20 = .ok (.ifCond .eq 7, 3) := by decide +kernel
theorem dX4_pass_23 : decode cX4_pass 23 = .ok (.iconst 0, 1) := by decide +kernel
theorem dX4_pass_24 : decode cX4_pass 24 = .ok (.goto 4, 3) := by decide +kernel
theorem dX4_pass_27 : decode cX4_pass 27 = .ok (.iconst 2, 1) := by decide +kernel
theorem dX4_pass_28 : decode cX4_pass 28 = .ok (.putfield 25, 3) := by decide +kernel
theorem dX4_pass_31 : decode cX4_pass 31 = .ok (.aload_n 0, 1) := by decide +kernel
theorem dX4_pass_32 : decode cX4_pass 32 = .ok (.getfield 25, 3) := by decide +kernel
theorem dX4_pass_35 : decode cX4_pass 35 = .ok (.ifCond .le 5, 3) := by decide +kernel
theorem dX4_pass_38 : decode cX4_pass 38 = .ok (.iconst 0, 1) := by decide +kernel
theorem dX4_pass_39 : decode cX4_pass 39 = .ok (.ireturn, 1) := by decide +kernel
theorem dX4_pass_40 : decode cX4_pass 40 = .ok (.aload_n 0, 1) := by decide +kernel
theorem dX4_pass_41 : decode cX4_pass 41 = .ok (.invokevirtual 77, 3) := by decide +kernel
theorem dX4_pass_44 : decode cX4_pass 44 = .ok (.aload_n 0, 1) := by decide +kernel
theorem dX4_pass_45 : decode cX4_pass 45 = .ok (.iload_n 1, 1) := by decide +kernel
theorem dX4_pass_46 : decode cX4_pass 46 = .ok (.invokevirtual 145, 3) := by decide +kernel
theorem dX4_pass_49 : decode cX4_pass 49 = .ok (.ireturn, 1) := by decide +kernel
theorem dX4_append_0 : decode cX4_append 0 = .ok (.aload_n 0, 1) := by decide +kernel
theorem dX4_append_1 : decode cX4_append 1 = .ok (.iload_n 1, 1) := by decide +kernel
theorem dX4_append_2 : decode cX4_append 2 = .ok (.bipush 33, 2) := by decide +kernel
theorem dX4_append_4 : decode cX4_append 4 = .ok (.bipush 126, 2) := by decide +kernel
theorem dX4_append_6 : decode cX4_append 6 = .ok (.invokestatic 32, 3) := by decide +kernel
theorem dX4_append_9 : decode cX4_append 9 = .ok (.ifCond .ne 7, 3) := by decide +kernel
theorem dX4_append_12 : decode cX4_append 12 = .ok (.iconst 1, 1) := by decide +kernel
theorem dX4_append_13 : decode cX4_append 13 = .ok (.goto 17, 3) := by decide +kernel
theorem dX4_append_16 : decode cX4_append 16 = .ok (.aload_n 0, 1) := by decide +kernel
theorem dX4_append_17 : decode cX4_append 17 = .ok (.getfield 148, 3) := by decide +kernel
theorem dX4_append_20 : decode cX4_append 20 = .ok (.bipush 60, 2) := by decide +kernel
theorem dX4_append_22 : decode cX4_append 22 = .ok (.if_icmp .ne 7, 3) := by decide +kernel
theorem dX4_append_25 : decode cX4_append 25 = .ok (.iconst 2, 1) := by decide +kernel
theorem dX4_append_26 : decode cX4_append 26 = .ok (.goto 4, 3) := by decide +kernel
theorem dX4_append_29 : decode cX4_append 29 = .ok (.iconst 0, 1) := by decide +kernel
theorem dX4_append_30 : decode cX4_append 30 = .ok (.putfield 25, 3) := by decide +kernel
theorem dX4_append_33 : decode cX4_append 33 = .ok (.aload_n 0, 1) := by decide +kernel
theorem dX4_append_34 : decode cX4_append 34 = .ok (.getfield 25, 3) := by decide +kernel
theorem dX4_append_37 : decode cX4_append 37 = .ok (.ifCond .le 5, 3) := by decide +kernel
theorem dX4_append_40 : decode cX4_append 40 = .ok (.iconst 0, 1) := by decide +kernel
theorem dX4_append_41 : decode cX4_append 41 = .ok (.ireturn, 1) := by decide +kernel
theorem dX4_append_42 : decode cX4_append 42 = .ok (.aload_n 0, 1) := by decide +kernel
theorem dX4_append_43 : decode cX4_append 43 = .ok (.getfield 16, 3) := by decide +kernel
theorem dX4_append_46 : decode cX4_append 46 = .ok (.aload_n 0, 1) := by decide +kernel
theorem dX4_append_47 : decode cX4_append 47 = .ok (.getfield 148, 3) := by decide +kernel
theorem dX4_append_50 : decode cX4_append 50 = .ok (.iload_n 1, 1) := by decide +kernel
theorem dX4_append_51 : decode cX4_append 51 = .ok (.iastore, 1) := by decide +kernel
theorem dX4_append_52 : decode cX4_append 52 = .ok (.aload_n 0, 1) := by decide +kernel
theorem dX4_append_53 : decode cX4_append 53 = .ok (.dup, 1) := by decide +kernel
theorem dX4_append_54 : decode cX4_append 54 = .ok (.getfield 148, 3) := by decide +kernel
theorem dX4_append_57 : decode cX4_append 57 = .ok (.iconst 1, 1) := by decide +kernel
theorem dX4_append_58 : decode cX4_append 58 = .ok (.iadd, 1) := by decide +kernel
theorem dX4_append_59 : decode cX4_append 59 = .ok (.putfield 148, 3) := by decide +kernel
theorem dX4_append_62 : decode cX4_append 62 = .ok (.aload_n 0, 1) := by decide +kernel
theorem dX4_append_63 : decode cX4_append 63 = .ok (.getfield 148, 3) := by decide +kernel
theorem dX4_append_66 : decode cX4_append 66 = .ok (.ireturn, 1) := by decide +kernel
theorem dX4_clearBuffer_0 : decode cX4_clearBuffer 0 = .ok (.aload_n 0, 1) := by decide +kernel
theorem dX4_clearBuffer_1 : decode cX4_clearBuffer 1 = .ok (.iconst 0, 1) := by decide +kernel
theorem dX4_clearBuffer_2 : decode cX4_clearBuffer 2 = .ok (.putfield 25, 3) := by decide +kernel
theorem dX4_clearBuffer_5 : decode cX4_clearBuffer 5 = .ok (.aload_n 0, 1) := by decide +kernel
theorem dX4_clearBuffer_6 : decode cX4_clearBuffer 6 = .ok (.getfield 148, 3) := by decide +kernel
theorem dX4_clearBuffer_9 : decode cX4_clearBuffer 9 = .ok (.istore_n 1, 1) := by decide +kernel
theorem dX4_clearBuffer_10 : decode cX4_clearBuffer 10 = .ok (.aload_n 0, 1) := by decide +kernel
theorem dX4_clearBuffer_11 : decode cX4_clearBuffer 11 = .ok (.iconst 0, 1) := by decide +kernel
theorem dX4_clearBuffer_12 : decode cX4_clearBuffer 12 = .ok (.putfield 148, 3) := by decide +kernel
theorem dX4_clearBuffer_15 : decode cX4_clearBuffer 15 = .ok (.iload_n 1, 1) := by decide +kernel
theorem dX4_clearBuffer_16 : decode cX4_clearBuffer 16 = .ok (.ireturn, 1) := by decide +kernel
