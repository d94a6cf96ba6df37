theorem dX0_init_0 : decode cX0_init 0 = .ok (.aload_n 0, 1) := by decide +kernel
theorem dX0_init_1 : decode cX0_init 1 = .ok (.invokespecial 3, 3) := by decide +kernel
theorem dX0_init_4 : decode cX0_init 4 = .ok (.aload_n 0, 1) := by decide +kernel
theorem dX0_init_5 : decode cX0_init 5 = .ok (.iconst 0, 1) := by decide +kernel
theorem dX0_init_6 : decode cX0_init 6 = .ok (.putfield 9, 3) := by decide +kernel
theorem dX0_init_9 : decode cX0_init 9 = .ok (.aload_n 0, 1) := by decide +kernel
theorem dX0_init_10 : decode cX0_init 10 = .ok (.iconst 0, 1) := by decide +kernel
theorem dX0_init_11 : decode cX0_init 11 = .ok (.putfield 15, 3) := by decide +kernel
theorem dX0_init_14 : decode cX0_init 14 = .ok (.aload_n 0, 1) := by decide +kernel
theorem dX0_init_15 : decode cX0_init 15 = .ok (.getstatic 18, 3) := by decide +kernel
theorem dX0_init_18 : decode cX0_init 18 = .ok (.invokevirtual 22, 3) := by decide +kernel
theorem dX0_init_21 : decode cX0_init 21 = .ok (.checkcast 23, 3) := by decide +kernel
theorem dX0_init_24 : decode cX0_init 24 = .ok (.putfield 27, 3) := by decide +kernel
theorem dX0_init_27 : decode cX0_init 27 = .ok (.aload_n 0, 1) := by decide +kernel
theorem dX0_init_28 : decode cX0_init 28 = .ok (.getstatic 30, 3) := by decide +kernel
theorem dX0_init_31 : decode cX0_init 31 = .ok (.invokevirtual 22, 3) := by decide +kernel
theorem dX0_init_34 : decode cX0_init 34 = .ok (.checkcast 23, 3) := by decide +kernel
theorem dX0_init_37 : decode cX0_init 37 = .ok (.putfield 33, 3) := by decide +kernel
theorem dX0_init_40 : decode cX0_init 40 = .ok (.aload_n 0, 1) := by decide +kernel
theorem dX0_init_41 : decode cX0_init 41 = .ok (.bipush 6, 2) := by decide +kernel
theorem dX0_init_43 : decode cX0_init 43 = .ok (.anewarray 36, 3) := by decide +kernel
theorem dX0_init_46 : decode cX0_init 46 = .ok (.putfield 38, 3) := by decide +kernel
theorem dX0_init_49 : decode cX0_init 49 = .ok (.iconst 0, 1) := by decide +kernel
theorem dX0_init_50 : decode cX0_init 50 = .ok (.istore_n 1, 1) := by decide +kernel
theorem dX0_init_51 : decode cX0_init 51 = .ok (.iload_n 1, 1) := by decide +kernel
theorem dX0_init_52 : decode cX0_init 52 = .ok (.bipush 6, 2) := by decide +kernel
theorem dX0_init_54 : decode cX0_init 54 = .ok (.if_icmp .ge 22, 3) := by decide +kernel
theorem dX0_init_57 : decode cX0_init 57 = .ok (.aload_n 0, 1) := by decide +kernel
theorem dX0_init_58 : decode cX0_init 58 = .ok (.getfield 38, 3) := by decide +kernel
theorem dX0_init_61 : decode cX0_init 61 = .ok (.iload_n 1, 1) := by decide +kernel
theorem dX0_init_62 : decode cX0_init 62 = .ok (.new 36, 3) := by decide +kernel
theorem dX0_init_65 : decode cX0_init 65 = .ok (.dup, 1) := by decide +kernel
theorem dX0_init_66 : decode cX0_init 66 = .ok (.invokespecial 42, 3) := by decide +kernel
theorem dX0_init_69 : decode cX0_init 69 = .ok (.aastore, 1) := by decide +kernel
theorem dX0_init_70 : decode cX0_init 70 = .ok (.iinc 1 1, 3) := by decide +kernel
theorem dX0_init_73 : decode cX0_init 73 = .ok (.goto (-22), 3) := by decide +kernel
theorem dX0_init_76 : decode cX0_init 76 = .ok (.return_, 1) := by decide +kernel
theorem dX0_copyFrom_0 : decode cX0_copyFrom 0 = .ok (.aload_n 0, 1) := by decide +kernel
theorem dX0_copyFrom_1 : decode cX0_copyFrom 1 = .ok (.aload_n 1, 1) := by decide +kernel
theorem dX0_copyFrom_2 : decode cX0_copyFrom 2 = .ok (.getfield 9, 3) := by decide +kernel
theorem dX0_copyFrom_5 : decode cX0_copyFrom 5 = .ok (.putfield 9, 3) := by decide +kernel
theorem dX0_copyFrom_8 : decode cX0_copyFrom 8 = .ok (.aload_n 0, 1) := by decide +kernel
theorem dX0_copyFrom_9 : decode cX0_copyFrom 9 = .ok (.aload_n 1, 1) := by decide +kernel
theorem dX0_copyFrom_10 : decode cX0_copyFrom 10 = .ok (.getfield 15, 3) := by decide +kernel
theorem dX0_copyFrom_13 : decode cX0_copyFrom 13 = .ok (.putfield 15, 3) := by decide +kernel
theorem dX0_copyFrom_16 : decode cX0_copyFrom 16 = .ok (.iconst 0, 1) := by decide +kernel
theorem dX0_copyFrom_17 : decode cX0_copyFrom 17 = .ok (.istore_n 2, 1) := by decide +kernel
theorem dX0_copyFrom_18 : decode cX0_copyFrom 18 = .ok (.iload_n 2, 1) := by decide +kernel
theorem dX0_copyFrom_19 : decode cX0_copyFrom 19 = .ok (.iconst 4, 1) := by decide +kernel
theorem dX0_copyFrom_20 : decode cX0_copyFrom 20 = .ok (.if_icmp .ge 21, 3) := by decide +kernel
theorem dX0_copyFrom_23 : decode cX0_copyFrom 23 = .ok (.aload_n 0, 1) := by decide +kernel
theorem dX0_copyFrom_24 : decode cX0_copyFrom 24 = .ok (.getfield 27, 3) := by decide +kernel
theorem dX0_copyFrom_27 : decode cX0_copyFrom 27 = .ok (.iload_n 2, 1) := by decide +kernel
theorem dX0_copyFrom_28 : decode cX0_copyFrom 28 = .ok (.aload_n 1, 1) := by decide +kernel
theorem dX0_copyFrom_29 : decode cX0_copyFrom 29 = .ok (.getfield 27, 3) := by decide +kernel
theorem dX0_copyFrom_32 : decode cX0_copyFrom 32 = .ok (.iload_n 2, 1) := by decide +kernel
theorem dX0_copyFrom_33 : decode cX0_copyFrom 33 = .ok (.iaload, 1) := by decide +kernel
theorem dX0_copyFrom_34 : decode cX0_copyFrom 34 = .ok (.iastore, 1) := by decide +kernel
theorem dX0_copyFrom_35 : decode cX0_copyFrom 35 = .ok (.iinc 2 1, 3) := by decide +kernel
theorem dX0_copyFrom_38 : decode cX0_copyFrom 38 = .ok (.goto (-20), 3) := by decide +kernel
theorem dX0_copyFrom_41 : decode cX0_copyFrom 41 = .ok (.iconst 0, 1) := by decide +kernel
theorem dX0_copyFrom_42 : decode cX0_copyFrom 42 = .ok (.istore_n 2, 1) := by decide +kernel
theorem dX0_copyFrom_43 : decode cX0_copyFrom 43 = .ok (.iload_n 2, 1) := by decide +kernel
theorem dX0_copyFrom_44 : decode cX0_copyFrom 44 = .ok (.iconst 4, 1) := by decide +kernel
theorem dX0_copyFrom_45 : decode cX0_copyFrom 45 = .ok (.if_icmp .ge 21, 3) := by decide +kernel
theorem dX0_copyFrom_48 : decode cX0_copyFrom 48 = .ok (.aload_n 0, 1) := by decide +kernel
theorem dX0_copyFrom_49 : decode cX0_copyFrom 49 = .ok (.getfield 33, 3) := by decide +kernel
theorem dX0_copyFrom_52 : decode cX0_copyFrom 52 = .ok (.iload_n 2, 1) := by decide +kernel
theorem dX0_copyFrom_53 : decode cX0_copyFrom 53 = .ok (.aload_n 1, 1) := by decide +kernel
theorem dX0_copyFrom_54 : decode cX0_copyFrom 54 = .ok (.getfield 33, 3) := by decide +kernel
theorem dX0_copyFrom_57 : decode cX0_copyFrom 57 = .ok (.iload_n 2, 1) := by decide +kernel
theorem dX0_copyFrom_58 : decode cX0_copyFrom 58 = .ok (.iaload, 1) := by decide +kernel
theorem dX0_copyFrom_59 : decode cX0_copyFrom 59 = .ok (.iastore, 1) := by decide +kernel
theorem dX0_copyFrom_60 : decode cX0_copyFrom 60 = .ok (.iinc 2 1, 3) := by decide +kernel
theorem dX0_copyFrom_63 : decode cX0_copyFrom 63 = .ok (.goto (-20), 3) := by decide +kernel
theorem dX0_copyFrom_66 : decode cX0_copyFrom 66 = .ok (.iconst 0, 1) := by decide +kernel
theorem dX0_copyFrom_67 : decode cX0_copyFrom 67 = .ok (.istore_n 2, 1) := by decide +kernel
theorem dX0_copyFrom_68 : decode cX0_copyFrom 68 = .ok (.iload_n 2, 1) := by decide +kernel
theorem dX0_copyFrom_69 : decode cX0_copyFrom 69 = .ok (.bipush 6, 2) := by decide +kernel
theorem dX0_copyFrom_71 : decode cX0_copyFrom 71 = .ok (.if_icmp .ge 24, 3) := by decide +kernel
theorem dX0_copyFrom_74 : decode cX0_copyFrom 74 = .ok (.aload_n 0, 1) := by decide +kernel
theorem dX0_copyFrom_75 : decode cX0_copyFrom 75 = .ok (.getfield 38, 3) := by decide +kernel
theorem dX0_copyFrom_78 : decode cX0_copyFrom 78 = .ok (.iload_n 2, 1) := by decide +kernel
theorem dX0_copyFrom_79 : decode cX0_copyFrom 79 = .ok (.aaload, 1) := by decide +kernel
theorem dX0_copyFrom_80 : decode cX0_copyFrom 80 = .ok (.aload_n 1, 1) := by decide +kernel
theorem dX0_copyFrom_81 : decode cX0_copyFrom 81 = .ok (.getfield 38, 3) := by decide +kernel
theorem dX0_copyFrom_84 : decode cX0_copyFrom 84 = .ok (.iload_n 2, 1) := by decide +kernel
theorem dX0_copyFrom_85 : decode cX0_copyFrom 85 = .ok (.aaload, 1) := by decide +kernel
theorem dX0_copyFrom_86 : decode cX0_copyFrom 86 = .ok (.invokevirtual 43, 3) := by decide +kernel
theorem dX0_copyFrom_89 : decode cX0_copyFrom 89 = .ok (.iinc 2 1, 3) := by decide +kernel
theorem dX0_copyFrom_92 : decode cX0_copyFrom 92 = .ok (.goto (-24), 3) := by decide +kernel
theorem dX0_copyFrom_95 : decode cX0_copyFrom 95 = .ok (.return_, 1) := by decide +kernel
theorem dX0_hasPhase_0 : decode cX0_hasPhase 0 = .ok (.iload_n 1, 1) := by decide +kernel
theorem dX0_hasPhase_1 : decode cX0_hasPhase 1 = .ok (.ifCond .lt 21, 3) := by decide +kernel
theorem dX0_hasPhase_4 : decode cX0_hasPhase 4 = .ok (.iload_n 1, 1) := by decide +kernel
theorem dX0_hasPhase_5 : decode cX0_hasPhase 5 = .ok (.aload_n 0, 1) := by decide +kernel
theorem dX0_hasPhase_6 : decode cX0_hasPhase 6 = .ok (.getfield 15, 3) := by decide +kernel
theorem dX0_hasPhase_9 : decode cX0_hasPhase 9 = .ok (.if_icmp .ge 13, 3) := by decide +kernel
theorem dX0_hasPhase_12 : decode cX0_hasPhase 12 = .ok (.iload_n 1, 1) := by decide +kernel
theorem dX0_hasPhase_13 : decode cX0_hasPhase 13 = .ok (.bipush 6, 2) := by decide +kernel
theorem dX0_hasPhase_15 : decode cX0_hasPhase 15 = .ok (.if_icmp .ge 7, 3) := by decide +kernel
theorem dX0_hasPhase_18 : decode cX0_hasPhase 18 = .ok (.iconst 1, 1) := by decide +kernel
theorem dX0_hasPhase_19 : decode cX0_hasPhase 19 = .ok (.goto 4, 3) := by decide +kernel
theorem dX0_hasPhase_22 : decode cX0_hasPhase 22 = .ok (.iconst 0, 1) := by decide +kernel
theorem dX0_hasPhase_23 : decode cX0_hasPhase 23 = .ok (.ireturn, 1) := by decide +kernel
theorem dX0_appendPhase_0 : decode cX0_appendPhase 0 = .ok (.aload_n 0, 1) := by decide +kernel
theorem dX0_appendPhase_1 : decode cX0_appendPhase 1 = .ok (.getfield 15, 3) := by decide +kernel
theorem dX0_appendPhase_4 : decode cX0_appendPhase 4 = .ok (.istore_n 1, 1) := by decide +kernel
theorem dX0_appendPhase_5 : decode cX0_appendPhase 5 = .ok (.iload_n 1, 1) := by decide +kernel
theorem dX0_appendPhase_6 : decode cX0_appendPhase 6 = .ok (.bipush 6, 2) := by decide +kernel
theorem dX0_appendPhase_8 : decode cX0_appendPhase 8 = .ok (.if_icmp .ge 43, 3) := by decide +kernel
theorem dX0_appendPhase_11 : decode cX0_appendPhase 11 = .ok (.iconst 0, 1) := by decide +kernel
theorem dX0_appendPhase_12 : decode cX0_appendPhase 12 = .ok (.istore_n 2, 1) := by decide +kernel
theorem dX0_appendPhase_13 : decode cX0_appendPhase 13 = .ok (.iload_n 2, 1) := by decide +kernel
theorem dX0_appendPhase_14 : decode cX0_appendPhase 14 = .ok (.iconst 4, 1) := by decide +kernel
theorem dX0_appendPhase_15 : decode cX0_appendPhase 15 = .ok (.if_icmp .ge 26, 3) := by decide +kernel
theorem dX0_appendPhase_18 : decode cX0_appendPhase 18 = .ok (.aload_n 0, 1) := by decide +kernel
theorem dX0_appendPhase_19 : decode cX0_appendPhase 19 = .ok (.getfield 38, 3) := by decide +kernel
theorem dX0_appendPhase_22 : decode cX0_appendPhase 22 = .ok (.iload_n 1, 1) := by decide +kernel
theorem dX0_appendPhase_23 : decode cX0_appendPhase 23 = .ok (.aaload, 1) := by decide +kernel
theorem dX0_appendPhase_24 : decode cX0_appendPhase 24 = .ok (.getfield 47, 3) := by decide +kernel
theorem dX0_appendPhase_27 : decode cX0_appendPhase 27 = .ok (.iload_n 2, 1) := by decide +kernel
theorem dX0_appendPhase_28 : decode cX0_appendPhase 28 = .ok (.aload_n 0, 1) := by decide +kernel
theorem dX0_appendPhase_29 : decode cX0_appendPhase 29 = .ok (.getfield 27, 3) := by decide +kernel
theorem dX0_appendPhase_32 : decode cX0_appendPhase 32 = .ok (.iload_n 2, 1) := by decide +kernel
theorem dX0_appendPhase_33 : decode cX0_appendPhase 33 = .ok (.iaload, 1) := by decide +kernel
theorem dX0_appendPhase_34 : decode cX0_appendPhase 34 = .ok (.iastore, 1) := by decide +kernel
theorem dX0_appendPhase_35 : decode cX0_appendPhase 35 = .ok (.iinc 2 1, 3) := by decide +kernel
theorem dX0_appendPhase_38 : decode cX0_appendPhase 38 = .ok (.goto (-25), 3) := by decide +kernel
theorem dX0_appendPhase_41 : decode cX0_appendPhase 41 = .ok (.aload_n 0, 1) := by decide +kernel
theorem dX0_appendPhase_42 : decode cX0_appendPhase 42 = .ok (.dup, 1) := by decide +kernel
theorem dX0_appendPhase_43 : decode cX0_appendPhase 43 = .ok (.getfield 15, 3) := by decide +kernel
theorem dX0_appendPhase_46 : decode cX0_appendPhase 46 = .ok (.iconst 1, 1) := by decide +kernel
theorem dX0_appendPhase_47 : decode cX0_appendPhase 47 = .ok (.iadd, 1) := by decide +kernel
theorem dX0_appendPhase_48 : decode cX0_appendPhase 48 = .ok (.putfield 15, 3) := by decide +kernel
theorem dX0_appendPhase_51 : decode cX0_appendPhase 51 = .ok (.iload_n 1, 1) := by decide +kernel
theorem dX0_appendPhase_52 : decode cX0_appendPhase 52 = .ok (.ireturn, 1) := by decide +kernel
theorem dX0_changeRate_0 : decode cX0_changeRate 0 = .ok (.aload_n 0, 1) := by decide +kernel
theorem dX0_changeRate_1 : decode cX0_changeRate 1 = .ok (.getfield 27, 3) := by decide +kernel
theorem dX0_changeRate_4 : decode cX0_changeRate 4 = .ok (.iload_n 1, 1) := by decide +kernel
theorem dX0_changeRate_5 : decode cX0_changeRate 5 = .ok (.iaload, 1) := by decide +kernel
theorem dX0_changeRate_6 : decode cX0_changeRate 6 = .ok (.istore_n 3, 1) := by decide +kernel
theorem dX0_changeRate_7 : decode cX0_changeRate 7 = .ok (.aload_n 0, 1) := by decide +kernel
theorem dX0_changeRate_8 : decode cX0_changeRate 8 = .ok (.getfield 27, 3) := by decide +kernel
theorem dX0_changeRate_11 : decode cX0_changeRate 11 = .ok (.iload_n 1, 1) := by decide +kernel
theorem dX0_changeRate_12 : decode cX0_changeRate 12 = .ok (.iload_n 2, 1) := by decide +kernel
theorem dX0_changeRate_13 : decode cX0_changeRate 13 = .ok (.iastore, 1) := by decide +kernel
theorem dX0_changeRate_14 : decode cX0_changeRate 14 = .ok (.iconst 0, 1) := by decide +kernel
theorem dX0_changeRate_15 : decode cX0_changeRate 15 = .ok (.istore 4, 2) := by decide +kernel
theorem dX0_changeRate_17 : decode cX0_changeRate 17 = .ok (.iload 4, 2) := by decide +kernel
theorem dX0_changeRate_19 : decode cX0_changeRate 19 = .ok (.aload_n 0, 1) := by decide +kernel
theorem dX0_changeRate_20 : decode cX0_changeRate 20 = .ok (.getfield 15, 3) := by decide +kernel
theorem dX0_changeRate_23 : decode cX0_changeRate 23 = .ok (.if_icmp .ge 42, 3) := by decide +kernel
theorem dX0_changeRate_26 : decode cX0_changeRate 26 = .ok (.iload 4, 2) := by decide +kernel
theorem dX0_changeRate_28 : decode cX0_changeRate 28 = .ok (.bipush 6, 2) := by decide +kernel
theorem dX0_changeRate_30 : decode cX0_changeRate 30 = .ok (.if_icmp .ge 35, 3) := by decide +kernel
theorem dX0_changeRate_33 : decode cX0_changeRate 33 = .ok (.aload_n 0, 1) := by decide +kernel
theorem dX0_changeRate_34 : decode cX0_changeRate 34 = .ok (.getfield 38, 3) := by decide +kernel
theorem dX0_changeRate_37 : decode cX0_changeRate 37 = .ok (.iload 4, 2) := by decide +kernel
theorem dX0_changeRate_39 : decode cX0_changeRate 39 = .ok (.aaload, 1) := by decide +kernel
theorem dX0_changeRate_40 : decode cX0_changeRate 40 = .ok (.invokevirtual 48, 3) := by decide +kernel
theorem dX0_changeRate_43 : decode cX0_changeRate 43 = .ok (.ifCond .ne 16, 3) := by decide +kernel
theorem dX0_changeRate_46 : decode cX0_changeRate 46 = .ok (.aload_n 0, 1) := by decide +kernel
theorem dX0_changeRate_47 : decode cX0_changeRate 47 = .ok (.getfield 38, 3) := by decide +kernel
theorem dX0_changeRate_50 : decode cX0_changeRate 50 = .ok (.iload 4, 2) := by decide +kernel
theorem dX0_changeRate_52 : decode cX0_changeRate 52 = .ok (.aaload, 1) := by decide +kernel
theorem dX0_changeRate_53 : decode cX0_changeRate 53 = .ok (.getfield 47, 3) := by decide +kernel
theorem dX0_changeRate_56 : decode cX0_changeRate 56 = .ok (.iload_n 1, 1) := by decide +kernel
theorem dX0_changeRate_57 : decode cX0_changeRate 57 = .ok (.iload_n 2, 1) := by decide +kernel
theorem dX0_changeRate_58 : decode cX0_changeRate 58 = .ok (.iastore, 1) := by decide +kernel
theorem dX0_changeRate_59 : decode cX0_changeRate 59 = .ok (.iinc 4 1, 3) := by decide +kernel
theorem dX0_changeRate_62 : decode cX0_changeRate 62 = .ok (.goto (-45), 3) := by decide +kernel
theorem dX0_changeRate_65 : decode cX0_changeRate 65 = .ok (.iload_n 3, 1) := by decide +kernel
theorem dX0_changeRate_66 : decode cX0_changeRate 66 = .ok (.ireturn, 1) := by decide +kernel
theorem dX0_beginPhase_0 : decode cX0_beginPhase 0 = .ok (.aload_n 0, 1) := by decide +kernel
theorem dX0_beginPhase_1 : decode cX0_beginPhase 1 = .ok (.getfield 38, 3) := by decide +kernel
theorem dX0_beginPhase_4 : decode cX0_beginPhase 4 = .ok (.iload_n 1, 1) := by decide +kernel
theorem dX0_beginPhase_5 : decode cX0_beginPhase 5 = .ok (.aaload, 1) := by decide +kernel
theorem dX0_beginPhase_6 : decode cX0_beginPhase 6 = .ok (.aload_n 0, 1) := by decide +kernel
theorem dX0_beginPhase_7 : decode cX0_beginPhase 7 = .ok (.getfield 9, 3) := by decide +kernel
theorem dX0_beginPhase_10 : decode cX0_beginPhase 10 = .ok (.aload_n 0, 1) := by decide +kernel
theorem dX0_beginPhase_11 : decode cX0_beginPhase 11 = .ok (.getfield 33, 3) := by decide +kernel
theorem dX0_beginPhase_14 : decode cX0_beginPhase 14 = .ok (.iconst 0, 1) := by decide +kernel
theorem dX0_beginPhase_15 : decode cX0_beginPhase 15 = .ok (.iaload, 1) := by decide +kernel
theorem dX0_beginPhase_16 : decode cX0_beginPhase 16 = .ok (.invokevirtual 52, 3) := by decide +kernel
theorem dX0_beginPhase_19 : decode cX0_beginPhase 19 = .ok (.ireturn, 1) := by decide +kernel
theorem dX0_hasDaysLeft_0 : decode cX0_hasDaysLeft 0 = .ok (.iload_n 1, 1) := by decide +kernel
theorem dX0_hasDaysLeft_1 : decode cX0_hasDaysLeft 1 = .ok (.sipush 9999, 3) := by decide +kernel
theorem dX0_hasDaysLeft_4 : decode cX0_hasDaysLeft 4 = .ok (.aload_n 0, 1) := by decide +kernel
theorem dX0_hasDaysLeft_5 : decode cX0_hasDaysLeft 5 = .ok (.getfield 9, 3) := by decide +kernel
theorem dX0_hasDaysLeft_8 : decode cX0_hasDaysLeft 8 = .ok (.isub, 1) := by decide +kernel
theorem dX0_hasDaysLeft_9 : decode cX0_hasDaysLeft 9 = .ok (.if_icmp .gt 7, 3) := by decide +kernel
theorem dX0_hasDaysLeft_12 : decode cX0_hasDaysLeft 12 = .ok (.iconst 1, 1) := by decide +kernel
theorem dX0_hasDaysLeft_13 : decode cX0_hasDaysLeft 13 = .ok (.goto 4, 3) := by decide +kernel
theorem dX0_hasDaysLeft_16 : decode cX0_hasDaysLeft 16 = .ok (.iconst 0, 1) := by decide +kernel
theorem dX0_hasDaysLeft_17 : decode cX0_hasDaysLeft 17 = .ok (.ireturn, 1) := by decide +kernel
theorem dX0_letDaysPass_0 : decode cX0_letDaysPass 0 = .ok (.iconst 0, 1) := by decide +kernel
theorem dX0_letDaysPass_1 : decode cX0_letDaysPass 1 = .ok (.istore_n 2, 1) := by decide +kernel
theorem dX0_letDaysPass_2 : decode cX0_letDaysPass 2 = .ok (.iconst 0, 1) := by decide +kernel
theorem dX0_letDaysPass_3 : decode cX0_letDaysPass 3 = .ok (.istore_n 3, 1) := by decide +kernel
theorem dX0_letDaysPass_4 : decode cX0_letDaysPass 4 = .ok (.iload_n 3, 1) := by decide +kernel
theorem dX0_letDaysPass_5 : decode cX0_letDaysPass 5 = .ok (.aload_n 0, 1) := by decide +kernel
theorem dX0_letDaysPass_6 : decode cX0_letDaysPass 6 = .ok (.getfield 15, 3) := by decide +kernel
theorem dX0_letDaysPass_9 : decode cX0_letDaysPass 9 = .ok (.if_icmp .ge 58, 3) := by decide +kernel
theorem dX0_letDaysPass_12 : decode cX0_letDaysPass 12 = .ok (.iload_n 3, 1) := by decide +kernel
theorem dX0_letDaysPass_13 : decode cX0_letDaysPass 13 = .ok (.bipush 6, 2) := by decide +kernel
theorem dX0_letDaysPass_15 : decode cX0_letDaysPass 15 = .ok (.if_icmp .ge 52, 3) := by decide +kernel
theorem dX0_letDaysPass_18 : decode cX0_letDaysPass 18 = .ok (.aload_n 0, 1) := by decide +kernel
theorem dX0_letDaysPass_19 : decode cX0_letDaysPass 19 = .ok (.iload_n 3, 1) := by decide +kernel
theorem dX0_letDaysPass_20 : decode cX0_letDaysPass 20 = .ok (.iload_n 1, 1) := by decide +kernel
theorem dX0_letDaysPass_21 : decode cX0_letDaysPass 21 = .ok (.invokevirtual 56, 3) := by decide +kernel
theorem dX0_letDaysPass_24 : decode cX0_letDaysPass 24 = .ok (.ifCond .eq 37, 3) := by decide +kernel
theorem dX0_letDaysPass_27 : decode cX0_letDaysPass 27 = .ok (.aload_n 0, 1) := by decide +kernel
theorem dX0_letDaysPass_28 : decode cX0_letDaysPass 28 = .ok (.iload_n 3, 1) := by decide +kernel
theorem dX0_letDaysPass_29 : decode cX0_letDaysPass 29 = .ok (.iload_n 1, 1) := by decide +kernel
theorem dX0_letDaysPass_30 : decode cX0_letDaysPass 30 = .ok (.invokevirtual 60, 3) := by decide +kernel
theorem dX0_letDaysPass_33 : decode cX0_letDaysPass 33 = .ok (.istore 4, 2) := by decide +kernel
theorem dX0_letDaysPass_35 : decode cX0_letDaysPass 35 = .ok (.aload_n 0, 1) := by decide +kernel
theorem dX0_letDaysPass_36 : decode cX0_letDaysPass 36 = .ok (.getfield 38, 3) := by decide +kernel
theorem dX0_letDaysPass_39 : decode cX0_letDaysPass 39 = .ok (.iload_n 3, 1) := by decide +kernel
theorem dX0_letDaysPass_40 : decode cX0_letDaysPass 40 = .ok (.aaload, 1) := by decide +kernel
theorem dX0_letDaysPass_41 : decode cX0_letDaysPass 41 = .ok (.iconst 1, 1) := by decide +kernel
theorem dX0_letDaysPass_42 : decode cX0_letDaysPass 42 = .ok (.putfield 63, 3) := by decide +kernel
theorem dX0_letDaysPass_45 : decode cX0_letDaysPass 45 = .ok (.aload_n 0, 1) := by decide +kernel
theorem dX0_letDaysPass_46 : decode cX0_letDaysPass 46 = .ok (.getfield 38, 3) := by decide +kernel
theorem dX0_letDaysPass_49 : decode cX0_letDaysPass 49 = .ok (.iload_n 3, 1) := by decide +kernel
theorem dX0_letDaysPass_50 : decode cX0_letDaysPass 50 = .ok (.aaload, 1) := by decide +kernel
theorem dX0_letDaysPass_51 : decode cX0_letDaysPass 51 = .ok (.iload 4, 2) := by decide +kernel
theorem dX0_letDaysPass_53 : decode cX0_letDaysPass 53 = .ok (.putfield 67, 3) := by decide +kernel
theorem dX0_letDaysPass_56 : decode cX0_letDaysPass 56 = .ok (.iload_n 2, 1) := by decide +kernel
theorem dX0_letDaysPass_57 : decode cX0_letDaysPass 57 = .ok (.iload 4, 2) := by decide +kernel
theorem dX0_letDaysPass_59 : decode cX0_letDaysPass 59 = .ok (.iadd, 1) := by decide +kernel
theorem dX0_letDaysPass_60 : decode cX0_letDaysPass 60 = .ok (.istore_n 2, 1) := by decide +kernel
theorem dX0_letDaysPass_61 : decode cX0_letDaysPass 61 = .ok (.iinc 3 1, 3) := by decide +kernel
theorem dX0_letDaysPass_64 : decode cX0_letDaysPass 64 = .ok (.goto (-60), 3) := by decide +kernel
theorem dX0_letDaysPass_67 : decode cX0_letDaysPass 67 = .ok (.aload_n 0, 1) := by decide +kernel
theorem dX0_letDaysPass_68 : decode cX0_letDaysPass 68 = .ok (.dup, 1) := by decide +kernel
theorem dX0_letDaysPass_69 : decode cX0_letDaysPass 69 = .ok (.getfield 9, 3) := by decide +kernel
theorem dX0_letDaysPass_72 : decode cX0_letDaysPass 72 = .ok (.iload_n 1, 1) := by decide +kernel
theorem dX0_letDaysPass_73 : decode cX0_letDaysPass 73 = .ok (.iadd, 1) := by decide +kernel
theorem dX0_letDaysPass_74 : decode cX0_letDaysPass 74 = .ok (.putfield 9, 3) := by decide +kernel
theorem dX0_letDaysPass_77 : decode cX0_letDaysPass 77 = .ok (.iload_n 2, 1) := by decide +kernel
theorem dX0_letDaysPass_78 : decode cX0_letDaysPass 78 = .ok (.ireturn, 1) := by decide +kernel
theorem dX0_daysToBreak_0 : decode cX0_daysToBreak 0 = .ok (.aload_n 0, 1) := by decide +kernel
theorem dX0_daysToBreak_1 : decode cX0_daysToBreak 1 = .ok (.getfield 38, 3) := by decide +kernel
theorem dX0_daysToBreak_4 : decode cX0_daysToBreak 4 = .ok (.iload_n 1, 1) := by decide +kernel
theorem dX0_daysToBreak_5 : decode cX0_daysToBreak 5 = .ok (.aaload, 1) := by decide +kernel
theorem dX0_daysToBreak_6 : decode cX0_daysToBreak 6 = .ok (.invokevirtual 70, 3) := by decide +kernel
theorem dX0_daysToBreak_9 : decode cX0_daysToBreak 9 = .ok (.istore_n 2, 1) := by decide +kernel
theorem dX0_daysToBreak_10 : decode cX0_daysToBreak 10 = .ok (.iload_n 2, 1) := by decide +kernel
theorem dX0_daysToBreak_11 : decode cX0_daysToBreak 11 = .ok (.iconst (-1), 1) := by decide +kernel
theorem dX0_daysToBreak_12 : decode cX0_daysToBreak 12 = .ok (.if_icmp .ne 7, 3) := by decide +kernel
theorem dX0_daysToBreak_15 : decode cX0_daysToBreak 15 = .ok (.iconst (-1), 1) := by decide +kernel
theorem dX0_daysToBreak_16 : decode cX0_daysToBreak 16 = .ok (.goto 9, 3) := by decide +kernel
theorem dX0_daysToBreak_19 : decode cX0_daysToBreak 19 = .ok (.iload_n 2, 1) := by decide +kernel
theorem dX0_daysToBreak_20 : decode cX0_daysToBreak 20 = .ok (.aload_n 0, 1) := by decide +kernel
theorem dX0_daysToBreak_21 : decode cX0_daysToBreak 21 = .ok (.getfield 9, 3) := by decide +kernel
theorem dX0_daysToBreak_24 : decode cX0_daysToBreak 24 = .ok (.isub, 1) := by decide +kernel
theorem dX0_daysToBreak_25 : decode cX0_daysToBreak 25 = .ok (.ireturn, 1) := by decide +kernel
theorem dX0_breaksWithin_0 : decode cX0_breaksWithin 0 = .ok (.aload_n 0, 1) := by decide +kernel
theorem dX0_breaksWithin_1 : decode cX0_breaksWithin 1 = .ok (.getfield 38, 3) := by decide +kernel
theorem dX0_breaksWithin_4 : decode cX0_breaksWithin 4 = .ok (.iload_n 1, 1) := by decide +kernel
theorem dX0_breaksWithin_5 : decode cX0_breaksWithin 5 = .ok (.aaload, 1) := by decide +kernel
theorem dX0_breaksWithin_6 : decode cX0_breaksWithin 6 = .ok (.invokevirtual 70, 3) := by decide +kernel
theorem dX0_breaksWithin_9 : decode cX0_breaksWithin 9 = .ok (.istore_n 3, 1) := by decide +kernel
theorem dX0_breaksWithin_10 : decode cX0_breaksWithin 10 = .ok (.iload_n 3, 1) := by decide +kernel
theorem dX0_breaksWithin_11 : decode cX0_breaksWithin 11 = .ok (.iconst (-1), 1) := by decide +kernel
theorem dX0_breaksWithin_12 : decode cX0_breaksWithin 12 = .ok (.if_icmp .eq 17, 3) := by decide +kernel
theorem dX0_breaksWithin_15 : decode cX0_breaksWithin 15 = .ok (.iload_n 3, 1) := by decide +kernel
theorem dX0_breaksWithin_16 : decode cX0_breaksWithin 16 = .ok (.aload_n 0, 1) := by decide +kernel
theorem dX0_breaksWithin_17 : decode cX0_breaksWithin 17 = .ok (.getfield 9, 3) := by decide +kernel
theorem dX0_breaksWithin_20 : decode cX0_breaksWithin 20 = .ok (.isub, 1) := by decide +kernel
theorem dX0_breaksWithin_21 : decode cX0_breaksWithin 21 = .ok (.iload_n 2, 1) := by decide +kernel
theorem dX0_breaksWithin_22 : decode cX0_breaksWithin 22 = .ok (.if_icmp .gt 7, 3) := by decide +kernel
theorem dX0_breaksWithin_25 : decode cX0_breaksWithin 25 = .ok (.iconst 1, 1) := by decide +kernel
theorem dX0_breaksWithin_26 : decode cX0_breaksWithin 26 = .ok (.goto 4, 3) := by decide +kernel
theorem dX0_breaksWithin_29 : decode cX0_breaksWithin 29 = .ok (.iconst 0, 1) := by decide +kernel
theorem dX0_breaksWithin_30 : decode cX0_breaksWithin 30 = .ok (.ireturn, 1) := by decide +kernel
theorem dX0_surchargeWithin_0 : decode cX0_surchargeWithin 0 = .ok (.aload_n 0, 1) := by decide +kernel
theorem dX0_surchargeWithin_1 : decode cX0_surchargeWithin 1 = .ok (.iload_n 1, 1) := by decide +kernel
theorem dX0_surchargeWithin_2 : decode cX0_surchargeWithin 2 = .ok (.iload_n 2, 1) := by decide +kernel
theorem dX0_surchargeWithin_3 : decode cX0_surchargeWithin 3 = .ok (.invokevirtual 56, 3) := by decide +kernel
theorem dX0_surchargeWithin_6 : decode cX0_surchargeWithin 6 = .ok (.ifCond .eq 24, 3) := by decide +kernel
theorem dX0_surchargeWithin_9 : decode cX0_surchargeWithin 9 = .ok (.aload_n 0, 1) := by decide +kernel
theorem dX0_surchargeWithin_10 : decode cX0_surchargeWithin 10 = .ok (.getfield 33, 3) := by decide +kernel
theorem dX0_surchargeWithin_13 : decode cX0_surchargeWithin 13 = .ok (.iconst 1, 1) := by decide +kernel
theorem dX0_surchargeWithin_14 : decode cX0_surchargeWithin 14 = .ok (.iaload, 1) := by decide +kernel
theorem dX0_surchargeWithin_15 : decode cX0_surchargeWithin 15 = .ok (.aload_n 0, 1) := by decide +kernel
theorem dX0_surchargeWithin_16 : decode cX0_surchargeWithin 16 = .ok (.getfield 38, 3) := by decide +kernel
theorem dX0_surchargeWithin_19 : decode cX0_surchargeWithin 19 = .ok (.iload_n 1, 1) := by decide +kernel
theorem dX0_surchargeWithin_20 : decode cX0_surchargeWithin 20 = .ok (.aaload, 1) := by decide +kernel
theorem dX0_surchargeWithin_21 : decode cX0_surchargeWithin 21 = .ok (.invokevirtual 74, 3) := by decide +kernel
theorem dX0_surchargeWithin_24 : decode cX0_surchargeWithin 24 = .ok (.invokestatic 77, 3) := by decide +kernel
theorem dX0_surchargeWithin_27 : decode cX0_surchargeWithin 27 = .ok (.goto 4, 3) := by decide +kernel
theorem dX0_surchargeWithin_30 : decode cX0_surchargeWithin 30 = .ok (.iconst 0, 1) := by decide +kernel
theorem dX0_surchargeWithin_31 : decode cX0_surchargeWithin 31 = .ok (.ireturn, 1) := by decide +kernel
theorem dX0_allows_0 : decode cX0_allows 0 = .ok (.aload_n 0, 1) := by decide +kernel
theorem dX0_allows_1 : decode cX0_allows 1 = .ok (.iload_n 2, 1) := by decide +kernel
theorem dX0_allows_2 : decode cX0_allows 2 = .ok (.invokevirtual 80, 3) := by decide +kernel
theorem dX0_allows_5 : decode cX0_allows 5 = .ok (.ifCond .eq 17, 3) := by decide +kernel
theorem dX0_allows_8 : decode cX0_allows 8 = .ok (.aload_n 0, 1) := by decide +kernel
theorem dX0_allows_9 : decode cX0_allows 9 = .ok (.iload_n 1, 1) := by decide +kernel
theorem dX0_allows_10 : decode cX0_allows 10 = .ok (.iload_n 2, 1) := by decide +kernel
theorem dX0_allows_11 : decode cX0_allows 11 = .ok (.iconst 0, 1) := by decide +kernel
theorem dX0_allows_12 : decode cX0_allows 12 = .ok (.invokevirtual 84, 3) := by decide +kernel
theorem dX0_allows_15 : decode cX0_allows 15 = .ok (.ifCond .ne 7, 3) := by decide +kernel
theorem dX0_allows_18 : decode cX0_allows 18 = .ok (.iconst 1, 1) := by decide +kernel
theorem dX0_allows_19 : decode cX0_allows 19 = .ok (.goto 4, 3) := by decide +kernel
theorem dX0_allows_22 : decode cX0_allows 22 = .ok (.iconst 0, 1) := by decide +kernel
theorem dX0_allows_23 : decode cX0_allows 23 = .ok (.ireturn, 1) := by decide +kernel
theorem dX0_reasonAgainst_0 : decode cX0_reasonAgainst 0 = .ok (.aload_n 0, 1) := by decide +kernel
theorem dX0_reasonAgainst_1 : decode cX0_reasonAgainst 1 = .ok (.getfield 38, 3) := by decide +kernel
theorem dX0_reasonAgainst_4 : decode cX0_reasonAgainst 4 = .ok (.iload_n 2, 1) := by decide +kernel
theorem dX0_reasonAgainst_5 : decode cX0_reasonAgainst 5 = .ok (.aaload, 1) := by decide +kernel
theorem dX0_reasonAgainst_6 : decode cX0_reasonAgainst 6 = .ok (.astore 4, 2) := by decide +kernel
theorem dX0_reasonAgainst_8 : decode cX0_reasonAgainst 8 = .ok (.iload_n 1, 1) := by decide +kernel
theorem dX0_reasonAgainst_9 : decode cX0_reasonAgainst 9 = .ok (.ifCond .eq 8, 3) := by decide +kernel
theorem dX0_reasonAgainst_12 : decode cX0_reasonAgainst 12 = .ok (.iload_n 1, 1) := by decide +kernel
theorem dX0_reasonAgainst_13 : decode cX0_reasonAgainst 13 = .ok (.iconst 1, 1) := by decide +kernel
theorem dX0_reasonAgainst_14 : decode cX0_reasonAgainst 14 = .ok (.if_icmp .ne 7, 3) := by decide +kernel
theorem dX0_reasonAgainst_17 : decode cX0_reasonAgainst 17 = .ok (.iconst 1, 1) := by decide +kernel
theorem dX0_reasonAgainst_18 : decode cX0_reasonAgainst 18 = .ok (.goto 4, 3) := by decide +kernel
theorem dX0_reasonAgainst_21 : decode cX0_reasonAgainst 21 = .ok (.iconst 0, 1) := by decide +kernel
theorem dX0_reasonAgainst_22 : decode cX0_reasonAgainst 22 = .ok (.istore 5, 2) := by decide +kernel
theorem dX0_reasonAgainst_24 : decode cX0_reasonAgainst 24 = .ok (.iload 5, 2) := by decide +kernel
theorem dX0_reasonAgainst_26 : decode cX0_reasonAgainst 26 = .ok (.ifCond .eq 13, 3) := by decide +kernel
theorem dX0_reasonAgainst_29 : decode cX0_reasonAgainst 29 = .ok (.aload 4, 2) := by decide +kernel
theorem dX0_reasonAgainst_31 : decode cX0_reasonAgainst 31 = .ok (.invokevirtual 48, 3) := by decide +kernel
theorem dX0_reasonAgainst_34 : decode cX0_reasonAgainst 34 = .ok (.ifCond .eq 5, 3) := by decide +kernel
theorem dX0_reasonAgainst_37 : decode cX0_reasonAgainst 37 = .ok (.iconst 1, 1) := by decide +kernel
theorem dX0_reasonAgainst_38 : decode cX0_reasonAgainst 38 = .ok (.ireturn, 1) := by decide +kernel
theorem dX0_reasonAgainst_39 : decode cX0_reasonAgainst 39 = .ok (.iload 5, 2) := by decide +kernel
theorem dX0_reasonAgainst_41 : decode cX0_reasonAgainst 41 = .ok (.ifCond .ne 13, 3) := by decide +kernel
theorem dX0_reasonAgainst_44 : decode cX0_reasonAgainst 44 = .ok (.aload 4, 2) := by decide +kernel
theorem dX0_reasonAgainst_46 : decode cX0_reasonAgainst 46 = .ok (.invokevirtual 48, 3) := by decide +kernel
theorem dX0_reasonAgainst_49 : decode cX0_reasonAgainst 49 = .ok (.ifCond .ne 5, 3) := by decide +kernel
theorem dX0_reasonAgainst_52 : decode cX0_reasonAgainst 52 = .ok (.iconst 2, 1) := by decide +kernel
theorem dX0_reasonAgainst_53 : decode cX0_reasonAgainst 53 = .ok (.ireturn, 1) := by decide +kernel
theorem dX0_reasonAgainst_54 : decode cX0_reasonAgainst 54 = .ok (.iload_n 1, 1) := by decide +kernel
theorem dX0_reasonAgainst_55 : decode cX0_reasonAgainst 55 = .ok (.iconst 1, 1) := by decide +kernel
theorem dX0_reasonAgainst_56 : decode cX0_reasonAgainst 56 = .ok (.if_icmp .ne 13, 3) := by decide +kernel
theorem dX0_reasonAgainst_59 : decode cX0_reasonAgainst 59 = .ok (.aload 4, 2) := by decide +kernel
theorem dX0_reasonAgainst_61 : decode cX0_reasonAgainst 61 = .ok (.invokevirtual 88, 3) := by decide +kernel
theorem dX0_reasonAgainst_64 : decode cX0_reasonAgainst 64 = .ok (.ifCond .ne 5, 3) := by decide +kernel
theorem dX0_reasonAgainst_67 : decode cX0_reasonAgainst 67 = .ok (.iconst 3, 1) := by decide +kernel
theorem dX0_reasonAgainst_68 : decode cX0_reasonAgainst 68 = .ok (.ireturn, 1) := by decide +kernel
theorem dX0_reasonAgainst_69 : decode cX0_reasonAgainst 69 = .ok (.iload_n 1, 1) := by decide +kernel
theorem dX0_reasonAgainst_70 : decode cX0_reasonAgainst 70 = .ok (.iconst 2, 1) := by decide +kernel
theorem dX0_reasonAgainst_71 : decode cX0_reasonAgainst 71 = .ok (.if_icmp .eq 8, 3) := by decide +kernel
theorem dX0_reasonAgainst_74 : decode cX0_reasonAgainst 74 = .ok (.iload_n 1, 1) := by decide +kernel
theorem dX0_reasonAgainst_75 : decode cX0_reasonAgainst 75 = .ok (.iconst 3, 1) := by decide +kernel
theorem dX0_reasonAgainst_76 : decode cX0_reasonAgainst 76 = .ok (.if_icmp .ne 13, 3) := by decide +kernel
theorem dX0_reasonAgainst_79 : decode cX0_reasonAgainst 79 = .ok (.aload 4, 2) := by decide +kernel
theorem dX0_reasonAgainst_81 : decode cX0_reasonAgainst 81 = .ok (.invokevirtual 74, 3) := by decide +kernel
theorem dX0_reasonAgainst_84 : decode cX0_reasonAgainst 84 = .ok (.ifCond .ne 5, 3) := by decide +kernel
theorem dX0_reasonAgainst_87 : decode cX0_reasonAgainst 87 = .ok (.iconst 4, 1) := by decide +kernel
theorem dX0_reasonAgainst_88 : decode cX0_reasonAgainst 88 = .ok (.ireturn, 1) := by decide +kernel
theorem dX0_reasonAgainst_89 : decode cX0_reasonAgainst 89 = .ok (.iload_n 1, 1) := by decide +kernel
theorem dX0_reasonAgainst_90 : decode cX0_reasonAgainst 90 = .ok (.iconst 3, 1) := by decide +kernel
theorem dX0_reasonAgainst_91 : decode cX0_reasonAgainst 91 = .ok (.if_icmp .ne 19, 3) := by decide +kernel
theorem dX0_reasonAgainst_94 : decode cX0_reasonAgainst 94 = .ok (.aload 4, 2) := by decide +kernel
theorem dX0_reasonAgainst_96 : decode cX0_reasonAgainst 96 = .ok (.aload_n 0, 1) := by decide +kernel
theorem dX0_reasonAgainst_97 : decode cX0_reasonAgainst 97 = .ok (.getfield 33, 3) := by decide +kernel
theorem dX0_reasonAgainst_100 : decode cX0_reasonAgainst 100 = .ok (.iconst 3, 1) := by decide +kernel
theorem dX0_reasonAgainst_101 : decode cX0_reasonAgainst 101 = .ok (.iaload, 1) := by decide +kernel
theorem dX0_reasonAgainst_102 : decode cX0_reasonAgainst 102 = .ok (.invokevirtual 91, 3) := by decide +kernel
theorem dX0_reasonAgainst_105 : decode cX0_reasonAgainst 105 = .ok (.ifCond .ne 5, 3) := by decide +kernel
theorem dX0_reasonAgainst_108 : decode cX0_reasonAgainst 108 = .ok (.iconst 5, 1) := by decide +kernel
theorem dX0_reasonAgainst_109 : decode cX0_reasonAgainst 109 = .ok (.ireturn, 1) := by decide +kernel
theorem dX0_reasonAgainst_110 : decode cX0_reasonAgainst 110 = .ok (.aload_n 0, 1) := by decide +kernel
theorem dX0_reasonAgainst_111 : decode cX0_reasonAgainst 111 = .ok (.getfield 9, 3) := by decide +kernel
theorem dX0_reasonAgainst_114 : decode cX0_reasonAgainst 114 = .ok (.aload 4, 2) := by decide +kernel
theorem dX0_reasonAgainst_116 : decode cX0_reasonAgainst 116 = .ok (.getfield 95, 3) := by decide +kernel
theorem dX0_reasonAgainst_119 : decode cX0_reasonAgainst 119 = .ok (.aload_n 0, 1) := by decide +kernel
theorem dX0_reasonAgainst_120 : decode cX0_reasonAgainst 120 = .ok (.getfield 33, 3) := by decide +kernel
theorem dX0_reasonAgainst_123 : decode cX0_reasonAgainst 123 = .ok (.iconst 2, 1) := by decide +kernel
theorem dX0_reasonAgainst_124 : decode cX0_reasonAgainst 124 = .ok (.iaload, 1) := by decide +kernel
theorem dX0_reasonAgainst_125 : decode cX0_reasonAgainst 125 = .ok (.iadd, 1) := by decide +kernel
theorem dX0_reasonAgainst_126 : decode cX0_reasonAgainst 126 = .ok (.if_icmp .le 7, 3) := by decide +kernel
theorem dX0_reasonAgainst_129 : decode cX0_reasonAgainst 129 = .ok (.iconst 1, 1) := by decide +kernel
theorem dX0_reasonAgainst_130 : decode cX0_reasonAgainst 130 = .ok (.goto 4, 3) := by decide +kernel
theorem dX0_reasonAgainst_133 : decode cX0_reasonAgainst 133 = .ok (.iconst 0, 1) := by decide +kernel
theorem dX0_reasonAgainst_134 : decode cX0_reasonAgainst 134 = .ok (.istore 6, 2) := by decide +kernel
theorem dX0_reasonAgainst_136 : decode cX0_reasonAgainst 136 = .ok (.iload_n 1, 1) := by decide +kernel
theorem dX0_reasonAgainst_137 : decode cX0_reasonAgainst 137 = .ok (.iconst 4, 1) := by decide +kernel
theorem dX0_reasonAgainst_138 : decode cX0_reasonAgainst 138 = .ok (.if_icmp .ne 22, 3) := by decide +kernel
theorem dX0_reasonAgainst_141 : decode cX0_reasonAgainst 141 = .ok (.iload 6, 2) := by decide +kernel
theorem dX0_reasonAgainst_143 : decode cX0_reasonAgainst 143 = .ok (.ifCond .ne 12, 3) := by decide +kernel
theorem dX0_reasonAgainst_146 : decode cX0_reasonAgainst 146 = .ok (.aload 4, 2) := by decide +kernel
theorem dX0_reasonAgainst_148 : decode cX0_reasonAgainst 148 = .ok (.iload_n 3, 1) := by decide +kernel
theorem dX0_reasonAgainst_149 : decode cX0_reasonAgainst 149 = .ok (.invokevirtual 98, 3) := by decide +kernel
theorem dX0_reasonAgainst_152 : decode cX0_reasonAgainst 152 = .ok (.ifCond .ne 8, 3) := by decide +kernel
theorem dX0_reasonAgainst_155 : decode cX0_reasonAgainst 155 = .ok (.bipush 6, 2) := by decide +kernel
theorem dX0_reasonAgainst_157 : decode cX0_reasonAgainst 157 = .ok (.goto 4, 3) := by decide +kernel
theorem dX0_reasonAgainst_160 : decode cX0_reasonAgainst 160 = .ok (.iconst 0, 1) := by decide +kernel
theorem dX0_reasonAgainst_161 : decode cX0_reasonAgainst 161 = .ok (.ireturn, 1) := by decide +kernel
theorem dX0_sumOverBegunPhases_0 : decode cX0_sumOverBegunPhases 0 = .ok (.iconst 0, 1) := by decide +kernel
theorem dX0_sumOverBegunPhases_1 : decode cX0_sumOverBegunPhases 1 = .ok (.istore_n 2, 1) := by decide +kernel
theorem dX0_sumOverBegunPhases_2 : decode cX0_sumOverBegunPhases 2 = .ok (.iconst 0, 1) := by decide +kernel
theorem dX0_sumOverBegunPhases_3 : decode cX0_sumOverBegunPhases 3 = .ok (.istore_n 3, 1) := by decide +kernel
theorem dX0_sumOverBegunPhases_4 : decode cX0_sumOverBegunPhases 4 = .ok (.iload_n 3, 1) := by decide +kernel
theorem dX0_sumOverBegunPhases_5 : decode cX0_sumOverBegunPhases 5 = .ok (.aload_n 0, 1) := by decide +kernel
theorem dX0_sumOverBegunPhases_6 : decode cX0_sumOverBegunPhases 6 = .ok (.getfield 15, 3) := by decide +kernel
theorem dX0_sumOverBegunPhases_9 : decode cX0_sumOverBegunPhases 9 = .ok (.if_icmp .ge 41, 3) := by decide +kernel
theorem dX0_sumOverBegunPhases_12 : decode cX0_sumOverBegunPhases 12 = .ok (.iload_n 3, 1) := by decide +kernel
theorem dX0_sumOverBegunPhases_13 : decode cX0_sumOverBegunPhases 13 = .ok (.bipush 6, 2) := by decide +kernel
theorem dX0_sumOverBegunPhases_15 : decode cX0_sumOverBegunPhases 15 = .ok (.if_icmp .ge 35, 3) := by decide +kernel
theorem dX0_sumOverBegunPhases_18 : decode cX0_sumOverBegunPhases 18 = .ok (.aload_n 0, 1) := by decide +kernel
theorem dX0_sumOverBegunPhases_19 : decode cX0_sumOverBegunPhases 19 = .ok (.getfield 38, 3) := by decide +kernel
theorem dX0_sumOverBegunPhases_22 : decode cX0_sumOverBegunPhases 22 = .ok (.iload_n 3, 1) := by decide +kernel
theorem dX0_sumOverBegunPhases_23 : decode cX0_sumOverBegunPhases 23 = .ok (.aaload, 1) := by decide +kernel
theorem dX0_sumOverBegunPhases_24 : decode cX0_sumOverBegunPhases 24 = .ok (.invokevirtual 48, 3) := by decide +kernel
theorem dX0_sumOverBegunPhases_27 : decode cX0_sumOverBegunPhases 27 = .ok (.ifCond .eq 17, 3) := by decide +kernel
theorem dX0_sumOverBegunPhases_30 : decode cX0_sumOverBegunPhases 30 = .ok (.iload_n 2, 1) := by decide +kernel
theorem dX0_sumOverBegunPhases_31 : decode cX0_sumOverBegunPhases 31 = .ok (.aload_n 0, 1) := by decide +kernel
theorem dX0_sumOverBegunPhases_32 : decode cX0_sumOverBegunPhases 32 = .ok (.aload_n 0, 1) := by decide +kernel
theorem dX0_sumOverBegunPhases_33 : decode cX0_sumOverBegunPhases 33 = .ok (.getfield 38, 3) := by decide +kernel
theorem dX0_sumOverBegunPhases_36 : decode cX0_sumOverBegunPhases 36 = .ok (.iload_n 3, 1) := by decide +kernel
theorem dX0_sumOverBegunPhases_37 : decode cX0_sumOverBegunPhases 37 = .ok (.aaload, 1) := by decide +kernel
theorem dX0_sumOverBegunPhases_38 : decode cX0_sumOverBegunPhases 38 = .ok (.iload_n 1, 1) := by decide +kernel
theorem dX0_sumOverBegunPhases_39 : decode cX0_sumOverBegunPhases 39 = .ok (.invokevirtual 101, 3) := by decide +kernel
theorem dX0_sumOverBegunPhases_42 : decode cX0_sumOverBegunPhases 42 = .ok (.iadd, 1) := by decide +kernel
theorem dX0_sumOverBegunPhases_43 : decode cX0_sumOverBegunPhases 43 = .ok (.istore_n 2, 1) := by decide +kernel
theorem dX0_sumOverBegunPhases_44 : decode cX0_sumOverBegunPhases 44 = .ok (.iinc 3 1, 3) := by decide +kernel
theorem dX0_sumOverBegunPhases_47 : decode cX0_sumOverBegunPhases 47 = .ok (.goto (-43), 3) := by decide +kernel
theorem dX0_sumOverBegunPhases_50 : decode cX0_sumOverBegunPhases 50 = .ok (.iload_n 2, 1) := by decide +kernel
theorem dX0_sumOverBegunPhases_51 : decode cX0_sumOverBegunPhases 51 = .ok (.ireturn, 1) := by decide +kernel
theorem dX0_numberOf_0 : decode cX0_numberOf 0 = .ok (.iload_n 2, 1) := by decide +kernel
theorem dX0_numberOf_1 : decode cX0_numberOf 1 = .ok (.tableswitch 96 1 9 #[51, 53, 96, 66, 71, 76, 81, 86, 91], 51) := by decide +kernel
theorem dX0_numberOf_52 : decode cX0_numberOf 52 = .ok (.iconst 1, 1) := by decide +kernel
theorem dX0_numberOf_53 : decode cX0_numberOf 53 = .ok (.ireturn, 1) := by decide +kernel
theorem dX0_numberOf_54 : decode cX0_numberOf 54 = .ok (.aload_n 1, 1) := by decide +kernel
theorem dX0_numberOf_55 : decode cX0_numberOf 55 = .ok (.getfield 63, 3) := by decide +kernel
theorem dX0_numberOf_58 : decode cX0_numberOf 58 = .ok (.ifCond .eq 7, 3) := by decide +kernel
theorem dX0_numberOf_61 : decode cX0_numberOf 61 = .ok (.iconst 1, 1) := by decide +kernel
theorem dX0_numberOf_62 : decode cX0_numberOf 62 = .ok (.goto 4, 3) := by decide +kernel
theorem dX0_numberOf_65 : decode cX0_numberOf 65 = .ok (.iconst 0, 1) := by decide +kernel
theorem dX0_numberOf_66 : decode cX0_numberOf 66 = .ok (.ireturn, 1) := by decide +kernel
theorem dX0_numberOf_67 : decode cX0_numberOf 67 = .ok (.aload_n 1, 1) := by decide +kernel
theorem dX0_numberOf_68 : decode cX0_numberOf 68 = .ok (.invokevirtual 105, 3) := by decide +kernel
theorem dX0_numberOf_71 : decode cX0_numberOf 71 = .ok (.ireturn, 1) := by decide +kernel
theorem dX0_numberOf_72 : decode cX0_numberOf 72 = .ok (.aload_n 1, 1) := by decide +kernel
theorem dX0_numberOf_73 : decode cX0_numberOf 73 = .ok (.invokevirtual 108, 3) := by decide +kernel
theorem dX0_numberOf_76 : decode cX0_numberOf 76 = .ok (.ireturn, 1) := by decide +kernel
theorem dX0_numberOf_77 : decode cX0_numberOf 77 = .ok (.aload_n 1, 1) := by decide +kernel
theorem dX0_numberOf_78 : decode cX0_numberOf 78 = .ok (.getfield 111, 3) := by decide +kernel
theorem dX0_numberOf_81 : decode cX0_numberOf 81 = .ok (.ireturn, 1) := by decide +kernel
theorem dX0_numberOf_82 : decode cX0_numberOf 82 = .ok (.aload_n 1, 1) := by decide +kernel
theorem dX0_numberOf_83 : decode cX0_numberOf 83 = .ok (.getfield 114, 3) := by decide +kernel
theorem dX0_numberOf_86 : decode cX0_numberOf 86 = .ok (.ireturn, 1) := by decide +kernel
theorem dX0_numberOf_87 : decode cX0_numberOf 87 = .ok (.aload_n 1, 1) := by decide +kernel
theorem dX0_numberOf_88 : decode cX0_numberOf 88 = .ok (.getfield 67, 3) := by decide +kernel
theorem dX0_numberOf_91 : decode cX0_numberOf 91 = .ok (.ireturn, 1) := by decide +kernel
theorem dX0_numberOf_92 : decode cX0_numberOf 92 = .ok (.aload_n 1, 1) := by decide +kernel
theorem dX0_numberOf_93 : decode cX0_numberOf 93 = .ok (.invokevirtual 74, 3) := by decide +kernel
theorem dX0_numberOf_96 : decode cX0_numberOf 96 = .ok (.ireturn, 1) := by decide +kernel
theorem dX0_numberOf_97 : decode cX0_numberOf 97 = .ok (.aload_n 1, 1) := by decide +kernel
theorem dX0_numberOf_98 : decode cX0_numberOf 98 = .ok (.aload_n 0, 1) := by decide +kernel
theorem dX0_numberOf_99 : decode cX0_numberOf 99 = .ok (.getfield 9, 3) := by decide +kernel
theorem dX0_numberOf_102 : decode cX0_numberOf 102 = .ok (.invokevirtual 117, 3) := by decide +kernel
theorem dX0_numberOf_105 : decode cX0_numberOf 105 = .ok (.ireturn, 1) := by decide +kernel
theorem dX1_init_0 : decode cX1_init 0 = .ok (.aload_n 0, 1) := by decide +kernel
theorem dX1_init_1 : decode cX1_init 1 = .ok (.invokespecial 3, 3) := by decide +kernel
theorem dX1_init_4 : decode cX1_init 4 = .ok (.aload_n 0, 1) := by decide +kernel
theorem dX1_init_5 : decode cX1_init 5 = .ok (.bipush 60, 2) := by decide +kernel
theorem dX1_init_7 : decode cX1_init 7 = .ok (.newarray .int, 2) := by decide +kernel
theorem dX1_init_9 : decode cX1_init 9 = .ok (.putfield 9, 3) := by decide +kernel
theorem dX1_init_12 : decode cX1_init 12 = .ok (.aload_n 0, 1) := by decide +kernel
theorem dX1_init_13 : decode cX1_init 13 = .ok (.iconst 0, 1) := by decide +kernel
theorem dX1_init_14 : decode cX1_init 14 = .ok (.putfield 15, 3) := by decide +kernel
theorem dX1_init_17 : decode cX1_init 17 = .ok (.aload_n 0, 1) := by decide +kernel
theorem dX1_init_18 : decode cX1_init 18 = .ok (.iconst 0, 1) := by decide +kernel
theorem dX1_init_19 : decode cX1_init 19 = .ok (.putfield 19, 3) := by decide +kernel
theorem dX1_init_22 : decode cX1_init 22 = .ok (.return_, 1) := by decide +kernel
theorem dX1_appendCode_0 : decode cX1_appendCode 0 = .ok (.aload_n 0, 1) := by decide +kernel
theorem dX1_appendCode_1 : decode cX1_appendCode 1 = .ok (.getfield 15, 3) := by decide +kernel
theorem dX1_appendCode_4 : decode cX1_appendCode 4 = .ok (.bipush 60, 2) := by decide +kernel
theorem dX1_appendCode_6 : decode cX1_appendCode 6 = .ok (.if_icmp .ge 23, 3) := by decide +kernel
theorem dX1_appendCode_9 : decode cX1_appendCode 9 = .ok (.aload_n 0, 1) := by decide +kernel
theorem dX1_appendCode_10 : decode cX1_appendCode 10 = .ok (.getfield 9, 3) := by decide +kernel
theorem dX1_appendCode_13 : decode cX1_appendCode 13 = .ok (.aload_n 0, 1) := by decide +kernel
theorem dX1_appendCode_14 : decode cX1_appendCode 14 = .ok (.getfield 15, 3) := by decide +kernel
theorem dX1_appendCode_17 : decode cX1_appendCode 17 = .ok (.iload_n 1, 1) := by decide +kernel
theorem dX1_appendCode_18 : decode cX1_appendCode 18 = .ok (.iastore, 1) := by decide +kernel
theorem dX1_appendCode_19 : decode cX1_appendCode 19 = .ok (.aload_n 0, 1) := by decide +kernel
theorem dX1_appendCode_20 : decode cX1_appendCode 20 = .ok (.dup, 1) := by decide +kernel
theorem dX1_appendCode_21 : decode cX1_appendCode 21 = .ok (.getfield 15, 3) := by decide +kernel
theorem dX1_appendCode_24 : decode cX1_appendCode 24 = .ok (.iconst 1, 1) := by decide +kernel
theorem dX1_appendCode_25 : decode cX1_appendCode 25 = .ok (.iadd, 1) := by decide +kernel
theorem dX1_appendCode_26 : decode cX1_appendCode 26 = .ok (.putfield 15, 3) := by decide +kernel
theorem dX1_appendCode_29 : decode cX1_appendCode 29 = .ok (.aload_n 0, 1) := by decide +kernel
theorem dX1_appendCode_30 : decode cX1_appendCode 30 = .ok (.getfield 15, 3) := by decide +kernel
theorem dX1_appendCode_33 : decode cX1_appendCode 33 = .ok (.ireturn, 1) := by decide +kernel
theorem dX1_rewind_0 : decode cX1_rewind 0 = .ok (.aload_n 0, 1) := by decide +kernel
theorem dX1_rewind_1 : decode cX1_rewind 1 = .ok (.iconst 0, 1) := by decide +kernel
theorem dX1_rewind_2 : decode cX1_rewind 2 = .ok (.putfield 19, 3) := by decide +kernel
theorem dX1_rewind_5 : decode cX1_rewind 5 = .ok (.return_, 1) := by decide +kernel
theorem dX1_readRow_0 : decode cX1_readRow 0 = .ok (.aload_n 0, 1) := by decide +kernel
theorem dX1_readRow_1 : decode cX1_readRow 1 = .ok (.invokevirtual 22, 3) := by decide +kernel
theorem dX1_readRow_4 : decode cX1_readRow 4 = .ok (.aload_n 0, 1) := by decide +kernel
theorem dX1_readRow_5 : decode cX1_readRow 5 = .ok (.invokevirtual 25, 3) := by decide +kernel
theorem dX1_readRow_8 : decode cX1_readRow 8 = .ok (.istore_n 1, 1) := by decide +kernel
theorem dX1_readRow_9 : decode cX1_readRow 9 = .ok (.iconst 0, 1) := by decide +kernel
theorem dX1_readRow_10 : decode cX1_readRow 10 = .ok (.istore_n 2, 1) := by decide +kernel
theorem dX1_readRow_11 : decode cX1_readRow 11 = .ok (.iload_n 2, 1) := by decide +kernel
theorem dX1_readRow_12 : decode cX1_readRow 12 = .ok (.bipush 60, 2) := by decide +kernel
theorem dX1_readRow_14 : decode cX1_readRow 14 = .ok (.if_icmp .ge 29, 3) := by decide +kernel
theorem dX1_readRow_17 : decode cX1_readRow 17 = .ok (.iload_n 1, 1) := by decide +kernel
theorem dX1_readRow_18 : decode cX1_readRow 18 = .ok (.ifCond .eq 25, 3) := by decide +kernel
theorem dX1_readRow_21 : decode cX1_readRow 21 = .ok (.aload_n 0, 1) := by decide +kernel
theorem dX1_readRow_22 : decode cX1_readRow 22 = .ok (.getfield 19, 3) := by decide +kernel
theorem dX1_readRow_25 : decode cX1_readRow 25 = .ok (.aload_n 0, 1) := by decide +kernel
theorem dX1_readRow_26 : decode cX1_readRow 26 = .ok (.getfield 15, 3) := by decide +kernel
theorem dX1_readRow_29 : decode cX1_readRow 29 = .ok (.if_icmp .ge 14, 3) := by decide +kernel
theorem dX1_readRow_32 : decode cX1_readRow 32 = .ok (.aload_n 0, 1) := by decide +kernel
theorem dX1_readRow_33 : decode cX1_readRow 33 = .ok (.invokevirtual 25, 3) := by decide +kernel
theorem dX1_readRow_36 : decode cX1_readRow 36 = .ok (.istore_n 1, 1) := by decide +kernel
theorem dX1_readRow_37 : decode cX1_readRow 37 = .ok (.iinc 2 1, 3) := by decide +kernel
theorem dX1_readRow_40 : decode cX1_readRow 40 = .ok (.goto (-29), 3) := by decide +kernel
theorem dX1_readRow_43 : decode cX1_readRow 43 = .ok (.iload_n 1, 1) := by decide +kernel
theorem dX1_readRow_44 : decode cX1_readRow 44 = .ok (.ireturn, 1) := by decide +kernel
theorem dX1_readNextOrder_0 : decode cX1_readNextOrder 0 = .ok (.aload_n 0, 1) := by decide +kernel
theorem dX1_readNextOrder_1 : decode cX1_readNextOrder 1 = .ok (.getfield 19, 3) := by decide +kernel
theorem dX1_readNextOrder_4 : decode cX1_readNextOrder 4 = .ok (.ifCond .eq 12, 3) := by decide +kernel
theorem dX1_readNextOrder_7 : decode cX1_readNextOrder 7 = .ok (.aload_n 0, 1) := by decide +kernel
theorem dX1_readNextOrder_8 : decode cX1_readNextOrder 8 = .ok (.bipush 59, 2) := by decide +kernel
theorem dX1_readNextOrder_10 : decode cX1_readNextOrder 10 = .ok (.invokevirtual 29, 3) := by decide +kernel
theorem dX1_readNextOrder_13 : decode cX1_readNextOrder 13 = .ok (.ifCond .eq 14, 3) := by decide +kernel
theorem dX1_readNextOrder_16 : decode cX1_readNextOrder 16 = .ok (.aload_n 0, 1) := by decide +kernel
theorem dX1_readNextOrder_17 : decode cX1_readNextOrder 17 = .ok (.invokevirtual 33, 3) := by decide +kernel
theorem dX1_readNextOrder_20 : decode cX1_readNextOrder 20 = .ok (.ifCond .eq 7, 3) := by decide +kernel
theorem dX1_readNextOrder_23 : decode cX1_readNextOrder 23 = .ok (.iconst 1, 1) := by decide +kernel
theorem dX1_readNextOrder_24 : decode cX1_readNextOrder 24 = .ok (.goto 4, 3) := by decide +kernel
theorem dX1_readNextOrder_27 : decode cX1_readNextOrder 27 = .ok (.iconst 0, 1) := by decide +kernel
theorem dX1_readNextOrder_28 : decode cX1_readNextOrder 28 = .ok (.ireturn, 1) := by decide +kernel
theorem dX1_readOrder_0 : decode cX1_readOrder 0 = .ok (.aload_n 0, 1) := by decide +kernel
theorem dX1_readOrder_1 : decode cX1_readOrder 1 = .ok (.bipush 97, 2) := by decide +kernel
theorem dX1_readOrder_3 : decode cX1_readOrder 3 = .ok (.invokevirtual 29, 3) := by decide +kernel
theorem dX1_readOrder_6 : decode cX1_readOrder 6 = .ok (.ifCond .eq 47, 3) := by decide +kernel
theorem dX1_readOrder_9 : decode cX1_readOrder 9 = .ok (.aload_n 0, 1) := by decide +kernel
theorem dX1_readOrder_10 : decode cX1_readOrder 10 = .ok (.bipush 97, 2) := by decide +kernel
theorem dX1_readOrder_12 : decode cX1_readOrder 12 = .ok (.putfield 36, 3) := by decide +kernel
theorem dX1_readOrder_15 : decode cX1_readOrder 15 = .ok (.aload_n 0, 1) := by decide +kernel
theorem dX1_readOrder_16 : decode cX1_readOrder 16 = .ok (.invokevirtual 39, 3) := by decide +kernel
theorem dX1_readOrder_19 : decode cX1_readOrder 19 = .ok (.ifCond .eq 32, 3) := by decide +kernel
theorem dX1_readOrder_22 : decode cX1_readOrder 22 = .ok (.aload_n 0, 1) := by decide +kernel
theorem dX1_readOrder_23 : decode cX1_readOrder 23 = .ok (.invokevirtual 42, 3) := by decide +kernel
theorem dX1_readOrder_26 : decode cX1_readOrder 26 = .ok (.ifCond .eq 25, 3) := by decide +kernel
theorem dX1_readOrder_29 : decode cX1_readOrder 29 = .ok (.aload_n 0, 1) := by decide +kernel
theorem dX1_readOrder_30 : decode cX1_readOrder 30 = .ok (.bipush 61, 2) := by decide +kernel
theorem dX1_readOrder_32 : decode cX1_readOrder 32 = .ok (.invokevirtual 29, 3) := by decide +kernel
theorem dX1_readOrder_35 : decode cX1_readOrder 35 = .ok (.ifCond .eq 16, 3) := by decide +kernel
theorem dX1_readOrder_38 : decode cX1_readOrder 38 = .ok (.aload_n 0, 1) := by decide +kernel
theorem dX1_readOrder_39 : decode cX1_readOrder 39 = .ok (.iconst 0, 1) := by decide +kernel
theorem dX1_readOrder_40 : decode cX1_readOrder 40 = .ok (.iconst 3, 1) := by decide +kernel
theorem dX1_readOrder_41 : decode cX1_readOrder 41 = .ok (.invokevirtual 45, 3) := by decide +kernel
theorem dX1_readOrder_44 : decode cX1_readOrder 44 = .ok (.ifCond .eq 7, 3) := by decide +kernel
theorem dX1_readOrder_47 : decode cX1_readOrder 47 = .ok (.iconst 1, 1) := by decide +kernel
theorem dX1_readOrder_48 : decode cX1_readOrder 48 = .ok (.goto 4, 3) := by decide +kernel
theorem dX1_readOrder_51 : decode cX1_readOrder 51 = .ok (.iconst 0, 1) := by decide +kernel
theorem dX1_readOrder_52 : decode cX1_readOrder 52 = .ok (.ireturn, 1) := by decide +kernel
theorem dX1_readOrder_53 : decode cX1_readOrder 53 = .ok (.aload_n 0, 1) := by decide +kernel
theorem dX1_readOrder_54 : decode cX1_readOrder 54 = .ok (.bipush 98, 2) := by decide +kernel
theorem dX1_readOrder_56 : decode cX1_readOrder 56 = .ok (.invokevirtual 29, 3) := by decide +kernel
theorem dX1_readOrder_59 : decode cX1_readOrder 59 = .ok (.ifCond .eq 14, 3) := by decide +kernel
theorem dX1_readOrder_62 : decode cX1_readOrder 62 = .ok (.aload_n 0, 1) := by decide +kernel
theorem dX1_readOrder_63 : decode cX1_readOrder 63 = .ok (.bipush 98, 2) := by decide +kernel
theorem dX1_readOrder_65 : decode cX1_readOrder 65 = .ok (.putfield 36, 3) := by decide +kernel
theorem dX1_readOrder_68 : decode cX1_readOrder 68 = .ok (.aload_n 0, 1) := by decide +kernel
theorem dX1_readOrder_69 : decode cX1_readOrder 69 = .ok (.invokevirtual 39, 3) := by decide +kernel
theorem dX1_readOrder_72 : decode cX1_readOrder 72 = .ok (.ireturn, 1) := by decide +kernel
theorem dX1_readOrder_73 : decode cX1_readOrder 73 = .ok (.aload_n 0, 1) := by decide +kernel
theorem dX1_readOrder_74 : decode cX1_readOrder 74 = .ok (.bipush 112, 2) := by decide +kernel
theorem dX1_readOrder_76 : decode cX1_readOrder 76 = .ok (.invokevirtual 29, 3) := by decide +kernel
theorem dX1_readOrder_79 : decode cX1_readOrder 79 = .ok (.ifCond .eq 40, 3) := by decide +kernel
theorem dX1_readOrder_82 : decode cX1_readOrder 82 = .ok (.aload_n 0, 1) := by decide +kernel
theorem dX1_readOrder_83 : decode cX1_readOrder 83 = .ok (.bipush 112, 2) := by decide +kernel
theorem dX1_readOrder_85 : decode cX1_readOrder 85 = .ok (.putfield 36, 3) := by decide +kernel
theorem dX1_readOrder_88 : decode cX1_readOrder 88 = .ok (.aload_n 0, 1) := by decide +kernel
theorem dX1_readOrder_89 : decode cX1_readOrder 89 = .ok (.invokevirtual 39, 3) := by decide +kernel
theorem dX1_readOrder_92 : decode cX1_readOrder 92 = .ok (.ifCond .eq 25, 3) := by decide +kernel
theorem dX1_readOrder_95 : decode cX1_readOrder 95 = .ok (.aload_n 0, 1) := by decide +kernel
theorem dX1_readOrder_96 : decode cX1_readOrder 96 = .ok (.bipush 58, 2) := by decide +kernel
theorem dX1_readOrder_98 : decode cX1_readOrder 98 = .ok (.invokevirtual 29, 3) := by decide +kernel
theorem dX1_readOrder_101 : decode cX1_readOrder 101 = .ok (.ifCond .eq 16, 3) := by decide +kernel
theorem dX1_readOrder_104 : decode cX1_readOrder 104 = .ok (.aload_n 0, 1) := by decide +kernel
theorem dX1_readOrder_105 : decode cX1_readOrder 105 = .ok (.iconst 1, 1) := by decide +kernel
theorem dX1_readOrder_106 : decode cX1_readOrder 106 = .ok (.iconst 5, 1) := by decide +kernel
theorem dX1_readOrder_107 : decode cX1_readOrder 107 = .ok (.invokevirtual 45, 3) := by decide +kernel
theorem dX1_readOrder_110 : decode cX1_readOrder 110 = .ok (.ifCond .eq 7, 3) := by decide +kernel
theorem dX1_readOrder_113 : decode cX1_readOrder 113 = .ok (.iconst 1, 1) := by decide +kernel
theorem dX1_readOrder_114 : decode cX1_readOrder 114 = .ok (.goto 4, 3) := by decide +kernel
theorem dX1_readOrder_117 : decode cX1_readOrder 117 = .ok (.iconst 0, 1) := by decide +kernel
theorem dX1_readOrder_118 : decode cX1_readOrder 118 = .ok (.ireturn, 1) := by decide +kernel
theorem dX1_readOrder_119 : decode cX1_readOrder 119 = .ok (.aload_n 0, 1) := by decide +kernel
theorem dX1_readOrder_120 : decode cX1_readOrder 120 = .ok (.bipush 100, 2) := by decide +kernel
theorem dX1_readOrder_122 : decode cX1_readOrder 122 = .ok (.putfield 36, 3) := by decide +kernel
theorem dX1_readOrder_125 : decode cX1_readOrder 125 = .ok (.aload_n 0, 1) := by decide +kernel
theorem dX1_readOrder_126 : decode cX1_readOrder 126 = .ok (.bipush 100, 2) := by decide +kernel
theorem dX1_readOrder_128 : decode cX1_readOrder 128 = .ok (.invokevirtual 29, 3) := by decide +kernel
theorem dX1_readOrder_131 : decode cX1_readOrder 131 = .ok (.ifCond .eq 16, 3) := by decide +kernel
theorem dX1_readOrder_134 : decode cX1_readOrder 134 = .ok (.aload_n 0, 1) := by decide +kernel
theorem dX1_readOrder_135 : decode cX1_readOrder 135 = .ok (.iconst 1, 1) := by decide +kernel
theorem dX1_readOrder_136 : decode cX1_readOrder 136 = .ok (.iconst 2, 1) := by decide +kernel
theorem dX1_readOrder_137 : decode cX1_readOrder 137 = .ok (.invokevirtual 45, 3) := by decide +kernel
theorem dX1_readOrder_140 : decode cX1_readOrder 140 = .ok (.ifCond .eq 7, 3) := by decide +kernel
theorem dX1_readOrder_143 : decode cX1_readOrder 143 = .ok (.iconst 1, 1) := by decide +kernel
theorem dX1_readOrder_144 : decode cX1_readOrder 144 = .ok (.goto 4, 3) := by decide +kernel
theorem dX1_readOrder_147 : decode cX1_readOrder 147 = .ok (.iconst 0, 1) := by decide +kernel
theorem dX1_readOrder_148 : decode cX1_readOrder 148 = .ok (.ireturn, 1) := by decide +kernel
theorem dX1_readPhase_0 : decode cX1_readPhase 0 = .ok (.aload_n 0, 1) := by decide +kernel
theorem dX1_readPhase_1 : decode cX1_readPhase 1 = .ok (.aload_n 0, 1) := by decide +kernel
theorem dX1_readPhase_2 : decode cX1_readPhase 2 = .ok (.iconst 0, 1) := by decide +kernel
theorem dX1_readPhase_3 : decode cX1_readPhase 3 = .ok (.iconst 5, 1) := by decide +kernel
theorem dX1_readPhase_4 : decode cX1_readPhase 4 = .ok (.invokevirtual 49, 3) := by decide +kernel
theorem dX1_readPhase_7 : decode cX1_readPhase 7 = .ok (.putfield 53, 3) := by decide +kernel
theorem dX1_readPhase_10 : decode cX1_readPhase 10 = .ok (.aload_n 0, 1) := by decide +kernel
theorem dX1_readPhase_11 : decode cX1_readPhase 11 = .ok (.getfield 53, 3) := by decide +kernel
theorem dX1_readPhase_14 : decode cX1_readPhase 14 = .ok (.iconst (-1), 1) := by decide +kernel
theorem dX1_readPhase_15 : decode cX1_readPhase 15 = .ok (.if_icmp .eq 7, 3) := by decide +kernel
theorem dX1_readPhase_18 : decode cX1_readPhase 18 = .ok (.iconst 1, 1) := by decide +kernel
theorem dX1_readPhase_19 : decode cX1_readPhase 19 = .ok (.goto 4, 3) := by decide +kernel
theorem dX1_readPhase_22 : decode cX1_readPhase 22 = .ok (.iconst 0, 1) := by decide +kernel
theorem dX1_readPhase_23 : decode cX1_readPhase 23 = .ok (.ireturn, 1) := by decide +kernel
theorem dX1_readUse_0 : decode cX1_readUse 0 = .ok (.aload_n 0, 1) := by decide +kernel
theorem dX1_readUse_1 : decode cX1_readUse 1 = .ok (.aload_n 0, 1) := by decide +kernel
theorem dX1_readUse_2 : decode cX1_readUse 2 = .ok (.iconst 0, 1) := by decide +kernel
theorem dX1_readUse_3 : decode cX1_readUse 3 = .ok (.iconst 3, 1) := by decide +kernel
theorem dX1_readUse_4 : decode cX1_readUse 4 = .ok (.invokevirtual 49, 3) := by decide +kernel
theorem dX1_readUse_7 : decode cX1_readUse 7 = .ok (.putfield 56, 3) := by decide +kernel
theorem dX1_readUse_10 : decode cX1_readUse 10 = .ok (.aload_n 0, 1) := by decide +kernel
theorem dX1_readUse_11 : decode cX1_readUse 11 = .ok (.getfield 56, 3) := by decide +kernel
theorem dX1_readUse_14 : decode cX1_readUse 14 = .ok (.iconst (-1), 1) := by decide +kernel
theorem dX1_readUse_15 : decode cX1_readUse 15 = .ok (.if_icmp .eq 7, 3) := by decide +kernel
theorem dX1_readUse_18 : decode cX1_readUse 18 = .ok (.iconst 1, 1) := by decide +kernel
theorem dX1_readUse_19 : decode cX1_readUse 19 = .ok (.goto 4, 3) := by decide +kernel
theorem dX1_readUse_22 : decode cX1_readUse 22 = .ok (.iconst 0, 1) := by decide +kernel
theorem dX1_readUse_23 : decode cX1_readUse 23 = .ok (.ireturn, 1) := by decide +kernel
theorem dX1_readNumber_0 : decode cX1_readNumber 0 = .ok (.aload_n 0, 1) := by decide +kernel
theorem dX1_readNumber_1 : decode cX1_readNumber 1 = .ok (.aload_n 0, 1) := by decide +kernel
theorem dX1_readNumber_2 : decode cX1_readNumber 2 = .ok (.iload_n 1, 1) := by decide +kernel
theorem dX1_readNumber_3 : decode cX1_readNumber 3 = .ok (.bipush 9, 2) := by decide +kernel
theorem dX1_readNumber_5 : decode cX1_readNumber 5 = .ok (.invokevirtual 49, 3) := by decide +kernel
theorem dX1_readNumber_8 : decode cX1_readNumber 8 = .ok (.putfield 59, 3) := by decide +kernel
theorem dX1_readNumber_11 : decode cX1_readNumber 11 = .ok (.aload_n 0, 1) := by decide +kernel
theorem dX1_readNumber_12 : decode cX1_readNumber 12 = .ok (.getfield 59, 3) := by decide +kernel
theorem dX1_readNumber_15 : decode cX1_readNumber 15 = .ok (.iconst (-1), 1) := by decide +kernel
theorem dX1_readNumber_16 : decode cX1_readNumber 16 = .ok (.if_icmp .ne 5, 3) := by decide +kernel
theorem dX1_readNumber_19 : decode cX1_readNumber 19 = .ok (.iconst 0, 1) := by decide +kernel
theorem dX1_readNumber_20 : decode cX1_readNumber 20 = .ok (.ireturn, 1) := by decide +kernel
theorem dX1_readNumber_21 : decode cX1_readNumber 21 = .ok (.aload_n 0, 1) := by decide +kernel
theorem dX1_readNumber_22 : decode cX1_readNumber 22 = .ok (.getfield 59, 3) := by decide +kernel
theorem dX1_readNumber_25 : decode cX1_readNumber 25 = .ok (.ifCond .ne 7, 3) := by decide +kernel
theorem dX1_readNumber_28 : decode cX1_readNumber 28 = .ok (.iload_n 2, 1) := by decide +kernel
theorem dX1_readNumber_29 : decode cX1_readNumber 29 = .ok (.goto 4, 3) := by decide +kernel
theorem dX1_readNumber_32 : decode cX1_readNumber 32 = .ok (.iconst 1, 1) := by decide +kernel
theorem dX1_readNumber_33 : decode cX1_readNumber 33 = .ok (.istore_n 3, 1) := by decide +kernel
theorem dX1_readNumber_34 : decode cX1_readNumber 34 = .ok (.iload_n 3, 1) := by decide +kernel
theorem dX1_readNumber_35 : decode cX1_readNumber 35 = .ok (.iload_n 2, 1) := by decide +kernel
theorem dX1_readNumber_36 : decode cX1_readNumber 36 = .ok (.if_icmp .ge 38, 3) := by decide +kernel
theorem dX1_readNumber_39 : decode cX1_readNumber 39 = .ok (.aload_n 0, 1) := by decide +kernel
theorem dX1_readNumber_40 : decode cX1_readNumber 40 = .ok (.iconst 0, 1) := by decide +kernel
theorem dX1_readNumber_41 : decode cX1_readNumber 41 = .ok (.bipush 9, 2) := by decide +kernel
theorem dX1_readNumber_43 : decode cX1_readNumber 43 = .ok (.invokevirtual 62, 3) := by decide +kernel
theorem dX1_readNumber_46 : decode cX1_readNumber 46 = .ok (.ifCond .eq 28, 3) := by decide +kernel
theorem dX1_readNumber_49 : decode cX1_readNumber 49 = .ok (.aload_n 0, 1) := by decide +kernel
theorem dX1_readNumber_50 : decode cX1_readNumber 50 = .ok (.bipush 10, 2) := by decide +kernel
theorem dX1_readNumber_52 : decode cX1_readNumber 52 = .ok (.aload_n 0, 1) := by decide +kernel
theorem dX1_readNumber_53 : decode cX1_readNumber 53 = .ok (.getfield 59, 3) := by decide +kernel
theorem dX1_readNumber_56 : decode cX1_readNumber 56 = .ok (.imul, 1) := by decide +kernel
theorem dX1_readNumber_57 : decode cX1_readNumber 57 = .ok (.aload_n 0, 1) := by decide +kernel
theorem dX1_readNumber_58 : decode cX1_readNumber 58 = .ok (.iconst 0, 1) := by decide +kernel
theorem dX1_readNumber_59 : decode cX1_readNumber 59 = .ok (.bipush 9, 2) := by decide +kernel
theorem dX1_readNumber_61 : decode cX1_readNumber 61 = .ok (.invokevirtual 49, 3) := by decide +kernel
theorem dX1_readNumber_64 : decode cX1_readNumber 64 = .ok (.iadd, 1) := by decide +kernel
theorem dX1_readNumber_65 : decode cX1_readNumber 65 = .ok (.putfield 59, 3) := by decide +kernel
theorem dX1_readNumber_68 : decode cX1_readNumber 68 = .ok (.iinc 3 1, 3) := by decide +kernel
theorem dX1_readNumber_71 : decode cX1_readNumber 71 = .ok (.goto (-37), 3) := by decide +kernel
theorem dX1_readNumber_74 : decode cX1_readNumber 74 = .ok (.iconst 1, 1) := by decide +kernel
theorem dX1_readNumber_75 : decode cX1_readNumber 75 = .ok (.ireturn, 1) := by decide +kernel
theorem dX1_readDigit_0 : decode cX1_readDigit 0 = .ok (.aload_n 0, 1) := by decide +kernel
theorem dX1_readDigit_1 : decode cX1_readDigit 1 = .ok (.iload_n 1, 1) := by decide +kernel
theorem dX1_readDigit_2 : decode cX1_readDigit 2 = .ok (.iload_n 2, 1) := by decide +kernel
theorem dX1_readDigit_3 : decode cX1_readDigit 3 = .ok (.invokevirtual 62, 3) := by decide +kernel
theorem dX1_readDigit_6 : decode cX1_readDigit 6 = .ok (.ifCond .ne 5, 3) := by decide +kernel
theorem dX1_readDigit_9 : decode cX1_readDigit 9 = .ok (.iconst (-1), 1) := by decide +kernel
theorem dX1_readDigit_10 : decode cX1_readDigit 10 = .ok (.ireturn, 1) := by decide +kernel
theorem dX1_readDigit_11 : decode cX1_readDigit 11 = .ok (.aload_n 0, 1) := by decide +kernel
theorem dX1_readDigit_12 : decode cX1_readDigit 12 = .ok (.dup, 1) := by decide +kernel
theorem dX1_readDigit_13 : decode cX1_readDigit 13 = .ok (.getfield 19, 3) := by decide +kernel
theorem dX1_readDigit_16 : decode cX1_readDigit 16 = .ok (.iconst 1, 1) := by decide +kernel
theorem dX1_readDigit_17 : decode cX1_readDigit 17 = .ok (.iadd, 1) := by decide +kernel
theorem dX1_readDigit_18 : decode cX1_readDigit 18 = .ok (.putfield 19, 3) := by decide +kernel
theorem dX1_readDigit_21 : decode cX1_readDigit 21 = .ok (.aload_n 0, 1) := by decide +kernel
theorem dX1_readDigit_22 : decode cX1_readDigit 22 = .ok (.getfield 9, 3) := by decide +kernel
theorem dX1_readDigit_25 : decode cX1_readDigit 25 = .ok (.aload_n 0, 1) := by decide +kernel
theorem dX1_readDigit_26 : decode cX1_readDigit 26 = .ok (.getfield 19, 3) := by decide +kernel
theorem dX1_readDigit_29 : decode cX1_readDigit 29 = .ok (.iconst 1, 1) := by decide +kernel
theorem dX1_readDigit_30 : decode cX1_readDigit 30 = .ok (.isub, 1) := by decide +kernel
theorem dX1_readDigit_31 : decode cX1_readDigit 31 = .ok (.iaload, 1) := by decide +kernel
theorem dX1_readDigit_32 : decode cX1_readDigit 32 = .ok (.bipush 48, 2) := by decide +kernel
theorem dX1_readDigit_34 : decode cX1_readDigit 34 = .ok (.isub, 1) := by decide +kernel
theorem dX1_readDigit_35 : decode cX1_readDigit 35 = .ok (.ireturn, 1) := by decide +kernel
theorem dX1_isDigit_0 : decode cX1_isDigit 0 = .ok (.aload_n 0, 1) := by decide +kernel
theorem dX1_isDigit_1 : decode cX1_isDigit 1 = .ok (.getfield 19, 3) := by decide +kernel
theorem dX1_isDigit_4 : decode cX1_isDigit 4 = .ok (.ifCond .lt 50, 3) := by decide +kernel
theorem dX1_isDigit_7 : decode cX1_isDigit 7 = .ok (.aload_n 0, 1) := by decide +kernel
theorem dX1_isDigit_8 : decode cX1_isDigit 8 = .ok (.getfield 19, 3) := by decide +kernel
theorem dX1_isDigit_11 : decode cX1_isDigit 11 = .ok (.aload_n 0, 1) := by decide +kernel
theorem dX1_isDigit_12 : decode cX1_isDigit 12 = .ok (.getfield 15, 3) := by decide +kernel
theorem dX1_isDigit_15 : decode cX1_isDigit 15 = .ok (.if_icmp .ge 39, 3) := by decide +kernel
theorem dX1_isDigit_18 : decode cX1_isDigit 18 = .ok (.aload_n 0, 1) := by decide +kernel
theorem dX1_isDigit_19 : decode cX1_isDigit 19 = .ok (.getfield 9, 3) := by decide +kernel
theorem dX1_isDigit_22 : decode cX1_isDigit 22 = .ok (.aload_n 0, 1) := by decide +kernel
theorem dX1_isDigit_23 : decode cX1_isDigit 23 = .ok (.getfield 19, 3) := by decide +kernel
theorem dX1_isDigit_26 : decode cX1_isDigit 26 = .ok (.iaload, 1) := by decide +kernel
theorem dX1_isDigit_27 : decode cX1_isDigit 27 = .ok (.bipush 48, 2) := by decide +kernel
theorem dX1_isDigit_29 : decode cX1_isDigit 29 = .ok (.iload_n 1, 1) := by decide +kernel
theorem dX1_isDigit_30 : decode cX1_isDigit 30 = .ok (.iadd, 1) := by decide +kernel
theorem dX1_isDigit_31 : decode cX1_isDigit 31 = .ok (.if_icmp .lt 23, 3) := by decide +kernel
theorem dX1_isDigit_34 : decode cX1_isDigit 34 = .ok (.aload_n 0, 1) := by decide +kernel
theorem dX1_isDigit_35 : decode cX1_isDigit 35 = .ok (.getfield 9, 3) := by decide +kernel
theorem dX1_isDigit_38 : decode cX1_isDigit 38 = .ok (.aload_n 0, 1) := by decide +kernel
theorem dX1_isDigit_39 : decode cX1_isDigit 39 = .ok (.getfield 19, 3) := by decide +kernel
theorem dX1_isDigit_42 : decode cX1_isDigit 42 = .ok (.iaload, 1) := by decide +kernel
theorem dX1_isDigit_43 : decode cX1_isDigit 43 = .ok (.bipush 48, 2) := by decide +kernel
theorem dX1_isDigit_45 : decode cX1_isDigit 45 = .ok (.iload_n 2, 1) := by decide +kernel
theorem dX1_isDigit_46 : decode cX1_isDigit 46 = .ok (.iadd, 1) := by decide +kernel
theorem dX1_isDigit_47 : decode cX1_isDigit 47 = .ok (.if_icmp .gt 7, 3) := by decide +kernel
theorem dX1_isDigit_50 : decode cX1_isDigit 50 = .ok (.iconst 1, 1) := by decide +kernel
theorem dX1_isDigit_51 : decode cX1_isDigit 51 = .ok (.goto 4, 3) := by decide +kernel
theorem dX1_isDigit_54 : decode cX1_isDigit 54 = .ok (.iconst 0, 1) := by decide +kernel
theorem dX1_isDigit_55 : decode cX1_isDigit 55 = .ok (.ireturn, 1) := by decide +kernel
theorem dX1_readSign_0 : decode cX1_readSign 0 = .ok (.aload_n 0, 1) := by decide +kernel
theorem dX1_readSign_1 : decode cX1_readSign 1 = .ok (.getfield 19, 3) := by decide +kernel
theorem dX1_readSign_4 : decode cX1_readSign 4 = .ok (.ifCond .lt 27, 3) := by decide +kernel
theorem dX1_readSign_7 : decode cX1_readSign 7 = .ok (.aload_n 0, 1) := by decide +kernel
theorem dX1_readSign_8 : decode cX1_readSign 8 = .ok (.getfield 19, 3) := by decide +kernel
theorem dX1_readSign_11 : decode cX1_readSign 11 = .ok (.aload_n 0, 1) := by decide +kernel
theorem dX1_readSign_12 : decode cX1_readSign 12 = .ok (.getfield 15, 3) := by decide +kernel
theorem dX1_readSign_15 : decode cX1_readSign 15 = .ok (.if_icmp .ge 16, 3) := by decide +kernel
theorem dX1_readSign_18 : decode cX1_readSign 18 = .ok (.aload_n 0, 1) := by decide +kernel
theorem dX1_readSign_19 : decode cX1_readSign 19 = .ok (.getfield 9, 3) := by decide +kernel
theorem dX1_readSign_22 : decode cX1_readSign 22 = .ok (.aload_n 0, 1) := by decide +kernel
theorem dX1_readSign_23 : decode cX1_readSign 23 = .ok (.getfield 19, 3) := by decide +kernel
theorem dX1_readSign_26 : decode cX1_readSign 26 = .ok (.iaload, 1) := by decide +kernel
theorem dX1_readSign_27 : decode cX1_readSign 27 = .ok (.iload_n 1, 1) := by decide +kernel
theorem dX1_readSign_28 : decode cX1_readSign 28 = .ok (.if_icmp .eq 5, 3) := by decide +kernel
theorem dX1_readSign_31 : decode cX1_readSign 31 = .ok (.iconst 0, 1) := by decide +kernel
theorem dX1_readSign_32 : decode cX1_readSign 32 = .ok (.ireturn, 1) := by decide +kernel
theorem dX1_readSign_33 : decode cX1_readSign 33 = .ok (.aload_n 0, 1) := by decide +kernel
theorem dX1_readSign_34 : decode cX1_readSign 34 = .ok (.dup, 1) := by decide +kernel
theorem dX1_readSign_35 : decode cX1_readSign 35 = .ok (.getfield 19, 3) := by decide +kernel
theorem dX1_readSign_38 : decode cX1_readSign 38 = .ok (.iconst 1, 1) := by decide +kernel
theorem dX1_readSign_39 : decode cX1_readSign 39 = .ok (.iadd, 1) := by decide +kernel
theorem dX1_readSign_40 : decode cX1_readSign 40 = .ok (.putfield 19, 3) := by decide +kernel
theorem dX1_readSign_43 : decode cX1_readSign 43 = .ok (.iconst 1, 1) := by decide +kernel
theorem dX1_readSign_44 : decode cX1_readSign 44 = .ok (.ireturn, 1) := by decide +kernel
theorem dX2_init_0 : decode cX2_init 0 = .ok (.aload_n 0, 1) := by decide +kernel
theorem dX2_init_1 : decode cX2_init 1 = .ok (.invokespecial 3, 3) := by decide +kernel
theorem dX2_init_4 : decode cX2_init 4 = .ok (.aload_n 0, 1) := by decide +kernel
theorem dX2_init_5 : decode cX2_init 5 = .ok (.iconst 4, 1) := by decide +kernel
theorem dX2_init_6 : decode cX2_init 6 = .ok (.newarray .int, 2) := by decide +kernel
theorem dX2_init_8 : decode cX2_init 8 = .ok (.putfield 9, 3) := by decide +kernel
theorem dX2_init_11 : decode cX2_init 11 = .ok (.aload_n 0, 1) := by decide +kernel
theorem dX2_init_12 : decode cX2_init 12 = .ok (.iconst 4, 1) := by decide +kernel
theorem dX2_init_13 : decode cX2_init 13 = .ok (.newarray .int, 2) := by decide +kernel
theorem dX2_init_15 : decode cX2_init 15 = .ok (.putfield 15, 3) := by decide +kernel
theorem dX2_init_18 : decode cX2_init 18 = .ok (.aload_n 0, 1) := by decide +kernel
theorem dX2_init_19 : decode cX2_init 19 = .ok (.iconst 4, 1) := by decide +kernel
theorem dX2_init_20 : decode cX2_init 20 = .ok (.newarray .int, 2) := by decide +kernel
theorem dX2_init_22 : decode cX2_init 22 = .ok (.putfield 18, 3) := by decide +kernel
theorem dX2_init_25 : decode cX2_init 25 = .ok (.aload_n 0, 1) := by decide +kernel
theorem dX2_init_26 : decode cX2_init 26 = .ok (.iconst 4, 1) := by decide +kernel
theorem dX2_init_27 : decode cX2_init 27 = .ok (.newarray .int, 2) := by decide +kernel
theorem dX2_init_29 : decode cX2_init 29 = .ok (.putfield 21, 3) := by decide +kernel
theorem dX2_init_32 : decode cX2_init 32 = .ok (.aload_n 0, 1) := by decide +kernel
theorem dX2_init_33 : decode cX2_init 33 = .ok (.iconst 4, 1) := by decide +kernel
theorem dX2_init_34 : decode cX2_init 34 = .ok (.newarray .int, 2) := by decide +kernel
theorem dX2_init_36 : decode cX2_init 36 = .ok (.putfield 24, 3) := by decide +kernel
theorem dX2_init_39 : decode cX2_init 39 = .ok (.aload_n 0, 1) := by decide +kernel
theorem dX2_init_40 : decode cX2_init 40 = .ok (.iconst 4, 1) := by decide +kernel
theorem dX2_init_41 : decode cX2_init 41 = .ok (.newarray .int, 2) := by decide +kernel
theorem dX2_init_43 : decode cX2_init 43 = .ok (.putfield 27, 3) := by decide +kernel
theorem dX2_init_46 : decode cX2_init 46 = .ok (.aload_n 0, 1) := by decide +kernel
theorem dX2_init_47 : decode cX2_init 47 = .ok (.iconst (-1), 1) := by decide +kernel
theorem dX2_init_48 : decode cX2_init 48 = .ok (.putfield 30, 3) := by decide +kernel
theorem dX2_init_51 : decode cX2_init 51 = .ok (.return_, 1) := by decide +kernel
theorem dX2_copyFrom_0 : decode cX2_copyFrom 0 = .ok (.iconst 0, 1) := by decide +kernel
theorem dX2_copyFrom_1 : decode cX2_copyFrom 1 = .ok (.istore_n 2, 1) := by decide +kernel
theorem dX2_copyFrom_2 : decode cX2_copyFrom 2 = .ok (.iload_n 2, 1) := by decide +kernel
theorem dX2_copyFrom_3 : decode cX2_copyFrom 3 = .ok (.iconst 4, 1) := by decide +kernel
theorem dX2_copyFrom_4 : decode cX2_copyFrom 4 = .ok (.if_icmp .ge 57, 3) := by decide +kernel
theorem dX2_copyFrom_7 : decode cX2_copyFrom 7 = .ok (.aload_n 0, 1) := by decide +kernel
theorem dX2_copyFrom_8 : decode cX2_copyFrom 8 = .ok (.getfield 9, 3) := by decide +kernel
theorem dX2_copyFrom_11 : decode cX2_copyFrom 11 = .ok (.iload_n 2, 1) := by decide +kernel
theorem dX2_copyFrom_12 : decode cX2_copyFrom 12 = .ok (.aload_n 1, 1) := by decide +kernel
theorem dX2_copyFrom_13 : decode cX2_copyFrom 13 = .ok (.getfield 9, 3) := by decide +kernel
theorem dX2_copyFrom_16 : decode cX2_copyFrom 16 = .ok (.iload_n 2, 1) := by decide +kernel
theorem dX2_copyFrom_17 : decode cX2_copyFrom 17 = .ok (.iaload, 1) := by decide +kernel
theorem dX2_copyFrom_18 : decode cX2_copyFrom 18 = .ok (.iastore, 1) := by decide +kernel
theorem dX2_copyFrom_19 : decode cX2_copyFrom 19 = .ok (.aload_n 0, 1) := by decide +kernel
theorem dX2_copyFrom_20 : decode cX2_copyFrom 20 = .ok (.getfield 15, 3) := by decide +kernel
theorem dX2_copyFrom_23 : decode cX2_copyFrom 23 = .ok (.iload_n 2, 1) := by decide +kernel
theorem dX2_copyFrom_24 : decode cX2_copyFrom 24 = .ok (.aload_n 1, 1) := by decide +kernel
theorem dX2_copyFrom_25 : decode cX2_copyFrom 25 = .ok (.getfield 15, 3) := by decide +kernel
theorem dX2_copyFrom_28 : decode cX2_copyFrom 28 = .ok (.iload_n 2, 1) := by decide +kernel
theorem dX2_copyFrom_29 : decode cX2_copyFrom 29 = .ok (.iaload, 1) := by decide +kernel
theorem dX2_copyFrom_30 : decode cX2_copyFrom 30 = .ok (.iastore, 1) := by decide +kernel
theorem dX2_copyFrom_31 : decode cX2_copyFrom 31 = .ok (.aload_n 0, 1) := by decide +kernel
theorem dX2_copyFrom_32 : decode cX2_copyFrom 32 = .ok (.getfield 18, 3) := by decide +kernel
theorem dX2_copyFrom_35 : decode cX2_copyFrom 35 = .ok (.iload_n 2, 1) := by decide +kernel
theorem dX2_copyFrom_36 : decode cX2_copyFrom 36 = .ok (.aload_n 1, 1) := by decide +kernel
theorem dX2_copyFrom_37 : decode cX2_copyFrom 37 = .ok (.getfield 18, 3) := by decide +kernel
theorem dX2_copyFrom_40 : decode cX2_copyFrom 40 = .ok (.iload_n 2, 1) := by decide +kernel
theorem dX2_copyFrom_41 : decode cX2_copyFrom 41 = .ok (.iaload, 1) := by decide +kernel
theorem dX2_copyFrom_42 : decode cX2_copyFrom 42 = .ok (.iastore, 1) := by decide +kernel
theorem dX2_copyFrom_43 : decode cX2_copyFrom 43 = .ok (.aload_n 0, 1) := by decide +kernel
theorem dX2_copyFrom_44 : decode cX2_copyFrom 44 = .ok (.getfield 21, 3) := by decide +kernel
theorem dX2_copyFrom_47 : decode cX2_copyFrom 47 = .ok (.iload_n 2, 1) := by decide +kernel
theorem dX2_copyFrom_48 : decode cX2_copyFrom 48 = .ok (.aload_n 1, 1) := by decide +kernel
theorem dX2_copyFrom_49 : decode cX2_copyFrom 49 = .ok (.getfield 21, 3) := by decide +kernel
theorem dX2_copyFrom_52 : decode cX2_copyFrom 52 = .ok (.iload_n 2, 1) := by decide +kernel
theorem dX2_copyFrom_53 : decode cX2_copyFrom 53 = .ok (.iaload, 1) := by decide +kernel
theorem dX2_copyFrom_54 : decode cX2_copyFrom 54 = .ok (.iastore, 1) := by decide +kernel
theorem dX2_copyFrom_55 : decode cX2_copyFrom 55 = .ok (.iinc 2 1, 3) := by decide +kernel
theorem dX2_copyFrom_58 : decode cX2_copyFrom 58 = .ok (.goto (-56), 3) := by decide +kernel
theorem dX2_copyFrom_61 : decode cX2_copyFrom 61 = .ok (.iconst 0, 1) := by decide +kernel
theorem dX2_copyFrom_62 : decode cX2_copyFrom 62 = .ok (.istore_n 2, 1) := by decide +kernel
theorem dX2_copyFrom_63 : decode cX2_copyFrom 63 = .ok (.iload_n 2, 1) := by decide +kernel
theorem dX2_copyFrom_64 : decode cX2_copyFrom 64 = .ok (.iconst 4, 1) := by decide +kernel
theorem dX2_copyFrom_65 : decode cX2_copyFrom 65 = .ok (.if_icmp .ge 33, 3) := by decide +kernel
theorem dX2_copyFrom_68 : decode cX2_copyFrom 68 = .ok (.aload_n 0, 1) := by decide +kernel
theorem dX2_copyFrom_69 : decode cX2_copyFrom 69 = .ok (.getfield 24, 3) := by decide +kernel
theorem dX2_copyFrom_72 : decode cX2_copyFrom 72 = .ok (.iload_n 2, 1) := by decide +kernel
theorem dX2_copyFrom_73 : decode cX2_copyFrom 73 = .ok (.aload_n 1, 1) := by decide +kernel
theorem dX2_copyFrom_74 : decode cX2_copyFrom 74 = .ok (.getfield 24, 3) := by decide +kernel
theorem dX2_copyFrom_77 : decode cX2_copyFrom 77 = .ok (.iload_n 2, 1) := by decide +kernel
theorem dX2_copyFrom_78 : decode cX2_copyFrom 78 = .ok (.iaload, 1) := by decide +kernel
theorem dX2_copyFrom_79 : decode cX2_copyFrom 79 = .ok (.iastore, 1) := by decide +kernel
theorem dX2_copyFrom_80 : decode cX2_copyFrom 80 = .ok (.aload_n 0, 1) := by decide +kernel
theorem dX2_copyFrom_81 : decode cX2_copyFrom 81 = .ok (.getfield 27, 3) := by decide +kernel
theorem dX2_copyFrom_84 : decode cX2_copyFrom 84 = .ok (.iload_n 2, 1) := by decide +kernel
theorem dX2_copyFrom_85 : decode cX2_copyFrom 85 = .ok (.aload_n 1, 1) := by decide +kernel
theorem dX2_copyFrom_86 : decode cX2_copyFrom 86 = .ok (.getfield 27, 3) := by decide +kernel
theorem dX2_copyFrom_89 : decode cX2_copyFrom 89 = .ok (.iload_n 2, 1) := by decide +kernel
theorem dX2_copyFrom_90 : decode cX2_copyFrom 90 = .ok (.iaload, 1) := by decide +kernel
theorem dX2_copyFrom_91 : decode cX2_copyFrom 91 = .ok (.iastore, 1) := by decide +kernel
theorem dX2_copyFrom_92 : decode cX2_copyFrom 92 = .ok (.iinc 2 1, 3) := by decide +kernel
theorem dX2_copyFrom_95 : decode cX2_copyFrom 95 = .ok (.goto (-32), 3) := by decide +kernel
theorem dX2_copyFrom_98 : decode cX2_copyFrom 98 = .ok (.aload_n 0, 1) := by decide +kernel
theorem dX2_copyFrom_99 : decode cX2_copyFrom 99 = .ok (.aload_n 1, 1) := by decide +kernel
theorem dX2_copyFrom_100 : decode cX2_copyFrom 100 = .ok (.getfield 30, 3) := by decide +kernel
theorem dX2_copyFrom_103 : decode cX2_copyFrom 103 = .ok (.putfield 30, 3) := by decide +kernel
theorem dX2_copyFrom_106 : decode cX2_copyFrom 106 = .ok (.aload_n 0, 1) := by decide +kernel
theorem dX2_copyFrom_107 : decode cX2_copyFrom 107 = .ok (.aload_n 1, 1) := by decide +kernel
theorem dX2_copyFrom_108 : decode cX2_copyFrom 108 = .ok (.getfield 34, 3) := by decide +kernel
theorem dX2_copyFrom_111 : decode cX2_copyFrom 111 = .ok (.putfield 34, 3) := by decide +kernel
theorem dX2_copyFrom_114 : decode cX2_copyFrom 114 = .ok (.aload_n 0, 1) := by decide +kernel
theorem dX2_copyFrom_115 : decode cX2_copyFrom 115 = .ok (.aload_n 1, 1) := by decide +kernel
theorem dX2_copyFrom_116 : decode cX2_copyFrom 116 = .ok (.getfield 37, 3) := by decide +kernel
theorem dX2_copyFrom_119 : decode cX2_copyFrom 119 = .ok (.putfield 37, 3) := by decide +kernel
theorem dX2_copyFrom_122 : decode cX2_copyFrom 122 = .ok (.aload_n 0, 1) := by decide +kernel
theorem dX2_copyFrom_123 : decode cX2_copyFrom 123 = .ok (.aload_n 1, 1) := by decide +kernel
theorem dX2_copyFrom_124 : decode cX2_copyFrom 124 = .ok (.getfield 40, 3) := by decide +kernel
theorem dX2_copyFrom_127 : decode cX2_copyFrom 127 = .ok (.putfield 40, 3) := by decide +kernel
theorem dX2_copyFrom_130 : decode cX2_copyFrom 130 = .ok (.aload_n 0, 1) := by decide +kernel
theorem dX2_copyFrom_131 : decode cX2_copyFrom 131 = .ok (.aload_n 1, 1) := by decide +kernel
theorem dX2_copyFrom_132 : decode cX2_copyFrom 132 = .ok (.getfield 43, 3) := by decide +kernel
theorem dX2_copyFrom_135 : decode cX2_copyFrom 135 = .ok (.putfield 43, 3) := by decide +kernel
theorem dX2_copyFrom_138 : decode cX2_copyFrom 138 = .ok (.aload_n 0, 1) := by decide +kernel
theorem dX2_copyFrom_139 : decode cX2_copyFrom 139 = .ok (.aload_n 1, 1) := by decide +kernel
theorem dX2_copyFrom_140 : decode cX2_copyFrom 140 = .ok (.getfield 46, 3) := by decide +kernel
theorem dX2_copyFrom_143 : decode cX2_copyFrom 143 = .ok (.putfield 46, 3) := by decide +kernel
theorem dX2_copyFrom_146 : decode cX2_copyFrom 146 = .ok (.aload_n 0, 1) := by decide +kernel
theorem dX2_copyFrom_147 : decode cX2_copyFrom 147 = .ok (.aload_n 1, 1) := by decide +kernel
theorem dX2_copyFrom_148 : decode cX2_copyFrom 148 = .ok (.getfield 49, 3) := by decide +kernel
theorem dX2_copyFrom_151 : decode cX2_copyFrom 151 = .ok (.putfield 49, 3) := by decide +kernel
theorem dX2_copyFrom_154 : decode cX2_copyFrom 154 = .ok (.return_, 1) := by decide +kernel
theorem dX2_changeArea_0 : decode cX2_changeArea 0 = .ok (.aload_n 0, 1) := by decide +kernel
theorem dX2_changeArea_1 : decode cX2_changeArea 1 = .ok (.getfield 9, 3) := by decide +kernel
theorem dX2_changeArea_4 : decode cX2_changeArea 4 = .ok (.iload_n 1, 1) := by decide +kernel
theorem dX2_changeArea_5 : decode cX2_changeArea 5 = .ok (.iaload, 1) := by decide +kernel
theorem dX2_changeArea_6 : decode cX2_changeArea 6 = .ok (.istore_n 3, 1) := by decide +kernel
theorem dX2_changeArea_7 : decode cX2_changeArea 7 = .ok (.aload_n 0, 1) := by decide +kernel
theorem dX2_changeArea_8 : decode cX2_changeArea 8 = .ok (.getfield 9, 3) := by decide +kernel
theorem dX2_changeArea_11 : decode cX2_changeArea 11 = .ok (.iload_n 1, 1) := by decide +kernel
theorem dX2_changeArea_12 : decode cX2_changeArea 12 = .ok (.iload_n 2, 1) := by decide +kernel
theorem dX2_changeArea_13 : decode cX2_changeArea 13 = .ok (.iastore, 1) := by decide +kernel
theorem dX2_changeArea_14 : decode cX2_changeArea 14 = .ok (.aload_n 0, 1) := by decide +kernel
theorem dX2_changeArea_15 : decode cX2_changeArea 15 = .ok (.getfield 15, 3) := by decide +kernel
theorem dX2_changeArea_18 : decode cX2_changeArea 18 = .ok (.iload_n 1, 1) := by decide +kernel
theorem dX2_changeArea_19 : decode cX2_changeArea 19 = .ok (.aload_n 0, 1) := by decide +kernel
theorem dX2_changeArea_20 : decode cX2_changeArea 20 = .ok (.getfield 15, 3) := by decide +kernel
theorem dX2_changeArea_23 : decode cX2_changeArea 23 = .ok (.iload_n 1, 1) := by decide +kernel
theorem dX2_changeArea_24 : decode cX2_changeArea 24 = .ok (.iaload, 1) := by decide +kernel
theorem dX2_changeArea_25 : decode cX2_changeArea 25 = .ok (.iload_n 2, 1) := by decide +kernel
theorem dX2_changeArea_26 : decode cX2_changeArea 26 = .ok (.invokestatic 53, 3) := by decide +kernel
theorem dX2_changeArea_29 : decode cX2_changeArea 29 = .ok (.iastore, 1) := by decide +kernel
theorem dX2_changeArea_30 : decode cX2_changeArea 30 = .ok (.iload_n 3, 1) := by decide +kernel
theorem dX2_changeArea_31 : decode cX2_changeArea 31 = .ok (.ireturn, 1) := by decide +kernel
theorem dX2_changeExemptArea_0 : decode cX2_changeExemptArea 0 = .ok (.aload_n 0, 1) := by decide +kernel
theorem dX2_changeExemptArea_1 : decode cX2_changeExemptArea 1 = .ok (.getfield 15, 3) := by decide +kernel
theorem dX2_changeExemptArea_4 : decode cX2_changeExemptArea 4 = .ok (.iload_n 1, 1) := by decide +kernel
theorem dX2_changeExemptArea_5 : decode cX2_changeExemptArea 5 = .ok (.iaload, 1) := by decide +kernel
theorem dX2_changeExemptArea_6 : decode cX2_changeExemptArea 6 = .ok (.istore_n 3, 1) := by decide +kernel
theorem dX2_changeExemptArea_7 : decode cX2_changeExemptArea 7 = .ok (.aload_n 0, 1) := by decide +kernel
theorem dX2_changeExemptArea_8 : decode cX2_changeExemptArea 8 = .ok (.getfield 15, 3) := by decide +kernel
theorem dX2_changeExemptArea_11 : decode cX2_changeExemptArea 11 = .ok (.iload_n 1, 1) := by decide +kernel
theorem dX2_changeExemptArea_12 : decode cX2_changeExemptArea 12 = .ok (.iload_n 2, 1) := by decide +kernel
theorem dX2_changeExemptArea_13 : decode cX2_changeExemptArea 13 = .ok (.iastore, 1) := by decide +kernel
theorem dX2_changeExemptArea_14 : decode cX2_changeExemptArea 14 = .ok (.iload_n 3, 1) := by decide +kernel
theorem dX2_changeExemptArea_15 : decode cX2_changeExemptArea 15 = .ok (.ireturn, 1) := by decide +kernel
theorem dX2_startOn_0 : decode cX2_startOn 0 = .ok (.aload_n 0, 1) := by decide +kernel
theorem dX2_startOn_1 : decode cX2_startOn 1 = .ok (.iload_n 1, 1) := by decide +kernel
theorem dX2_startOn_2 : decode cX2_startOn 2 = .ok (.putfield 30, 3) := by decide +kernel
theorem dX2_startOn_5 : decode cX2_startOn 5 = .ok (.aload_n 0, 1) := by decide +kernel
theorem dX2_startOn_6 : decode cX2_startOn 6 = .ok (.iload_n 2, 1) := by decide +kernel
theorem dX2_startOn_7 : decode cX2_startOn 7 = .ok (.putfield 34, 3) := by decide +kernel
theorem dX2_startOn_10 : decode cX2_startOn 10 = .ok (.aload_n 0, 1) := by decide +kernel
theorem dX2_startOn_11 : decode cX2_startOn 11 = .ok (.invokevirtual 59, 3) := by decide +kernel
theorem dX2_startOn_14 : decode cX2_startOn 14 = .ok (.aload_n 0, 1) := by decide +kernel
theorem dX2_startOn_15 : decode cX2_startOn 15 = .ok (.invokevirtual 63, 3) := by decide +kernel
theorem dX2_startOn_18 : decode cX2_startOn 18 = .ok (.isub, 1) := by decide +kernel
theorem dX2_startOn_19 : decode cX2_startOn 19 = .ok (.istore_n 3, 1) := by decide +kernel
theorem dX2_startOn_20 : decode cX2_startOn 20 = .ok (.aload_n 0, 1) := by decide +kernel
theorem dX2_startOn_21 : decode cX2_startOn 21 = .ok (.iload_n 3, 1) := by decide +kernel
theorem dX2_startOn_22 : decode cX2_startOn 22 = .ok (.invokestatic 66, 3) := by decide +kernel
theorem dX2_startOn_25 : decode cX2_startOn 25 = .ok (.putfield 37, 3) := by decide +kernel
theorem dX2_startOn_28 : decode cX2_startOn 28 = .ok (.iconst 0, 1) := by decide +kernel
theorem dX2_startOn_29 : decode cX2_startOn 29 = .ok (.istore 4, 2) := by decide +kernel
theorem dX2_startOn_31 : decode cX2_startOn 31 = .ok (.iload 4, 2) := by decide +kernel
theorem dX2_startOn_33 : decode cX2_startOn 33 = .ok (.aload_n 0, 1) := by decide +kernel
theorem dX2_startOn_34 : decode cX2_startOn 34 = .ok (.getfield 37, 3) := by decide +kernel
theorem dX2_startOn_37 : decode cX2_startOn 37 = .ok (.if_icmp .ge 46, 3) := by decide +kernel
theorem dX2_startOn_40 : decode cX2_startOn 40 = .ok (.iload 4, 2) := by decide +kernel
theorem dX2_startOn_42 : decode cX2_startOn 42 = .ok (.iconst 4, 1) := by decide +kernel
theorem dX2_startOn_43 : decode cX2_startOn 43 = .ok (.if_icmp .ge 40, 3) := by decide +kernel
theorem dX2_startOn_46 : decode cX2_startOn 46 = .ok (.aload_n 0, 1) := by decide +kernel
theorem dX2_startOn_47 : decode cX2_startOn 47 = .ok (.getfield 24, 3) := by decide +kernel
theorem dX2_startOn_50 : decode cX2_startOn 50 = .ok (.iload 4, 2) := by decide +kernel
theorem dX2_startOn_52 : decode cX2_startOn 52 = .ok (.iload_n 3, 1) := by decide +kernel
theorem dX2_startOn_53 : decode cX2_startOn 53 = .ok (.aload_n 0, 1) := by decide +kernel
theorem dX2_startOn_54 : decode cX2_startOn 54 = .ok (.getfield 37, 3) := by decide +kernel
theorem dX2_startOn_57 : decode cX2_startOn 57 = .ok (.iload 4, 2) := by decide +kernel
theorem dX2_startOn_59 : decode cX2_startOn 59 = .ok (.invokestatic 70, 3) := by decide +kernel
theorem dX2_startOn_62 : decode cX2_startOn 62 = .ok (.iastore, 1) := by decide +kernel
theorem dX2_startOn_63 : decode cX2_startOn 63 = .ok (.aload_n 0, 1) := by decide +kernel
theorem dX2_startOn_64 : decode cX2_startOn 64 = .ok (.getfield 27, 3) := by decide +kernel
theorem dX2_startOn_67 : decode cX2_startOn 67 = .ok (.iload 4, 2) := by decide +kernel
theorem dX2_startOn_69 : decode cX2_startOn 69 = .ok (.aload_n 0, 1) := by decide +kernel
theorem dX2_startOn_70 : decode cX2_startOn 70 = .ok (.getfield 24, 3) := by decide +kernel
theorem dX2_startOn_73 : decode cX2_startOn 73 = .ok (.iload 4, 2) := by decide +kernel
theorem dX2_startOn_75 : decode cX2_startOn 75 = .ok (.iaload, 1) := by decide +kernel
theorem dX2_startOn_76 : decode cX2_startOn 76 = .ok (.iastore, 1) := by decide +kernel
theorem dX2_startOn_77 : decode cX2_startOn 77 = .ok (.iinc 4 1, 3) := by decide +kernel
theorem dX2_startOn_80 : decode cX2_startOn 80 = .ok (.goto (-49), 3) := by decide +kernel
theorem dX2_startOn_83 : decode cX2_startOn 83 = .ok (.iload_n 3, 1) := by decide +kernel
theorem dX2_startOn_84 : decode cX2_startOn 84 = .ok (.ireturn, 1) := by decide +kernel
theorem dX2_takeMoney_0 : decode cX2_takeMoney 0 = .ok (.iload_n 1, 1) := by decide +kernel
theorem dX2_takeMoney_1 : decode cX2_takeMoney 1 = .ok (.aload_n 0, 1) := by decide +kernel
theorem dX2_takeMoney_2 : decode cX2_takeMoney 2 = .ok (.invokevirtual 74, 3) := by decide +kernel
theorem dX2_takeMoney_5 : decode cX2_takeMoney 5 = .ok (.invokestatic 53, 3) := by decide +kernel
theorem dX2_takeMoney_8 : decode cX2_takeMoney 8 = .ok (.istore_n 2, 1) := by decide +kernel
theorem dX2_takeMoney_9 : decode cX2_takeMoney 9 = .ok (.aload_n 0, 1) := by decide +kernel
theorem dX2_takeMoney_10 : decode cX2_takeMoney 10 = .ok (.dup, 1) := by decide +kernel
theorem dX2_takeMoney_11 : decode cX2_takeMoney 11 = .ok (.getfield 40, 3) := by decide +kernel
theorem dX2_takeMoney_14 : decode cX2_takeMoney 14 = .ok (.iload_n 2, 1) := by decide +kernel
theorem dX2_takeMoney_15 : decode cX2_takeMoney 15 = .ok (.iadd, 1) := by decide +kernel
theorem dX2_takeMoney_16 : decode cX2_takeMoney 16 = .ok (.putfield 40, 3) := by decide +kernel
theorem dX2_takeMoney_19 : decode cX2_takeMoney 19 = .ok (.aload_n 0, 1) := by decide +kernel
theorem dX2_takeMoney_20 : decode cX2_takeMoney 20 = .ok (.iload_n 2, 1) := by decide +kernel
theorem dX2_takeMoney_21 : decode cX2_takeMoney 21 = .ok (.invokevirtual 77, 3) := by decide +kernel
theorem dX2_takeMoney_24 : decode cX2_takeMoney 24 = .ok (.iload_n 2, 1) := by decide +kernel
theorem dX2_takeMoney_25 : decode cX2_takeMoney 25 = .ok (.ireturn, 1) := by decide +kernel
theorem dX2_takeLand_0 : decode cX2_takeLand 0 = .ok (.iload_n 1, 1) := by decide +kernel
theorem dX2_takeLand_1 : decode cX2_takeLand 1 = .ok (.aload_n 0, 1) := by decide +kernel
theorem dX2_takeLand_2 : decode cX2_takeLand 2 = .ok (.invokevirtual 74, 3) := by decide +kernel
theorem dX2_takeLand_5 : decode cX2_takeLand 5 = .ok (.aload_n 0, 1) := by decide +kernel
theorem dX2_takeLand_6 : decode cX2_takeLand 6 = .ok (.iload_n 2, 1) := by decide +kernel
theorem dX2_takeLand_7 : decode cX2_takeLand 7 = .ok (.invokevirtual 81, 3) := by decide +kernel
theorem dX2_takeLand_10 : decode cX2_takeLand 10 = .ok (.invokestatic 53, 3) := by decide +kernel
theorem dX2_takeLand_13 : decode cX2_takeLand 13 = .ok (.invokestatic 53, 3) := by decide +kernel
theorem dX2_takeLand_16 : decode cX2_takeLand 16 = .ok (.istore_n 3, 1) := by decide +kernel
theorem dX2_takeLand_17 : decode cX2_takeLand 17 = .ok (.aload_n 0, 1) := by decide +kernel
theorem dX2_takeLand_18 : decode cX2_takeLand 18 = .ok (.dup, 1) := by decide +kernel
theorem dX2_takeLand_19 : decode cX2_takeLand 19 = .ok (.getfield 43, 3) := by decide +kernel
theorem dX2_takeLand_22 : decode cX2_takeLand 22 = .ok (.iload_n 3, 1) := by decide +kernel
theorem dX2_takeLand_23 : decode cX2_takeLand 23 = .ok (.iadd, 1) := by decide +kernel
theorem dX2_takeLand_24 : decode cX2_takeLand 24 = .ok (.putfield 43, 3) := by decide +kernel
theorem dX2_takeLand_27 : decode cX2_takeLand 27 = .ok (.aload_n 0, 1) := by decide +kernel
theorem dX2_takeLand_28 : decode cX2_takeLand 28 = .ok (.iload_n 3, 1) := by decide +kernel
theorem dX2_takeLand_29 : decode cX2_takeLand 29 = .ok (.invokevirtual 77, 3) := by decide +kernel
theorem dX2_takeLand_32 : decode cX2_takeLand 32 = .ok (.iload_n 3, 1) := by decide +kernel
theorem dX2_takeLand_33 : decode cX2_takeLand 33 = .ok (.ireturn, 1) := by decide +kernel
theorem dX2_settle_0 : decode cX2_settle 0 = .ok (.iload_n 1, 1) := by decide +kernel
theorem dX2_settle_1 : decode cX2_settle 1 = .ok (.istore_n 2, 1) := by decide +kernel
theorem dX2_settle_2 : decode cX2_settle 2 = .ok (.iconst 0, 1) := by decide +kernel
theorem dX2_settle_3 : decode cX2_settle 3 = .ok (.istore_n 3, 1) := by decide +kernel
theorem dX2_settle_4 : decode cX2_settle 4 = .ok (.iload_n 3, 1) := by decide +kernel
theorem dX2_settle_5 : decode cX2_settle 5 = .ok (.aload_n 0, 1) := by decide +kernel
theorem dX2_settle_6 : decode cX2_settle 6 = .ok (.getfield 37, 3) := by decide +kernel
theorem dX2_settle_9 : decode cX2_settle 9 = .ok (.if_icmp .ge 42, 3) := by decide +kernel
theorem dX2_settle_12 : decode cX2_settle 12 = .ok (.iload_n 3, 1) := by decide +kernel
theorem dX2_settle_13 : decode cX2_settle 13 = .ok (.iconst 4, 1) := by decide +kernel
theorem dX2_settle_14 : decode cX2_settle 14 = .ok (.if_icmp .ge 37, 3) := by decide +kernel
theorem dX2_settle_17 : decode cX2_settle 17 = .ok (.iload_n 2, 1) := by decide +kernel
theorem dX2_settle_18 : decode cX2_settle 18 = .ok (.aload_n 0, 1) := by decide +kernel
theorem dX2_settle_19 : decode cX2_settle 19 = .ok (.getfield 27, 3) := by decide +kernel
theorem dX2_settle_22 : decode cX2_settle 22 = .ok (.iload_n 3, 1) := by decide +kernel
theorem dX2_settle_23 : decode cX2_settle 23 = .ok (.iaload, 1) := by decide +kernel
theorem dX2_settle_24 : decode cX2_settle 24 = .ok (.invokestatic 53, 3) := by decide +kernel
theorem dX2_settle_27 : decode cX2_settle 27 = .ok (.istore 4, 2) := by decide +kernel
theorem dX2_settle_29 : decode cX2_settle 29 = .ok (.aload_n 0, 1) := by decide +kernel
theorem dX2_settle_30 : decode cX2_settle 30 = .ok (.getfield 27, 3) := by decide +kernel
theorem dX2_settle_33 : decode cX2_settle 33 = .ok (.iload_n 3, 1) := by decide +kernel
theorem dX2_settle_34 : decode cX2_settle 34 = .ok (.dup2, 1) := by decide +kernel
theorem dX2_settle_35 : decode cX2_settle 35 = .ok (.iaload, 1) := by decide +kernel
theorem dX2_settle_36 : decode cX2_settle 36 = .ok (.iload 4, 2) := by decide +kernel
theorem dX2_settle_38 : decode cX2_settle 38 = .ok (.isub, 1) := by decide +kernel
theorem dX2_settle_39 : decode cX2_settle 39 = .ok (.iastore, 1) := by decide +kernel
theorem dX2_settle_40 : decode cX2_settle 40 = .ok (.iload_n 2, 1) := by decide +kernel
theorem dX2_settle_41 : decode cX2_settle 41 = .ok (.iload 4, 2) := by decide +kernel
theorem dX2_settle_43 : decode cX2_settle 43 = .ok (.isub, 1) := by decide +kernel
theorem dX2_settle_44 : decode cX2_settle 44 = .ok (.istore_n 2, 1) := by decide +kernel
theorem dX2_settle_45 : decode cX2_settle 45 = .ok (.iinc 3 1, 3) := by decide +kernel
theorem dX2_settle_48 : decode cX2_settle 48 = .ok (.goto (-44), 3) := by decide +kernel
theorem dX2_settle_51 : decode cX2_settle 51 = .ok (.return_, 1) := by decide +kernel
theorem dX2_endRelief_0 : decode cX2_endRelief 0 = .ok (.aload_n 0, 1) := by decide +kernel
theorem dX2_endRelief_1 : decode cX2_endRelief 1 = .ok (.iload_n 1, 1) := by decide +kernel
theorem dX2_endRelief_2 : decode cX2_endRelief 2 = .ok (.invokevirtual 84, 3) := by decide +kernel
theorem dX2_endRelief_5 : decode cX2_endRelief 5 = .ok (.istore_n 2, 1) := by decide +kernel
theorem dX2_endRelief_6 : decode cX2_endRelief 6 = .ok (.aload_n 0, 1) := by decide +kernel
theorem dX2_endRelief_7 : decode cX2_endRelief 7 = .ok (.getfield 21, 3) := by decide +kernel
theorem dX2_endRelief_10 : decode cX2_endRelief 10 = .ok (.iload_n 1, 1) := by decide +kernel
theorem dX2_endRelief_11 : decode cX2_endRelief 11 = .ok (.dup2, 1) := by decide +kernel
theorem dX2_endRelief_12 : decode cX2_endRelief 12 = .ok (.iaload, 1) := by decide +kernel
theorem dX2_endRelief_13 : decode cX2_endRelief 13 = .ok (.iload_n 2, 1) := by decide +kernel
theorem dX2_endRelief_14 : decode cX2_endRelief 14 = .ok (.iadd, 1) := by decide +kernel
theorem dX2_endRelief_15 : decode cX2_endRelief 15 = .ok (.iastore, 1) := by decide +kernel
theorem dX2_endRelief_16 : decode cX2_endRelief 16 = .ok (.iload_n 2, 1) := by decide +kernel
theorem dX2_endRelief_17 : decode cX2_endRelief 17 = .ok (.ireturn, 1) := by decide +kernel
theorem dX2_hasBegun_0 : decode cX2_hasBegun 0 = .ok (.aload_n 0, 1) := by decide +kernel
theorem dX2_hasBegun_1 : decode cX2_hasBegun 1 = .ok (.getfield 30, 3) := by decide +kernel
theorem dX2_hasBegun_4 : decode cX2_hasBegun 4 = .ok (.iconst (-1), 1) := by decide +kernel
theorem dX2_hasBegun_5 : decode cX2_hasBegun 5 = .ok (.if_icmp .eq 7, 3) := by decide +kernel
theorem dX2_hasBegun_8 : decode cX2_hasBegun 8 = .ok (.iconst 1, 1) := by decide +kernel
theorem dX2_hasBegun_9 : decode cX2_hasBegun 9 = .ok (.goto 4, 3) := by decide +kernel
theorem dX2_hasBegun_12 : decode cX2_hasBegun 12 = .ok (.iconst 0, 1) := by decide +kernel
theorem dX2_hasBegun_13 : decode cX2_hasBegun 13 = .ok (.ireturn, 1) := by decide +kernel
theorem dX2_chargeOfUse_0 : decode cX2_chargeOfUse 0 = .ok (.aload_n 0, 1) := by decide +kernel
theorem dX2_chargeOfUse_1 : decode cX2_chargeOfUse 1 = .ok (.getfield 9, 3) := by decide +kernel
theorem dX2_chargeOfUse_4 : decode cX2_chargeOfUse 4 = .ok (.iload_n 1, 1) := by decide +kernel
theorem dX2_chargeOfUse_5 : decode cX2_chargeOfUse 5 = .ok (.iaload, 1) := by decide +kernel
theorem dX2_chargeOfUse_6 : decode cX2_chargeOfUse 6 = .ok (.aload_n 0, 1) := by decide +kernel
theorem dX2_chargeOfUse_7 : decode cX2_chargeOfUse 7 = .ok (.getfield 18, 3) := by decide +kernel
theorem dX2_chargeOfUse_10 : decode cX2_chargeOfUse 10 = .ok (.iload_n 1, 1) := by decide +kernel
theorem dX2_chargeOfUse_11 : decode cX2_chargeOfUse 11 = .ok (.iaload, 1) := by decide +kernel
theorem dX2_chargeOfUse_12 : decode cX2_chargeOfUse 12 = .ok (.imul, 1) := by decide +kernel
theorem dX2_chargeOfUse_13 : decode cX2_chargeOfUse 13 = .ok (.ireturn, 1) := by decide +kernel
theorem dX2_reliefOfUse_0 : decode cX2_reliefOfUse 0 = .ok (.aload_n 0, 1) := by decide +kernel
theorem dX2_reliefOfUse_1 : decode cX2_reliefOfUse 1 = .ok (.getfield 15, 3) := by decide +kernel
theorem dX2_reliefOfUse_4 : decode cX2_reliefOfUse 4 = .ok (.iload_n 1, 1) := by decide +kernel
theorem dX2_reliefOfUse_5 : decode cX2_reliefOfUse 5 = .ok (.iaload, 1) := by decide +kernel
theorem dX2_reliefOfUse_6 : decode cX2_reliefOfUse 6 = .ok (.aload_n 0, 1) := by decide +kernel
theorem dX2_reliefOfUse_7 : decode cX2_reliefOfUse 7 = .ok (.getfield 18, 3) := by decide +kernel
theorem dX2_reliefOfUse_10 : decode cX2_reliefOfUse 10 = .ok (.iload_n 1, 1) := by decide +kernel
theorem dX2_reliefOfUse_11 : decode cX2_reliefOfUse 11 = .ok (.iaload, 1) := by decide +kernel
theorem dX2_reliefOfUse_12 : decode cX2_reliefOfUse 12 = .ok (.imul, 1) := by decide +kernel
theorem dX2_reliefOfUse_13 : decode cX2_reliefOfUse 13 = .ok (.aload_n 0, 1) := by decide +kernel
theorem dX2_reliefOfUse_14 : decode cX2_reliefOfUse 14 = .ok (.getfield 21, 3) := by decide +kernel
theorem dX2_reliefOfUse_17 : decode cX2_reliefOfUse 17 = .ok (.iload_n 1, 1) := by decide +kernel
theorem dX2_reliefOfUse_18 : decode cX2_reliefOfUse 18 = .ok (.iaload, 1) := by decide +kernel
theorem dX2_reliefOfUse_19 : decode cX2_reliefOfUse 19 = .ok (.isub, 1) := by decide +kernel
theorem dX2_reliefOfUse_20 : decode cX2_reliefOfUse 20 = .ok (.ireturn, 1) := by decide +kernel
theorem dX2_charge_0 : decode cX2_charge 0 = .ok (.iconst 0, 1) := by decide +kernel
theorem dX2_charge_1 : decode cX2_charge 1 = .ok (.istore_n 1, 1) := by decide +kernel
theorem dX2_charge_2 : decode cX2_charge 2 = .ok (.iconst 0, 1) := by decide +kernel
theorem dX2_charge_3 : decode cX2_charge 3 = .ok (.istore_n 2, 1) := by decide +kernel
theorem dX2_charge_4 : decode cX2_charge 4 = .ok (.iload_n 2, 1) := by decide +kernel
theorem dX2_charge_5 : decode cX2_charge 5 = .ok (.iconst 4, 1) := by decide +kernel
theorem dX2_charge_6 : decode cX2_charge 6 = .ok (.if_icmp .ge 25, 3) := by decide +kernel
theorem dX2_charge_9 : decode cX2_charge 9 = .ok (.iload_n 1, 1) := by decide +kernel
theorem dX2_charge_10 : decode cX2_charge 10 = .ok (.aload_n 0, 1) := by decide +kernel
theorem dX2_charge_11 : decode cX2_charge 11 = .ok (.getfield 9, 3) := by decide +kernel
theorem dX2_charge_14 : decode cX2_charge 14 = .ok (.iload_n 2, 1) := by decide +kernel
theorem dX2_charge_15 : decode cX2_charge 15 = .ok (.iaload, 1) := by decide +kernel
theorem dX2_charge_16 : decode cX2_charge 16 = .ok (.aload_n 0, 1) := by decide +kernel
theorem dX2_charge_17 : decode cX2_charge 17 = .ok (.getfield 18, 3) := by decide +kernel
theorem dX2_charge_20 : decode cX2_charge 20 = .ok (.iload_n 2, 1) := by decide +kernel
theorem dX2_charge_21 : decode cX2_charge 21 = .ok (.iaload, 1) := by decide +kernel
theorem dX2_charge_22 : decode cX2_charge 22 = .ok (.imul, 1) := by decide +kernel
theorem dX2_charge_23 : decode cX2_charge 23 = .ok (.iadd, 1) := by decide +kernel
theorem dX2_charge_24 : decode cX2_charge 24 = .ok (.istore_n 1, 1) := by decide +kernel
theorem dX2_charge_25 : decode cX2_charge 25 = .ok (.iinc 2 1, 3) := by decide +kernel
theorem dX2_charge_28 : decode cX2_charge 28 = .ok (.goto (-24), 3) := by decide +kernel
theorem dX2_charge_31 : decode cX2_charge 31 = .ok (.iload_n 1, 1) := by decide +kernel
theorem dX2_charge_32 : decode cX2_charge 32 = .ok (.ireturn, 1) := by decide +kernel
theorem dX2_relief_0 : decode cX2_relief 0 = .ok (.iconst 0, 1) := by decide +kernel
theorem dX2_relief_1 : decode cX2_relief 1 = .ok (.istore_n 1, 1) := by decide +kernel
theorem dX2_relief_2 : decode cX2_relief 2 = .ok (.iconst 0, 1) := by decide +kernel
theorem dX2_relief_3 : decode cX2_relief 3 = .ok (.istore_n 2, 1) := by decide +kernel
theorem dX2_relief_4 : decode cX2_relief 4 = .ok (.iload_n 2, 1) := by decide +kernel
theorem dX2_relief_5 : decode cX2_relief 5 = .ok (.iconst 4, 1) := by decide +kernel
theorem dX2_relief_6 : decode cX2_relief 6 = .ok (.if_icmp .ge 32, 3) := by decide +kernel
theorem dX2_relief_9 : decode cX2_relief 9 = .ok (.iload_n 1, 1) := by decide +kernel
theorem dX2_relief_10 : decode cX2_relief 10 = .ok (.aload_n 0, 1) := by decide +kernel
theorem dX2_relief_11 : decode cX2_relief 11 = .ok (.getfield 15, 3) := by decide +kernel
theorem dX2_relief_14 : decode cX2_relief 14 = .ok (.iload_n 2, 1) := by decide +kernel
theorem dX2_relief_15 : decode cX2_relief 15 = .ok (.iaload, 1) := by decide +kernel
theorem dX2_relief_16 : decode cX2_relief 16 = .ok (.aload_n 0, 1) := by decide +kernel
theorem dX2_relief_17 : decode cX2_relief 17 = .ok (.getfield 18, 3) := by decide +kernel
theorem dX2_relief_20 : decode cX2_relief 20 = .ok (.iload_n 2, 1) := by decide +kernel
theorem dX2_relief_21 : decode cX2_relief 21 = .ok (.iaload, 1) := by decide +kernel
theorem dX2_relief_22 : decode cX2_relief 22 = .ok (.imul, 1) := by decide +kernel
theorem dX2_relief_23 : decode cX2_relief 23 = .ok (.aload_n 0, 1) := by decide +kernel
theorem dX2_relief_24 : decode cX2_relief 24 = .ok (.getfield 21, 3) := by decide +kernel
theorem dX2_relief_27 : decode cX2_relief 27 = .ok (.iload_n 2, 1) := by decide +kernel
theorem dX2_relief_28 : decode cX2_relief 28 = .ok (.iaload, 1) := by decide +kernel
theorem dX2_relief_29 : decode cX2_relief 29 = .ok (.isub, 1) := by decide +kernel
theorem dX2_relief_30 : decode cX2_relief 30 = .ok (.iadd, 1) := by decide +kernel
theorem dX2_relief_31 : decode cX2_relief 31 = .ok (.istore_n 1, 1) := by decide +kernel
theorem dX2_relief_32 : decode cX2_relief 32 = .ok (.iinc 2 1, 3) := by decide +kernel
theorem dX2_relief_35 : decode cX2_relief 35 = .ok (.goto (-31), 3) := by decide +kernel
theorem dX2_relief_38 : decode cX2_relief 38 = .ok (.iload_n 1, 1) := by decide +kernel
theorem dX2_relief_39 : decode cX2_relief 39 = .ok (.ireturn, 1) := by decide +kernel
theorem dX2_lapsedSoFar_0 : decode cX2_lapsedSoFar 0 = .ok (.iconst 0, 1) := by decide +kernel
theorem dX2_lapsedSoFar_1 : decode cX2_lapsedSoFar 1 = .ok (.istore_n 1, 1) := by decide +kernel
theorem dX2_lapsedSoFar_2 : decode cX2_lapsedSoFar 2 = .ok (.iconst 0, 1) := by decide +kernel
theorem dX2_lapsedSoFar_3 : decode cX2_lapsedSoFar 3 = .ok (.istore_n 2, 1) := by decide +kernel
theorem dX2_lapsedSoFar_4 : decode cX2_lapsedSoFar 4 = .ok (.iload_n 2, 1) := by decide +kernel
theorem dX2_lapsedSoFar_5 : decode cX2_lapsedSoFar 5 = .ok (.iconst 4, 1) := by decide +kernel
theorem dX2_lapsedSoFar_6 : decode cX2_lapsedSoFar 6 = .ok (.if_icmp .ge 18, 3) := by decide +kernel
theorem dX2_lapsedSoFar_9 : decode cX2_lapsedSoFar 9 = .ok (.iload_n 1, 1) := by decide +kernel
theorem dX2_lapsedSoFar_10 : decode cX2_lapsedSoFar 10 = .ok (.aload_n 0, 1) := by decide +kernel
theorem dX2_lapsedSoFar_11 : decode cX2_lapsedSoFar 11 = .ok (.getfield 21, 3) := by decide +kernel
theorem dX2_lapsedSoFar_14 : decode cX2_lapsedSoFar 14 = .ok (.iload_n 2, 1) := by decide +kernel
theorem dX2_lapsedSoFar_15 : decode cX2_lapsedSoFar 15 = .ok (.iaload, 1) := by decide +kernel
theorem dX2_lapsedSoFar_16 : decode cX2_lapsedSoFar 16 = .ok (.iadd, 1) := by decide +kernel
theorem dX2_lapsedSoFar_17 : decode cX2_lapsedSoFar 17 = .ok (.istore_n 1, 1) := by decide +kernel
theorem dX2_lapsedSoFar_18 : decode cX2_lapsedSoFar 18 = .ok (.iinc 2 1, 3) := by decide +kernel
theorem dX2_lapsedSoFar_21 : decode cX2_lapsedSoFar 21 = .ok (.goto (-17), 3) := by decide +kernel
theorem dX2_lapsedSoFar_24 : decode cX2_lapsedSoFar 24 = .ok (.iload_n 1, 1) := by decide +kernel
theorem dX2_lapsedSoFar_25 : decode cX2_lapsedSoFar 25 = .ok (.ireturn, 1) := by decide +kernel
theorem dX2_areaOfAllUses_0 : decode cX2_areaOfAllUses 0 = .ok (.iconst 0, 1) := by decide +kernel
theorem dX2_areaOfAllUses_1 : decode cX2_areaOfAllUses 1 = .ok (.istore_n 1, 1) := by decide +kernel
theorem dX2_areaOfAllUses_2 : decode cX2_areaOfAllUses 2 = .ok (.iconst 0, 1) := by decide +kernel
theorem dX2_areaOfAllUses_3 : decode cX2_areaOfAllUses 3 = .ok (.istore_n 2, 1) := by decide +kernel
theorem dX2_areaOfAllUses_4 : decode cX2_areaOfAllUses 4 = .ok (.iload_n 2, 1) := by decide +kernel
theorem dX2_areaOfAllUses_5 : decode cX2_areaOfAllUses 5 = .ok (.iconst 4, 1) := by decide +kernel
theorem dX2_areaOfAllUses_6 : decode cX2_areaOfAllUses 6 = .ok (.if_icmp .ge 18, 3) := by decide +kernel
theorem dX2_areaOfAllUses_9 : decode cX2_areaOfAllUses 9 = .ok (.iload_n 1, 1) := by decide +kernel
theorem dX2_areaOfAllUses_10 : decode cX2_areaOfAllUses 10 = .ok (.aload_n 0, 1) := by decide +kernel
theorem dX2_areaOfAllUses_11 : decode cX2_areaOfAllUses 11 = .ok (.getfield 9, 3) := by decide +kernel
theorem dX2_areaOfAllUses_14 : decode cX2_areaOfAllUses 14 = .ok (.iload_n 2, 1) := by decide +kernel
theorem dX2_areaOfAllUses_15 : decode cX2_areaOfAllUses 15 = .ok (.iaload, 1) := by decide +kernel
theorem dX2_areaOfAllUses_16 : decode cX2_areaOfAllUses 16 = .ok (.iadd, 1) := by decide +kernel
theorem dX2_areaOfAllUses_17 : decode cX2_areaOfAllUses 17 = .ok (.istore_n 1, 1) := by decide +kernel
theorem dX2_areaOfAllUses_18 : decode cX2_areaOfAllUses 18 = .ok (.iinc 2 1, 3) := by decide +kernel
theorem dX2_areaOfAllUses_21 : decode cX2_areaOfAllUses 21 = .ok (.goto (-17), 3) := by decide +kernel
theorem dX2_areaOfAllUses_24 : decode cX2_areaOfAllUses 24 = .ok (.iload_n 1, 1) := by decide +kernel
theorem dX2_areaOfAllUses_25 : decode cX2_areaOfAllUses 25 = .ok (.ireturn, 1) := by decide +kernel
theorem dX2_owed_0 : decode cX2_owed 0 = .ok (.aload_n 0, 1) := by decide +kernel
theorem dX2_owed_1 : decode cX2_owed 1 = .ok (.invokevirtual 87, 3) := by decide +kernel
theorem dX2_owed_4 : decode cX2_owed 4 = .ok (.ifCond .eq 30, 3) := by decide +kernel
theorem dX2_owed_7 : decode cX2_owed 7 = .ok (.aload_n 0, 1) := by decide +kernel
theorem dX2_owed_8 : decode cX2_owed 8 = .ok (.invokevirtual 59, 3) := by decide +kernel
theorem dX2_owed_11 : decode cX2_owed 11 = .ok (.aload_n 0, 1) := by decide +kernel
theorem dX2_owed_12 : decode cX2_owed 12 = .ok (.invokevirtual 63, 3) := by decide +kernel
theorem dX2_owed_15 : decode cX2_owed 15 = .ok (.isub, 1) := by decide +kernel
theorem dX2_owed_16 : decode cX2_owed 16 = .ok (.aload_n 0, 1) := by decide +kernel
theorem dX2_owed_17 : decode cX2_owed 17 = .ok (.getfield 46, 3) := by decide +kernel
theorem dX2_owed_20 : decode cX2_owed 20 = .ok (.iadd, 1) := by decide +kernel
theorem dX2_owed_21 : decode cX2_owed 21 = .ok (.aload_n 0, 1) := by decide +kernel
theorem dX2_owed_22 : decode cX2_owed 22 = .ok (.getfield 40, 3) := by decide +kernel
theorem dX2_owed_25 : decode cX2_owed 25 = .ok (.isub, 1) := by decide +kernel
theorem dX2_owed_26 : decode cX2_owed 26 = .ok (.aload_n 0, 1) := by decide +kernel
theorem dX2_owed_27 : decode cX2_owed 27 = .ok (.getfield 43, 3) := by decide +kernel
theorem dX2_owed_30 : decode cX2_owed 30 = .ok (.isub, 1) := by decide +kernel
theorem dX2_owed_31 : decode cX2_owed 31 = .ok (.goto 4, 3) := by decide +kernel
theorem dX2_owed_34 : decode cX2_owed 34 = .ok (.iconst 0, 1) := by decide +kernel
theorem dX2_owed_35 : decode cX2_owed 35 = .ok (.ireturn, 1) := by decide +kernel
theorem dX2_roomForLand_0 : decode cX2_roomForLand 0 = .ok (.aload_n 0, 1) := by decide +kernel
theorem dX2_roomForLand_1 : decode cX2_roomForLand 1 = .ok (.invokevirtual 87, 3) := by decide +kernel
theorem dX2_roomForLand_4 : decode cX2_roomForLand 4 = .ok (.ifCond .eq 28, 3) := by decide +kernel
theorem dX2_roomForLand_7 : decode cX2_roomForLand 7 = .ok (.iconst 0, 1) := by decide +kernel
theorem dX2_roomForLand_8 : decode cX2_roomForLand 8 = .ok (.iload_n 1, 1) := by decide +kernel
theorem dX2_roomForLand_9 : decode cX2_roomForLand 9 = .ok (.aload_n 0, 1) := by decide +kernel
theorem dX2_roomForLand_10 : decode cX2_roomForLand 10 = .ok (.invokevirtual 59, 3) := by decide +kernel
theorem dX2_roomForLand_13 : decode cX2_roomForLand 13 = .ok (.aload_n 0, 1) := by decide +kernel
theorem dX2_roomForLand_14 : decode cX2_roomForLand 14 = .ok (.invokevirtual 63, 3) := by decide +kernel
theorem dX2_roomForLand_17 : decode cX2_roomForLand 17 = .ok (.isub, 1) := by decide +kernel
theorem dX2_roomForLand_18 : decode cX2_roomForLand 18 = .ok (.invokestatic 91, 3) := by decide +kernel
theorem dX2_roomForLand_21 : decode cX2_roomForLand 21 = .ok (.aload_n 0, 1) := by decide +kernel
theorem dX2_roomForLand_22 : decode cX2_roomForLand 22 = .ok (.getfield 43, 3) := by decide +kernel
theorem dX2_roomForLand_25 : decode cX2_roomForLand 25 = .ok (.isub, 1) := by decide +kernel
theorem dX2_roomForLand_26 : decode cX2_roomForLand 26 = .ok (.invokestatic 94, 3) := by decide +kernel
theorem dX2_roomForLand_29 : decode cX2_roomForLand 29 = .ok (.goto 4, 3) := by decide +kernel
theorem dX2_roomForLand_32 : decode cX2_roomForLand 32 = .ok (.iconst 0, 1) := by decide +kernel
theorem dX2_roomForLand_33 : decode cX2_roomForLand 33 = .ok (.ireturn, 1) := by decide +kernel
theorem dX2_lastDayOfInstalment_0 : decode cX2_lastDayOfInstalment 0 = .ok (.aload_n 0, 1) := by decide +kernel
theorem dX2_lastDayOfInstalment_1 : decode cX2_lastDayOfInstalment 1 = .ok (.getfield 30, 3) := by decide +kernel
theorem dX2_lastDayOfInstalment_4 : decode cX2_lastDayOfInstalment 4 = .ok (.iload_n 1, 1) := by decide +kernel
theorem dX2_lastDayOfInstalment_5 : decode cX2_lastDayOfInstalment 5 = .ok (.iconst 1, 1) := by decide +kernel
theorem dX2_lastDayOfInstalment_6 : decode cX2_lastDayOfInstalment 6 = .ok (.iadd, 1) := by decide +kernel
theorem dX2_lastDayOfInstalment_7 : decode cX2_lastDayOfInstalment 7 = .ok (.aload_n 0, 1) := by decide +kernel
theorem dX2_lastDayOfInstalment_8 : decode cX2_lastDayOfInstalment 8 = .ok (.getfield 34, 3) := by decide +kernel
theorem dX2_lastDayOfInstalment_11 : decode cX2_lastDayOfInstalment 11 = .ok (.imul, 1) := by decide +kernel
theorem dX2_lastDayOfInstalment_12 : decode cX2_lastDayOfInstalment 12 = .ok (.iadd, 1) := by decide +kernel
theorem dX2_lastDayOfInstalment_13 : decode cX2_lastDayOfInstalment 13 = .ok (.ireturn, 1) := by decide +kernel
theorem dX2_instalmentsPaidWhole_0 : decode cX2_instalmentsPaidWhole 0 = .ok (.iconst 0, 1) := by decide +kernel
theorem dX2_instalmentsPaidWhole_1 : decode cX2_instalmentsPaidWhole 1 = .ok (.istore_n 1, 1) := by decide +kernel
theorem dX2_instalmentsPaidWhole_2 : decode cX2_instalmentsPaidWhole 2 = .ok (.iconst 0, 1) := by decide +kernel
theorem dX2_instalmentsPaidWhole_3 : decode cX2_instalmentsPaidWhole 3 = .ok (.istore_n 2, 1) := by decide +kernel
theorem dX2_instalmentsPaidWhole_4 : decode cX2_instalmentsPaidWhole 4 = .ok (.iload_n 2, 1) := by decide +kernel
theorem dX2_instalmentsPaidWhole_5 : decode cX2_instalmentsPaidWhole 5 = .ok (.aload_n 0, 1) := by decide +kernel
theorem dX2_instalmentsPaidWhole_6 : decode cX2_instalmentsPaidWhole 6 = .ok (.getfield 37, 3) := by decide +kernel
theorem dX2_instalmentsPaidWhole_9 : decode cX2_instalmentsPaidWhole 9 = .ok (.if_icmp .ge 26, 3) := by decide +kernel
theorem dX2_instalmentsPaidWhole_12 : decode cX2_instalmentsPaidWhole 12 = .ok (.iload_n 2, 1) := by decide +kernel
theorem dX2_instalmentsPaidWhole_13 : decode cX2_instalmentsPaidWhole 13 = .ok (.iconst 4, 1) := by decide +kernel
theorem dX2_instalmentsPaidWhole_14 : decode cX2_instalmentsPaidWhole 14 = .ok (.if_icmp .ge 21, 3) := by decide +kernel
theorem dX2_instalmentsPaidWhole_17 : decode cX2_instalmentsPaidWhole 17 = .ok (.aload_n 0, 1) := by decide +kernel
theorem dX2_instalmentsPaidWhole_18 : decode cX2_instalmentsPaidWhole 18 = .ok (.getfield 27, 3) := by decide +kernel
theorem dX2_instalmentsPaidWhole_21 : decode cX2_instalmentsPaidWhole 21 = .ok (.iload_n 2, 1) := by decide +kernel
theorem dX2_instalmentsPaidWhole_22 : decode cX2_instalmentsPaidWhole 22 = .ok (.iaload, 1) := by decide +kernel
theorem dX2_instalmentsPaidWhole_23 : decode cX2_instalmentsPaidWhole 23 = .ok (.ifCond .ne 6, 3) := by decide +kernel
theorem dX2_instalmentsPaidWhole_26 : decode cX2_instalmentsPaidWhole 26 = .ok (.iinc 1 1, 3) := by decide +kernel
theorem dX2_instalmentsPaidWhole_29 : decode cX2_instalmentsPaidWhole 29 = .ok (.iinc 2 1, 3) := by decide +kernel
theorem dX2_instalmentsPaidWhole_32 : decode cX2_instalmentsPaidWhole 32 = .ok (.goto (-28), 3) := by decide +kernel
theorem dX2_instalmentsPaidWhole_35 : decode cX2_instalmentsPaidWhole 35 = .ok (.iload_n 1, 1) := by decide +kernel
theorem dX2_instalmentsPaidWhole_36 : decode cX2_instalmentsPaidWhole 36 = .ok (.ireturn, 1) := by decide +kernel
theorem dX2_dueOn_0 : decode cX2_dueOn 0 = .ok (.aload_n 0, 1) := by decide +kernel
theorem dX2_dueOn_1 : decode cX2_dueOn 1 = .ok (.getfield 49, 3) := by decide +kernel
theorem dX2_dueOn_4 : decode cX2_dueOn 4 = .ok (.ifCond .eq 8, 3) := by decide +kernel
theorem dX2_dueOn_7 : decode cX2_dueOn 7 = .ok (.aload_n 0, 1) := by decide +kernel
theorem dX2_dueOn_8 : decode cX2_dueOn 8 = .ok (.invokevirtual 74, 3) := by decide +kernel
theorem dX2_dueOn_11 : decode cX2_dueOn 11 = .ok (.ireturn, 1) := by decide +kernel
theorem dX2_dueOn_12 : decode cX2_dueOn 12 = .ok (.iconst 0, 1) := by decide +kernel
theorem dX2_dueOn_13 : decode cX2_dueOn 13 = .ok (.istore_n 2, 1) := by decide +kernel
theorem dX2_dueOn_14 : decode cX2_dueOn 14 = .ok (.iconst 0, 1) := by decide +kernel
theorem dX2_dueOn_15 : decode cX2_dueOn 15 = .ok (.istore_n 3, 1) := by decide +kernel
theorem dX2_dueOn_16 : decode cX2_dueOn 16 = .ok (.iload_n 3, 1) := by decide +kernel
theorem dX2_dueOn_17 : decode cX2_dueOn 17 = .ok (.aload_n 0, 1) := by decide +kernel
theorem dX2_dueOn_18 : decode cX2_dueOn 18 = .ok (.getfield 37, 3) := by decide +kernel
theorem dX2_dueOn_21 : decode cX2_dueOn 21 = .ok (.if_icmp .ge 32, 3) := by decide +kernel
theorem dX2_dueOn_24 : decode cX2_dueOn 24 = .ok (.iload_n 3, 1) := by decide +kernel
theorem dX2_dueOn_25 : decode cX2_dueOn 25 = .ok (.iconst 4, 1) := by decide +kernel
theorem dX2_dueOn_26 : decode cX2_dueOn 26 = .ok (.if_icmp .ge 27, 3) := by decide +kernel
theorem dX2_dueOn_29 : decode cX2_dueOn 29 = .ok (.aload_n 0, 1) := by decide +kernel
theorem dX2_dueOn_30 : decode cX2_dueOn 30 = .ok (.iload_n 3, 1) := by decide +kernel
theorem dX2_dueOn_31 : decode cX2_dueOn 31 = .ok (.invokevirtual 97, 3) := by decide +kernel
theorem dX2_dueOn_34 : decode cX2_dueOn 34 = .ok (.iload_n 1, 1) := by decide +kernel
theorem dX2_dueOn_35 : decode cX2_dueOn 35 = .ok (.if_icmp .le 12, 3) := by decide +kernel
theorem dX2_dueOn_38 : decode cX2_dueOn 38 = .ok (.iload_n 2, 1) := by decide +kernel
theorem dX2_dueOn_39 : decode cX2_dueOn 39 = .ok (.aload_n 0, 1) := by decide +kernel
theorem dX2_dueOn_40 : decode cX2_dueOn 40 = .ok (.getfield 27, 3) := by decide +kernel
theorem dX2_dueOn_43 : decode cX2_dueOn 43 = .ok (.iload_n 3, 1) := by decide +kernel
theorem dX2_dueOn_44 : decode cX2_dueOn 44 = .ok (.iaload, 1) := by decide +kernel
theorem dX2_dueOn_45 : decode cX2_dueOn 45 = .ok (.iadd, 1) := by decide +kernel
theorem dX2_dueOn_46 : decode cX2_dueOn 46 = .ok (.istore_n 2, 1) := by decide +kernel
theorem dX2_dueOn_47 : decode cX2_dueOn 47 = .ok (.iinc 3 1, 3) := by decide +kernel
theorem dX2_dueOn_50 : decode cX2_dueOn 50 = .ok (.goto (-34), 3) := by decide +kernel
theorem dX2_dueOn_53 : decode cX2_dueOn 53 = .ok (.aload_n 0, 1) := by decide +kernel
theorem dX2_dueOn_54 : decode cX2_dueOn 54 = .ok (.invokevirtual 74, 3) := by decide +kernel
theorem dX2_dueOn_57 : decode cX2_dueOn 57 = .ok (.iload_n 2, 1) := by decide +kernel
theorem dX2_dueOn_58 : decode cX2_dueOn 58 = .ok (.isub, 1) := by decide +kernel
theorem dX2_dueOn_59 : decode cX2_dueOn 59 = .ok (.ireturn, 1) := by decide +kernel
theorem dX2_dayOfBreak_0 : decode cX2_dayOfBreak 0 = .ok (.aload_n 0, 1) := by decide +kernel
theorem dX2_dayOfBreak_1 : decode cX2_dayOfBreak 1 = .ok (.invokevirtual 100, 3) := by decide +kernel
theorem dX2_dayOfBreak_4 : decode cX2_dayOfBreak 4 = .ok (.istore_n 1, 1) := by decide +kernel
theorem dX2_dayOfBreak_5 : decode cX2_dayOfBreak 5 = .ok (.aload_n 0, 1) := by decide +kernel
theorem dX2_dayOfBreak_6 : decode cX2_dayOfBreak 6 = .ok (.getfield 49, 3) := by decide +kernel
theorem dX2_dayOfBreak_9 : decode cX2_dayOfBreak 9 = .ok (.ifCond .ne 11, 3) := by decide +kernel
theorem dX2_dayOfBreak_12 : decode cX2_dayOfBreak 12 = .ok (.iload_n 1, 1) := by decide +kernel
theorem dX2_dayOfBreak_13 : decode cX2_dayOfBreak 13 = .ok (.aload_n 0, 1) := by decide +kernel
theorem dX2_dayOfBreak_14 : decode cX2_dayOfBreak 14 = .ok (.getfield 37, 3) := by decide +kernel
theorem dX2_dayOfBreak_17 : decode cX2_dayOfBreak 17 = .ok (.if_icmp .lt 7, 3) := by decide +kernel
theorem dX2_dayOfBreak_20 : decode cX2_dayOfBreak 20 = .ok (.iconst (-1), 1) := by decide +kernel
theorem dX2_dayOfBreak_21 : decode cX2_dayOfBreak 21 = .ok (.goto 10, 3) := by decide +kernel
theorem dX2_dayOfBreak_24 : decode cX2_dayOfBreak 24 = .ok (.aload_n 0, 1) := by decide +kernel
theorem dX2_dayOfBreak_25 : decode cX2_dayOfBreak 25 = .ok (.iload_n 1, 1) := by decide +kernel
theorem dX2_dayOfBreak_26 : decode cX2_dayOfBreak 26 = .ok (.invokevirtual 97, 3) := by decide +kernel
theorem dX2_dayOfBreak_29 : decode cX2_dayOfBreak 29 = .ok (.iconst 1, 1) := by decide +kernel
theorem dX2_dayOfBreak_30 : decode cX2_dayOfBreak 30 = .ok (.iadd, 1) := by decide +kernel
theorem dX2_dayOfBreak_31 : decode cX2_dayOfBreak 31 = .ok (.ireturn, 1) := by decide +kernel
theorem dJxe99ae_isNaN_b9ae7_0 : decode cJxe99ae_isNaN_b9ae7 0 = .ok (.dload_n 0, 1) := by decide +kernel
theorem dJxe99ae_isNaN_b9ae7_1 : decode cJxe99ae_isNaN_b9ae7 1 = .ok (.dload_n 0, 1) := by decide +kernel
theorem dJxe99ae_isNaN_b9ae7_2 : decode cJxe99ae_isNaN_b9ae7 2 = .ok (.dcmp .l, 1) := by decide +kernel
theorem dJxe99ae_isNaN_b9ae7_3 : decode cJxe99ae_isNaN_b9ae7 3 = .ok (.ifCond .eq 7, 3) := by decide +kernel
theorem dJxe99ae_isNaN_b9ae7_6 : decode cJxe99ae_isNaN_b9ae7 6 = .ok (.iconst 1, 1) := by decide +kernel
theorem dJxe99ae_isNaN_b9ae7_7 : decode cJxe99ae_isNaN_b9ae7 7 = .ok (.goto 4, 3) := by decide +kernel
theorem dJxe99ae_isNaN_b9ae7_10 : decode cJxe99ae_isNaN_b9ae7 10 = .ok (.iconst 0, 1) := by decide +kernel
theorem dJxe99ae_isNaN_b9ae7_11 : decode cJxe99ae_isNaN_b9ae7 11 = .ok (.ireturn, 1) := by decide +kernel
theorem dJxe99ae_doubleToLongBits_ccdee_0 : decode cJxe99ae_doubleToLongBits_ccdee 0 = .ok (.dload_n 0, 1) := by decide +kernel
theorem dJxe99ae_doubleToLongBits_ccdee_1 : decode cJxe99ae_doubleToLongBits_ccdee 1 = .ok (.invokestatic 122, 3) := by decide +kernel
theorem dJxe99ae_doubleToLongBits_ccdee_4 : decode cJxe99ae_doubleToLongBits_ccdee 4 = .ok (.ifCond .ne 8, 3) := by decide +kernel
theorem dJxe99ae_doubleToLongBits_ccdee_7 : decode cJxe99ae_doubleToLongBits_ccdee 7 = .ok (.dload_n 0, 1) := by decide +kernel
theorem dJxe99ae_doubleToLongBits_ccdee_8 : decode cJxe99ae_doubleToLongBits_ccdee 8 = .ok (.invokestatic 134, 3) := by decide +kernel
theorem dJxe99ae_doubleToLongBits_ccdee_11 : decode cJxe99ae_doubleToLongBits_ccdee 11 = .ok (.lreturn, 1) := by decide +kernel
theorem dJxe99ae_doubleToLongBits_ccdee_12 : decode cJxe99ae_doubleToLongBits_ccdee 12 = .ok (.ldc2_w 137, 3) := by decide +kernel
theorem dJxe99ae_doubleToLongBits_ccdee_15 : decode cJxe99ae_doubleToLongBits_ccdee 15 = .ok (.lreturn, 1) := by decide +kernel
theorem dJ9_max_7cf53_0 : decode cJ9_max_7cf53 0 = .ok (.iload_n 0, 1) := by decide +kernel
theorem dJ9_max_7cf53_1 : decode cJ9_max_7cf53 1 = .ok (.iload_n 1, 1) := by decide +kernel
theorem dJ9_max_7cf53_2 : decode cJ9_max_7cf53 2 = .ok (.if_icmp .lt 7, 3) := by decide +kernel
theorem dJ9_max_7cf53_5 : decode cJ9_max_7cf53 5 = .ok (.iload_n 0, 1) := by decide +kernel
theorem dJ9_max_7cf53_6 : decode cJ9_max_7cf53 6 = .ok (.goto 4, 3) := by decide +kernel
theorem dJ9_max_7cf53_9 : decode cJ9_max_7cf53 9 = .ok (.iload_n 1, 1) := by decide +kernel
theorem dJ9_max_7cf53_10 : decode cJ9_max_7cf53 10 = .ok (.ireturn, 1) := by decide +kernel
theorem dJ9_min_7cf53_0 : decode cJ9_min_7cf53 0 = .ok (.iload_n 0, 1) := by decide +kernel
theorem dJ9_min_7cf53_1 : decode cJ9_min_7cf53 1 = .ok (.iload_n 1, 1) := by decide +kernel
theorem dJ9_min_7cf53_2 : decode cJ9_min_7cf53 2 = .ok (.if_icmp .gt 7, 3) := by decide +kernel
theorem dJ9_min_7cf53_5 : decode cJ9_min_7cf53 5 = .ok (.iload_n 0, 1) := by decide +kernel
theorem dJ9_min_7cf53_6 : decode cJ9_min_7cf53 6 = .ok (.goto 4, 3) := by decide +kernel
theorem dJ9_min_7cf53_9 : decode cJ9_min_7cf53 9 = .ok (.iload_n 1, 1) := by decide +kernel
theorem dJ9_min_7cf53_10 : decode cJ9_min_7cf53 10 = .ok (.ireturn, 1) := by decide +kernel
