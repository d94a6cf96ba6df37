theorem dX4_beginsOrder_0 : decode cX4_beginsOrder 0 = .ok (.aload_n 0, 1) := by decide +kernel
theorem dX4_beginsOrder_1 : decode cX4_beginsOrder 1 = .ok (.getfield 19, 3) := by decide +kernel
theorem dX4_beginsOrder_4 : decode cX4_beginsOrder 4 = .ok (.iconst 4, 1) := by decide +kernel
theorem dX4_beginsOrder_5 : decode cX4_beginsOrder 5 = .ok (.aload_n 0, 1) := by decide +kernel
theorem dX4_beginsOrder_6 : decode cX4_beginsOrder 6 = .ok (.getfield 151, 3) := by decide +kernel
theorem dX4_beginsOrder_9 : decode cX4_beginsOrder 9 = .ok (.imul, 1) := by decide +kernel
theorem dX4_beginsOrder_10 : decode cX4_beginsOrder 10 = .ok (.iload_n 1, 1) := by decide +kernel
theorem dX4_beginsOrder_11 : decode cX4_beginsOrder 11 = .ok (.iastore, 1) := by decide +kernel
theorem dX4_beginsOrder_12 : decode cX4_beginsOrder 12 = .ok (.aload_n 0, 1) := by decide +kernel
theorem dX4_beginsOrder_13 : decode cX4_beginsOrder 13 = .ok (.iconst (-1), 1) := by decide +kernel
theorem dX4_beginsOrder_14 : decode cX4_beginsOrder 14 = .ok (.putfield 154, 3) := by decide +kernel
theorem dX4_beginsOrder_17 : decode cX4_beginsOrder 17 = .ok (.aload_n 0, 1) := by decide +kernel
theorem dX4_beginsOrder_18 : decode cX4_beginsOrder 18 = .ok (.iload_n 1, 1) := by decide +kernel
theorem dX4_beginsOrder_19 : decode cX4_beginsOrder 19 = .ok (.bipush 100, 2) := by decide +kernel
theorem dX4_beginsOrder_21 : decode cX4_beginsOrder 21 = .ok (.if_icmp .ne 7, 3) := by decide +kernel
theorem dX4_beginsOrder_24 : decode cX4_beginsOrder 24 = .ok (.iconst 4, 1) := by decide +kernel
theorem dX4_beginsOrder_25 : decode cX4_beginsOrder 25 = .ok (.goto 4, 3) := by decide +kernel
theorem dX4_beginsOrder_28 : decode cX4_beginsOrder 28 = .ok (.iconst 1, 1) := by decide +kernel
theorem dX4_beginsOrder_29 : decode cX4_beginsOrder 29 = .ok (.putfield 157, 3) := by decide +kernel
theorem dX4_beginsOrder_32 : decode cX4_beginsOrder 32 = .ok (.iload_n 1, 1) := by decide +kernel
theorem dX4_beginsOrder_33 : decode cX4_beginsOrder 33 = .ok (.bipush 97, 2) := by decide +kernel
theorem dX4_beginsOrder_35 : decode cX4_beginsOrder 35 = .ok (.if_icmp .eq 21, 3) := by decide +kernel
theorem dX4_beginsOrder_38 : decode cX4_beginsOrder 38 = .ok (.iload_n 1, 1) := by decide +kernel
theorem dX4_beginsOrder_39 : decode cX4_beginsOrder 39 = .ok (.bipush 98, 2) := by decide +kernel
theorem dX4_beginsOrder_41 : decode cX4_beginsOrder 41 = .ok (.if_icmp .eq 15, 3) := by decide +kernel
theorem dX4_beginsOrder_44 : decode cX4_beginsOrder 44 = .ok (.iload_n 1, 1) := by decide +kernel
theorem dX4_beginsOrder_45 : decode cX4_beginsOrder 45 = .ok (.bipush 112, 2) := by decide +kernel
theorem dX4_beginsOrder_47 : decode cX4_beginsOrder 47 = .ok (.if_icmp .eq 9, 3) := by decide +kernel
theorem dX4_beginsOrder_50 : decode cX4_beginsOrder 50 = .ok (.iload_n 1, 1) := by decide +kernel
theorem dX4_beginsOrder_51 : decode cX4_beginsOrder 51 = .ok (.bipush 100, 2) := by decide +kernel
theorem dX4_beginsOrder_53 : decode cX4_beginsOrder 53 = .ok (.if_icmp .ne 7, 3) := by decide +kernel
theorem dX4_beginsOrder_56 : decode cX4_beginsOrder 56 = .ok (.iconst 1, 1) := by decide +kernel
theorem dX4_beginsOrder_57 : decode cX4_beginsOrder 57 = .ok (.goto 4, 3) := by decide +kernel
theorem dX4_beginsOrder_60 : decode cX4_beginsOrder 60 = .ok (.iconst 0, 1) := by decide +kernel
theorem dX4_beginsOrder_61 : decode cX4_beginsOrder 61 = .ok (.ireturn, 1) := by decide +kernel
theorem dX4_takesPhase_0 : decode cX4_takesPhase 0 = .ok (.aload_n 0, 1) := by decide +kernel
theorem dX4_takesPhase_1 : decode cX4_takesPhase 1 = .ok (.getfield 19, 3) := by decide +kernel
theorem dX4_takesPhase_4 : decode cX4_takesPhase 4 = .ok (.iconst 4, 1) := by decide +kernel
theorem dX4_takesPhase_5 : decode cX4_takesPhase 5 = .ok (.aload_n 0, 1) := by decide +kernel
theorem dX4_takesPhase_6 : decode cX4_takesPhase 6 = .ok (.getfield 151, 3) := by decide +kernel
theorem dX4_takesPhase_9 : decode cX4_takesPhase 9 = .ok (.imul, 1) := by decide +kernel
theorem dX4_takesPhase_10 : decode cX4_takesPhase 10 = .ok (.iaload, 1) := by decide +kernel
theorem dX4_takesPhase_11 : decode cX4_takesPhase 11 = .ok (.istore_n 2, 1) := by decide +kernel
theorem dX4_takesPhase_12 : decode cX4_takesPhase 12 = .ok (.aload_n 0, 1) := by decide +kernel
theorem dX4_takesPhase_13 : decode cX4_takesPhase 13 = .ok (.getfield 19, 3) := by decide +kernel
theorem dX4_takesPhase_16 : decode cX4_takesPhase 16 = .ok (.iconst 4, 1) := by decide +kernel
theorem dX4_takesPhase_17 : decode cX4_takesPhase 17 = .ok (.aload_n 0, 1) := by decide +kernel
theorem dX4_takesPhase_18 : decode cX4_takesPhase 18 = .ok (.getfield 151, 3) := by decide +kernel
theorem dX4_takesPhase_21 : decode cX4_takesPhase 21 = .ok (.imul, 1) := by decide +kernel
theorem dX4_takesPhase_22 : decode cX4_takesPhase 22 = .ok (.iconst 1, 1) := by decide +kernel
theorem dX4_takesPhase_23 : decode cX4_takesPhase 23 = .ok (.iadd, 1) := by decide +kernel
theorem dX4_takesPhase_24 : decode cX4_takesPhase 24 = .ok (.iload_n 1, 1) := by decide +kernel
theorem dX4_takesPhase_25 : decode cX4_takesPhase 25 = .ok (.bipush 48, 2) := by decide +kernel
theorem dX4_takesPhase_27 : decode cX4_takesPhase 27 = .ok (.isub, 1) := by decide +kernel
theorem dX4_takesPhase_28 : decode cX4_takesPhase 28 = .ok (.iastore, 1) := by decide +kernel
theorem dX4_takesPhase_29 : decode cX4_takesPhase 29 = .ok (.aload_n 0, 1) := by decide +kernel
theorem dX4_takesPhase_30 : decode cX4_takesPhase 30 = .ok (.iload_n 2, 1) := by decide +kernel
theorem dX4_takesPhase_31 : decode cX4_takesPhase 31 = .ok (.bipush 97, 2) := by decide +kernel
theorem dX4_takesPhase_33 : decode cX4_takesPhase 33 = .ok (.if_icmp .ne 7, 3) := by decide +kernel
theorem dX4_takesPhase_36 : decode cX4_takesPhase 36 = .ok (.iconst 2, 1) := by decide +kernel
theorem dX4_takesPhase_37 : decode cX4_takesPhase 37 = .ok (.goto 14, 3) := by decide +kernel
theorem dX4_takesPhase_40 : decode cX4_takesPhase 40 = .ok (.iload_n 2, 1) := by decide +kernel
theorem dX4_takesPhase_41 : decode cX4_takesPhase 41 = .ok (.bipush 98, 2) := by decide +kernel
theorem dX4_takesPhase_43 : decode cX4_takesPhase 43 = .ok (.if_icmp .ne 7, 3) := by decide +kernel
theorem dX4_takesPhase_46 : decode cX4_takesPhase 46 = .ok (.iconst 5, 1) := by decide +kernel
theorem dX4_takesPhase_47 : decode cX4_takesPhase 47 = .ok (.goto 4, 3) := by decide +kernel
theorem dX4_takesPhase_50 : decode cX4_takesPhase 50 = .ok (.iconst 3, 1) := by decide +kernel
theorem dX4_takesPhase_51 : decode cX4_takesPhase 51 = .ok (.putfield 157, 3) := by decide +kernel
theorem dX4_takesPhase_54 : decode cX4_takesPhase 54 = .ok (.iload_n 1, 1) := by decide +kernel
theorem dX4_takesPhase_55 : decode cX4_takesPhase 55 = .ok (.bipush 48, 2) := by decide +kernel
theorem dX4_takesPhase_57 : decode cX4_takesPhase 57 = .ok (.bipush 53, 2) := by decide +kernel
theorem dX4_takesPhase_59 : decode cX4_takesPhase 59 = .ok (.invokestatic 32, 3) := by decide +kernel
theorem dX4_takesPhase_62 : decode cX4_takesPhase 62 = .ok (.ireturn, 1) := by decide +kernel
theorem dX4_takesUse_0 : decode cX4_takesUse 0 = .ok (.aload_n 0, 1) := by decide +kernel
theorem dX4_takesUse_1 : decode cX4_takesUse 1 = .ok (.getfield 19, 3) := by decide +kernel
theorem dX4_takesUse_4 : decode cX4_takesUse 4 = .ok (.iconst 4, 1) := by decide +kernel
theorem dX4_takesUse_5 : decode cX4_takesUse 5 = .ok (.aload_n 0, 1) := by decide +kernel
theorem dX4_takesUse_6 : decode cX4_takesUse 6 = .ok (.getfield 151, 3) := by decide +kernel
theorem dX4_takesUse_9 : decode cX4_takesUse 9 = .ok (.imul, 1) := by decide +kernel
theorem dX4_takesUse_10 : decode cX4_takesUse 10 = .ok (.iconst 2, 1) := by decide +kernel
theorem dX4_takesUse_11 : decode cX4_takesUse 11 = .ok (.iadd, 1) := by decide +kernel
theorem dX4_takesUse_12 : decode cX4_takesUse 12 = .ok (.iload_n 1, 1) := by decide +kernel
theorem dX4_takesUse_13 : decode cX4_takesUse 13 = .ok (.bipush 48, 2) := by decide +kernel
theorem dX4_takesUse_15 : decode cX4_takesUse 15 = .ok (.isub, 1) := by decide +kernel
theorem dX4_takesUse_16 : decode cX4_takesUse 16 = .ok (.iastore, 1) := by decide +kernel
theorem dX4_takesUse_17 : decode cX4_takesUse 17 = .ok (.aload_n 0, 1) := by decide +kernel
theorem dX4_takesUse_18 : decode cX4_takesUse 18 = .ok (.iconst 3, 1) := by decide +kernel
theorem dX4_takesUse_19 : decode cX4_takesUse 19 = .ok (.putfield 157, 3) := by decide +kernel
theorem dX4_takesUse_22 : decode cX4_takesUse 22 = .ok (.iload_n 1, 1) := by decide +kernel
theorem dX4_takesUse_23 : decode cX4_takesUse 23 = .ok (.bipush 48, 2) := by decide +kernel
theorem dX4_takesUse_25 : decode cX4_takesUse 25 = .ok (.isub, 1) := by decide +kernel
theorem dX4_takesUse_26 : decode cX4_takesUse 26 = .ok (.invokestatic 87, 3) := by decide +kernel
theorem dX4_takesUse_29 : decode cX4_takesUse 29 = .ok (.ireturn, 1) := by decide +kernel
theorem dX4_takesDigit_0 : decode cX4_takesDigit 0 = .ok (.aload_n 0, 1) := by decide +kernel
theorem dX4_takesDigit_1 : decode cX4_takesDigit 1 = .ok (.getfield 19, 3) := by decide +kernel
theorem dX4_takesDigit_4 : decode cX4_takesDigit 4 = .ok (.iconst 4, 1) := by decide +kernel
theorem dX4_takesDigit_5 : decode cX4_takesDigit 5 = .ok (.aload_n 0, 1) := by decide +kernel
theorem dX4_takesDigit_6 : decode cX4_takesDigit 6 = .ok (.getfield 151, 3) := by decide +kernel
theorem dX4_takesDigit_9 : decode cX4_takesDigit 9 = .ok (.imul, 1) := by decide +kernel
theorem dX4_takesDigit_10 : decode cX4_takesDigit 10 = .ok (.iaload, 1) := by decide +kernel
theorem dX4_takesDigit_11 : decode cX4_takesDigit 11 = .ok (.istore_n 2, 1) := by decide +kernel
theorem dX4_takesDigit_12 : decode cX4_takesDigit 12 = .ok (.aload_n 0, 1) := by decide +kernel
theorem dX4_takesDigit_13 : decode cX4_takesDigit 13 = .ok (.getfield 154, 3) := by decide +kernel
theorem dX4_takesDigit_16 : decode cX4_takesDigit 16 = .ok (.iconst (-1), 1) := by decide +kernel
theorem dX4_takesDigit_17 : decode cX4_takesDigit 17 = .ok (.if_icmp .ne 7, 3) := by decide +kernel
theorem dX4_takesDigit_20 : decode cX4_takesDigit 20 = .ok (.iload_n 1, 1) := by decide +kernel
theorem dX4_takesDigit_21 : decode cX4_takesDigit 21 = .ok (.goto 12, 3) := by decide +kernel
theorem dX4_takesDigit_24 : decode cX4_takesDigit 24 = .ok (.bipush 10, 2) := by decide +kernel
theorem dX4_takesDigit_26 : decode cX4_takesDigit 26 = .ok (.aload_n 0, 1) := by decide +kernel
theorem dX4_takesDigit_27 : decode cX4_takesDigit 27 = .ok (.getfield 154, 3) := by decide +kernel
theorem dX4_takesDigit_30 : decode cX4_takesDigit 30 = .ok (.imul, 1) := by decide +kernel
theorem dX4_takesDigit_31 : decode cX4_takesDigit 31 = .ok (.iload_n 1, 1) := by decide +kernel
theorem dX4_takesDigit_32 : decode cX4_takesDigit 32 = .ok (.iadd, 1) := by decide +kernel
theorem dX4_takesDigit_33 : decode cX4_takesDigit 33 = .ok (.istore_n 3, 1) := by decide +kernel
theorem dX4_takesDigit_34 : decode cX4_takesDigit 34 = .ok (.iload_n 2, 1) := by decide +kernel
theorem dX4_takesDigit_35 : decode cX4_takesDigit 35 = .ok (.bipush 97, 2) := by decide +kernel
theorem dX4_takesDigit_37 : decode cX4_takesDigit 37 = .ok (.if_icmp .ne 9, 3) := by decide +kernel
theorem dX4_takesDigit_40 : decode cX4_takesDigit 40 = .ok (.sipush 999, 3) := by decide +kernel
theorem dX4_takesDigit_43 : decode cX4_takesDigit 43 = .ok (.goto 16, 3) := by decide +kernel
theorem dX4_takesDigit_46 : decode cX4_takesDigit 46 = .ok (.iload_n 2, 1) := by decide +kernel
theorem dX4_takesDigit_47 : decode cX4_takesDigit 47 = .ok (.bipush 112, 2) := by decide +kernel
theorem dX4_takesDigit_49 : decode cX4_takesDigit 49 = .ok (.if_icmp .ne 8, 3) := by decide +kernel
theorem dX4_takesDigit_52 : decode cX4_takesDigit 52 = .ok (.ldc 119, 2) := by decide +kernel
theorem dX4_takesDigit_54 : decode cX4_takesDigit 54 = .ok (.goto 5, 3) := by decide +kernel
theorem dX4_takesDigit_57 : decode cX4_takesDigit 57 = .ok (.bipush 99, 2) := by decide +kernel
theorem dX4_takesDigit_59 : decode cX4_takesDigit 59 = .ok (.istore 4, 2) := by decide +kernel
theorem dX4_takesDigit_61 : decode cX4_takesDigit 61 = .ok (.iload_n 1, 1) := by decide +kernel
theorem dX4_takesDigit_62 : decode cX4_takesDigit 62 = .ok (.iconst 0, 1) := by decide +kernel
theorem dX4_takesDigit_63 : decode cX4_takesDigit 63 = .ok (.bipush 9, 2) := by decide +kernel
theorem dX4_takesDigit_65 : decode cX4_takesDigit 65 = .ok (.invokestatic 32, 3) := by decide +kernel
theorem dX4_takesDigit_68 : decode cX4_takesDigit 68 = .ok (.ifCond .eq 34, 3) := by decide +kernel
theorem dX4_takesDigit_71 : decode cX4_takesDigit 71 = .ok (.aload_n 0, 1) := by decide +kernel
theorem dX4_takesDigit_72 : decode cX4_takesDigit 72 = .ok (.getfield 154, 3) := by decide +kernel
theorem dX4_takesDigit_75 : decode cX4_takesDigit 75 = .ok (.ifCond .eq 27, 3) := by decide +kernel
theorem dX4_takesDigit_78 : decode cX4_takesDigit 78 = .ok (.iload_n 3, 1) := by decide +kernel
theorem dX4_takesDigit_79 : decode cX4_takesDigit 79 = .ok (.iload_n 2, 1) := by decide +kernel
theorem dX4_takesDigit_80 : decode cX4_takesDigit 80 = .ok (.bipush 97, 2) := by decide +kernel
theorem dX4_takesDigit_82 : decode cX4_takesDigit 82 = .ok (.if_icmp .ne 7, 3) := by decide +kernel
theorem dX4_takesDigit_85 : decode cX4_takesDigit 85 = .ok (.iconst 0, 1) := by decide +kernel
theorem dX4_takesDigit_86 : decode cX4_takesDigit 86 = .ok (.goto 4, 3) := by decide +kernel
theorem dX4_takesDigit_89 : decode cX4_takesDigit 89 = .ok (.iconst 1, 1) := by decide +kernel
theorem dX4_takesDigit_90 : decode cX4_takesDigit 90 = .ok (.iload 4, 2) := by decide +kernel
theorem dX4_takesDigit_92 : decode cX4_takesDigit 92 = .ok (.invokestatic 32, 3) := by decide +kernel
theorem dX4_takesDigit_95 : decode cX4_takesDigit 95 = .ok (.ifCond .eq 7, 3) := by decide +kernel
theorem dX4_takesDigit_98 : decode cX4_takesDigit 98 = .ok (.iconst 1, 1) := by decide +kernel
theorem dX4_takesDigit_99 : decode cX4_takesDigit 99 = .ok (.goto 4, 3) := by decide +kernel
theorem dX4_takesDigit_102 : decode cX4_takesDigit 102 = .ok (.iconst 0, 1) := by decide +kernel
theorem dX4_takesDigit_103 : decode cX4_takesDigit 103 = .ok (.istore 5, 2) := by decide +kernel
theorem dX4_takesDigit_105 : decode cX4_takesDigit 105 = .ok (.aload_n 0, 1) := by decide +kernel
theorem dX4_takesDigit_106 : decode cX4_takesDigit 106 = .ok (.iload 5, 2) := by decide +kernel
theorem dX4_takesDigit_108 : decode cX4_takesDigit 108 = .ok (.ifCond .eq 7, 3) := by decide +kernel
theorem dX4_takesDigit_111 : decode cX4_takesDigit 111 = .ok (.iload_n 3, 1) := by decide +kernel
theorem dX4_takesDigit_112 : decode cX4_takesDigit 112 = .ok (.goto 7, 3) := by decide +kernel
theorem dX4_takesDigit_115 : decode cX4_takesDigit 115 = .ok (.aload_n 0, 1) := by decide +kernel
theorem dX4_takesDigit_116 : decode cX4_takesDigit 116 = .ok (.getfield 154, 3) := by decide +kernel
theorem dX4_takesDigit_119 : decode cX4_takesDigit 119 = .ok (.putfield 154, 3) := by decide +kernel
theorem dX4_takesDigit_122 : decode cX4_takesDigit 122 = .ok (.aload_n 0, 1) := by decide +kernel
theorem dX4_takesDigit_123 : decode cX4_takesDigit 123 = .ok (.getfield 19, 3) := by decide +kernel
theorem dX4_takesDigit_126 : decode cX4_takesDigit 126 = .ok (.iconst 4, 1) := by decide +kernel
theorem dX4_takesDigit_127 : decode cX4_takesDigit 127 = .ok (.aload_n 0, 1) := by decide +kernel
theorem dX4_takesDigit_128 : decode cX4_takesDigit 128 = .ok (.getfield 151, 3) := by decide +kernel
theorem dX4_takesDigit_131 : decode cX4_takesDigit 131 = .ok (.imul, 1) := by decide +kernel
theorem dX4_takesDigit_132 : decode cX4_takesDigit 132 = .ok (.iconst 3, 1) := by decide +kernel
theorem dX4_takesDigit_133 : decode cX4_takesDigit 133 = .ok (.iadd, 1) := by decide +kernel
theorem dX4_takesDigit_134 : decode cX4_takesDigit 134 = .ok (.aload_n 0, 1) := by decide +kernel
theorem dX4_takesDigit_135 : decode cX4_takesDigit 135 = .ok (.getfield 154, 3) := by decide +kernel
theorem dX4_takesDigit_138 : decode cX4_takesDigit 138 = .ok (.iastore, 1) := by decide +kernel
theorem dX4_takesDigit_139 : decode cX4_takesDigit 139 = .ok (.iload 5, 2) := by decide +kernel
theorem dX4_takesDigit_141 : decode cX4_takesDigit 141 = .ok (.ireturn, 1) := by decide +kernel
theorem dX4_isEnded_0 : decode cX4_isEnded 0 = .ok (.aload_n 0, 1) := by decide +kernel
theorem dX4_isEnded_1 : decode cX4_isEnded 1 = .ok (.getfield 157, 3) := by decide +kernel
theorem dX4_isEnded_4 : decode cX4_isEnded 4 = .ok (.iconst 5, 1) := by decide +kernel
theorem dX4_isEnded_5 : decode cX4_isEnded 5 = .ok (.if_icmp .eq 19, 3) := by decide +kernel
theorem dX4_isEnded_8 : decode cX4_isEnded 8 = .ok (.aload_n 0, 1) := by decide +kernel
theorem dX4_isEnded_9 : decode cX4_isEnded 9 = .ok (.getfield 157, 3) := by decide +kernel
theorem dX4_isEnded_12 : decode cX4_isEnded 12 = .ok (.iconst 4, 1) := by decide +kernel
theorem dX4_isEnded_13 : decode cX4_isEnded 13 = .ok (.if_icmp .ne 15, 3) := by decide +kernel
theorem dX4_isEnded_16 : decode cX4_isEnded 16 = .ok (.aload_n 0, 1) := by decide +kernel
theorem dX4_isEnded_17 : decode cX4_isEnded 17 = .ok (.getfield 154, 3) := by decide +kernel
theorem dX4_isEnded_20 : decode cX4_isEnded 20 = .ok (.iconst (-1), 1) := by decide +kernel
theorem dX4_isEnded_21 : decode cX4_isEnded 21 = .ok (.if_icmp .eq 7, 3) := by decide +kernel
theorem dX4_isEnded_24 : decode cX4_isEnded 24 = .ok (.iconst 1, 1) := by decide +kernel
theorem dX4_isEnded_25 : decode cX4_isEnded 25 = .ok (.goto 4, 3) := by decide +kernel
theorem dX4_isEnded_28 : decode cX4_isEnded 28 = .ok (.iconst 0, 1) := by decide +kernel
theorem dX4_isEnded_29 : decode cX4_isEnded 29 = .ok (.ireturn, 1) := by decide +kernel
theorem dX4_takesNext_0 : decode cX4_takesNext 0 = .ok (.iload_n 1, 1) := by decide +kernel
theorem dX4_takesNext_1 : decode cX4_takesNext 1 = .ok (.bipush 59, 2) := by decide +kernel
theorem dX4_takesNext_3 : decode cX4_takesNext 3 = .ok (.if_icmp .ne 27, 3) := by decide +kernel
theorem dX4_takesNext_6 : decode cX4_takesNext 6 = .ok (.aload_n 0, 1) := by decide +kernel
theorem dX4_takesNext_7 : decode cX4_takesNext 7 = .ok (.invokevirtual 160, 3) := by decide +kernel
theorem dX4_takesNext_10 : decode cX4_takesNext 10 = .ok (.ifCond .eq 20, 3) := by decide +kernel
theorem dX4_takesNext_13 : decode cX4_takesNext 13 = .ok (.aload_n 0, 1) := by decide +kernel
theorem dX4_takesNext_14 : decode cX4_takesNext 14 = .ok (.dup, 1) := by decide +kernel
theorem dX4_takesNext_15 : decode cX4_takesNext 15 = .ok (.getfield 151, 3) := by decide +kernel
theorem dX4_takesNext_18 : decode cX4_takesNext 18 = .ok (.iconst 1, 1) := by decide +kernel
theorem dX4_takesNext_19 : decode cX4_takesNext 19 = .ok (.iadd, 1) := by decide +kernel
theorem dX4_takesNext_20 : decode cX4_takesNext 20 = .ok (.putfield 151, 3) := by decide +kernel
theorem dX4_takesNext_23 : decode cX4_takesNext 23 = .ok (.aload_n 0, 1) := by decide +kernel
theorem dX4_takesNext_24 : decode cX4_takesNext 24 = .ok (.iconst 0, 1) := by decide +kernel
theorem dX4_takesNext_25 : decode cX4_takesNext 25 = .ok (.putfield 157, 3) := by decide +kernel
theorem dX4_takesNext_28 : decode cX4_takesNext 28 = .ok (.iconst 1, 1) := by decide +kernel
theorem dX4_takesNext_29 : decode cX4_takesNext 29 = .ok (.ireturn, 1) := by decide +kernel
theorem dX4_takesNext_30 : decode cX4_takesNext 30 = .ok (.aload_n 0, 1) := by decide +kernel
theorem dX4_takesNext_31 : decode cX4_takesNext 31 = .ok (.getfield 157, 3) := by decide +kernel
theorem dX4_takesNext_34 : decode cX4_takesNext 34 = .ok (.tableswitch 99 0 4 #[34, 40, 46, 52, 90], 34) := by decide +kernel
theorem dX4_takesNext_68 : decode cX4_takesNext 68 = .ok (.aload_n 0, 1) := by decide +kernel
theorem dX4_takesNext_69 : decode cX4_takesNext 69 = .ok (.iload_n 1, 1) := by decide +kernel
theorem dX4_takesNext_70 : decode cX4_takesNext 70 = .ok (.invokevirtual 164, 3) := by decide +kernel
theorem dX4_takesNext_73 : decode cX4_takesNext 73 = .ok (.ireturn, 1) := by decide +kernel
theorem dX4_takesNext_74 : decode cX4_takesNext 74 = .ok (.aload_n 0, 1) := by decide +kernel
theorem dX4_takesNext_75 : decode cX4_takesNext 75 = .ok (.iload_n 1, 1) := by decide +kernel
theorem dX4_takesNext_76 : decode cX4_takesNext 76 = .ok (.invokevirtual 167, 3) := by decide +kernel
theorem dX4_takesNext_79 : decode cX4_takesNext 79 = .ok (.ireturn, 1) := by decide +kernel
theorem dX4_takesNext_80 : decode cX4_takesNext 80 = .ok (.aload_n 0, 1) := by decide +kernel
theorem dX4_takesNext_81 : decode cX4_takesNext 81 = .ok (.iload_n 1, 1) := by decide +kernel
theorem dX4_takesNext_82 : decode cX4_takesNext 82 = .ok (.invokevirtual 170, 3) := by decide +kernel
theorem dX4_takesNext_85 : decode cX4_takesNext 85 = .ok (.ireturn, 1) := by decide +kernel
theorem dX4_takesNext_86 : decode cX4_takesNext 86 = .ok (.aload_n 0, 1) := by decide +kernel
theorem dX4_takesNext_87 : decode cX4_takesNext 87 = .ok (.iconst 4, 1) := by decide +kernel
theorem dX4_takesNext_88 : decode cX4_takesNext 88 = .ok (.putfield 157, 3) := by decide +kernel
theorem dX4_takesNext_91 : decode cX4_takesNext 91 = .ok (.iload_n 1, 1) := by decide +kernel
theorem dX4_takesNext_92 : decode cX4_takesNext 92 = .ok (.aload_n 0, 1) := by decide +kernel
theorem dX4_takesNext_93 : decode cX4_takesNext 93 = .ok (.getfield 19, 3) := by decide +kernel
theorem dX4_takesNext_96 : decode cX4_takesNext 96 = .ok (.iconst 4, 1) := by decide +kernel
theorem dX4_takesNext_97 : decode cX4_takesNext 97 = .ok (.aload_n 0, 1) := by decide +kernel
theorem dX4_takesNext_98 : decode cX4_takesNext 98 = .ok (.getfield 151, 3) := by decide +kernel
theorem dX4_takesNext_101 : decode cX4_takesNext 101 = .ok (.imul, 1) := by decide +kernel
theorem dX4_takesNext_102 : decode cX4_takesNext 102 = .ok (.iaload, 1) := by decide +kernel
theorem dX4_takesNext_103 : decode cX4_takesNext 103 = .ok (.bipush 97, 2) := by decide +kernel
theorem dX4_takesNext_105 : decode cX4_takesNext 105 = .ok (.if_icmp .ne 8, 3) := by decide +kernel
theorem dX4_takesNext_108 : decode cX4_takesNext 108 = .ok (.bipush 61, 2) := by decide +kernel
theorem dX4_takesNext_110 : decode cX4_takesNext 110 = .ok (.goto 5, 3) := by decide +kernel
theorem dX4_takesNext_113 : decode cX4_takesNext 113 = .ok (.bipush 58, 2) := by decide +kernel
theorem dX4_takesNext_115 : decode cX4_takesNext 115 = .ok (.if_icmp .ne 7, 3) := by decide +kernel
theorem dX4_takesNext_118 : decode cX4_takesNext 118 = .ok (.iconst 1, 1) := by decide +kernel
theorem dX4_takesNext_119 : decode cX4_takesNext 119 = .ok (.goto 4, 3) := by decide +kernel
theorem dX4_takesNext_122 : decode cX4_takesNext 122 = .ok (.iconst 0, 1) := by decide +kernel
theorem dX4_takesNext_123 : decode cX4_takesNext 123 = .ok (.ireturn, 1) := by decide +kernel
theorem dX4_takesNext_124 : decode cX4_takesNext 124 = .ok (.aload_n 0, 1) := by decide +kernel
theorem dX4_takesNext_125 : decode cX4_takesNext 125 = .ok (.iload_n 1, 1) := by decide +kernel
theorem dX4_takesNext_126 : decode cX4_takesNext 126 = .ok (.bipush 48, 2) := by decide +kernel
theorem dX4_takesNext_128 : decode cX4_takesNext 128 = .ok (.isub, 1) := by decide +kernel
theorem dX4_takesNext_129 : decode cX4_takesNext 129 = .ok (.invokevirtual 173, 3) := by decide +kernel
theorem dX4_takesNext_132 : decode cX4_takesNext 132 = .ok (.ireturn, 1) := by decide +kernel
theorem dX4_takesNext_133 : decode cX4_takesNext 133 = .ok (.iconst 0, 1) := by decide +kernel
theorem dX4_takesNext_134 : decode cX4_takesNext 134 = .ok (.ireturn, 1) := by decide +kernel
theorem dX4_rightUpTo_0 : decode cX4_rightUpTo 0 = .ok (.aload_n 0, 1) := by decide +kernel
theorem dX4_rightUpTo_1 : decode cX4_rightUpTo 1 = .ok (.iconst 0, 1) := by decide +kernel
theorem dX4_rightUpTo_2 : decode cX4_rightUpTo 2 = .ok (.putfield 151, 3) := by decide +kernel
theorem dX4_rightUpTo_5 : decode cX4_rightUpTo 5 = .ok (.aload_n 0, 1) := by decide +kernel
theorem dX4_rightUpTo_6 : decode cX4_rightUpTo 6 = .ok (.iconst 0, 1) := by decide +kernel
theorem dX4_rightUpTo_7 : decode cX4_rightUpTo 7 = .ok (.putfield 157, 3) := by decide +kernel
theorem dX4_rightUpTo_10 : decode cX4_rightUpTo 10 = .ok (.iconst 0, 1) := by decide +kernel
theorem dX4_rightUpTo_11 : decode cX4_rightUpTo 11 = .ok (.istore_n 1, 1) := by decide +kernel
theorem dX4_rightUpTo_12 : decode cX4_rightUpTo 12 = .ok (.iload_n 1, 1) := by decide +kernel
theorem dX4_rightUpTo_13 : decode cX4_rightUpTo 13 = .ok (.aload_n 0, 1) := by decide +kernel
theorem dX4_rightUpTo_14 : decode cX4_rightUpTo 14 = .ok (.getfield 148, 3) := by decide +kernel
theorem dX4_rightUpTo_17 : decode cX4_rightUpTo 17 = .ok (.if_icmp .ge 22, 3) := by decide +kernel
theorem dX4_rightUpTo_20 : decode cX4_rightUpTo 20 = .ok (.aload_n 0, 1) := by decide +kernel
theorem dX4_rightUpTo_21 : decode cX4_rightUpTo 21 = .ok (.aload_n 0, 1) := by decide +kernel
theorem dX4_rightUpTo_22 : decode cX4_rightUpTo 22 = .ok (.getfield 16, 3) := by decide +kernel
theorem dX4_rightUpTo_25 : decode cX4_rightUpTo 25 = .ok (.iload_n 1, 1) := by decide +kernel
theorem dX4_rightUpTo_26 : decode cX4_rightUpTo 26 = .ok (.iaload, 1) := by decide +kernel
theorem dX4_rightUpTo_27 : decode cX4_rightUpTo 27 = .ok (.invokevirtual 176, 3) := by decide +kernel
theorem dX4_rightUpTo_30 : decode cX4_rightUpTo 30 = .ok (.ifCond .eq 9, 3) := by decide +kernel
theorem dX4_rightUpTo_33 : decode cX4_rightUpTo 33 = .ok (.iinc 1 1, 3) := by decide +kernel
theorem dX4_rightUpTo_36 : decode cX4_rightUpTo 36 = .ok (.goto (-24), 3) := by decide +kernel
theorem dX4_rightUpTo_39 : decode cX4_rightUpTo 39 = .ok (.iload_n 1, 1) := by decide +kernel
theorem dX4_rightUpTo_40 : decode cX4_rightUpTo 40 = .ok (.ireturn, 1) := by decide +kernel
theorem dX4_firstError_0 : decode cX4_firstError 0 = .ok (.aload_n 0, 1) := by decide +kernel
theorem dX4_firstError_1 : decode cX4_firstError 1 = .ok (.iconst 0, 1) := by decide +kernel
theorem dX4_firstError_2 : decode cX4_firstError 2 = .ok (.putfield 25, 3) := by decide +kernel
theorem dX4_firstError_5 : decode cX4_firstError 5 = .ok (.aload_n 0, 1) := by decide +kernel
theorem dX4_firstError_6 : decode cX4_firstError 6 = .ok (.invokevirtual 179, 3) := by decide +kernel
theorem dX4_firstError_9 : decode cX4_firstError 9 = .ok (.ireturn, 1) := by decide +kernel
theorem dX4_canCarry_0 : decode cX4_canCarry 0 = .ok (.aload_n 0, 1) := by decide +kernel
theorem dX4_canCarry_1 : decode cX4_canCarry 1 = .ok (.iload_n 2, 1) := by decide +kernel
theorem dX4_canCarry_2 : decode cX4_canCarry 2 = .ok (.invokevirtual 84, 3) := by decide +kernel
theorem dX4_canCarry_5 : decode cX4_canCarry 5 = .ok (.ifCond .eq 46, 3) := by decide +kernel
theorem dX4_canCarry_8 : decode cX4_canCarry 8 = .ok (.iload_n 1, 1) := by decide +kernel
theorem dX4_canCarry_9 : decode cX4_canCarry 9 = .ok (.bipush 97, 2) := by decide +kernel
theorem dX4_canCarry_11 : decode cX4_canCarry 11 = .ok (.if_icmp .ne 14, 3) := by decide +kernel
theorem dX4_canCarry_14 : decode cX4_canCarry 14 = .ok (.aload_n 0, 1) := by decide +kernel
theorem dX4_canCarry_15 : decode cX4_canCarry 15 = .ok (.iload_n 2, 1) := by decide +kernel
theorem dX4_canCarry_16 : decode cX4_canCarry 16 = .ok (.invokevirtual 40, 3) := by decide +kernel
theorem dX4_canCarry_19 : decode cX4_canCarry 19 = .ok (.ifCond .ne 32, 3) := by decide +kernel
theorem dX4_canCarry_22 : decode cX4_canCarry 22 = .ok (.goto 25, 3) := by decide +kernel
theorem dX4_canCarry_25 : decode cX4_canCarry 25 = .ok (.iload_n 1, 1) := by decide +kernel
theorem dX4_canCarry_26 : decode cX4_canCarry 26 = .ok (.bipush 98, 2) := by decide +kernel
theorem dX4_canCarry_28 : decode cX4_canCarry 28 = .ok (.if_icmp .ne 11, 3) := by decide +kernel
theorem dX4_canCarry_31 : decode cX4_canCarry 31 = .ok (.aload_n 0, 1) := by decide +kernel
theorem dX4_canCarry_32 : decode cX4_canCarry 32 = .ok (.iload_n 2, 1) := by decide +kernel
theorem dX4_canCarry_33 : decode cX4_canCarry 33 = .ok (.invokevirtual 106, 3) := by decide +kernel
theorem dX4_canCarry_36 : decode cX4_canCarry 36 = .ok (.goto 8, 3) := by decide +kernel
theorem dX4_canCarry_39 : decode cX4_canCarry 39 = .ok (.aload_n 0, 1) := by decide +kernel
theorem dX4_canCarry_40 : decode cX4_canCarry 40 = .ok (.iload_n 2, 1) := by decide +kernel
theorem dX4_canCarry_41 : decode cX4_canCarry 41 = .ok (.invokevirtual 71, 3) := by decide +kernel
theorem dX4_canCarry_44 : decode cX4_canCarry 44 = .ok (.ifCond .ne 7, 3) := by decide +kernel
theorem dX4_canCarry_47 : decode cX4_canCarry 47 = .ok (.iconst 1, 1) := by decide +kernel
theorem dX4_canCarry_48 : decode cX4_canCarry 48 = .ok (.goto 4, 3) := by decide +kernel
theorem dX4_canCarry_51 : decode cX4_canCarry 51 = .ok (.iconst 0, 1) := by decide +kernel
theorem dX4_canCarry_52 : decode cX4_canCarry 52 = .ok (.ireturn, 1) := by decide +kernel
theorem dX4_carries_0 : decode cX4_carries 0 = .ok (.aload_n 0, 1) := by decide +kernel
theorem dX4_carries_1 : decode cX4_carries 1 = .ok (.getfield 19, 3) := by decide +kernel
theorem dX4_carries_4 : decode cX4_carries 4 = .ok (.iconst 4, 1) := by decide +kernel
theorem dX4_carries_5 : decode cX4_carries 5 = .ok (.iload_n 1, 1) := by decide +kernel
theorem dX4_carries_6 : decode cX4_carries 6 = .ok (.imul, 1) := by decide +kernel
theorem dX4_carries_7 : decode cX4_carries 7 = .ok (.iaload, 1) := by decide +kernel
theorem dX4_carries_8 : decode cX4_carries 8 = .ok (.istore_n 2, 1) := by decide +kernel
theorem dX4_carries_9 : decode cX4_carries 9 = .ok (.aload_n 0, 1) := by decide +kernel
theorem dX4_carries_10 : decode cX4_carries 10 = .ok (.getfield 19, 3) := by decide +kernel
theorem dX4_carries_13 : decode cX4_carries 13 = .ok (.iconst 4, 1) := by decide +kernel
theorem dX4_carries_14 : decode cX4_carries 14 = .ok (.iload_n 1, 1) := by decide +kernel
theorem dX4_carries_15 : decode cX4_carries 15 = .ok (.imul, 1) := by decide +kernel
theorem dX4_carries_16 : decode cX4_carries 16 = .ok (.iconst 1, 1) := by decide +kernel
theorem dX4_carries_17 : decode cX4_carries 17 = .ok (.iadd, 1) := by decide +kernel
theorem dX4_carries_18 : decode cX4_carries 18 = .ok (.iaload, 1) := by decide +kernel
theorem dX4_carries_19 : decode cX4_carries 19 = .ok (.istore_n 3, 1) := by decide +kernel
theorem dX4_carries_20 : decode cX4_carries 20 = .ok (.aload_n 0, 1) := by decide +kernel
theorem dX4_carries_21 : decode cX4_carries 21 = .ok (.getfield 19, 3) := by decide +kernel
theorem dX4_carries_24 : decode cX4_carries 24 = .ok (.iconst 4, 1) := by decide +kernel
theorem dX4_carries_25 : decode cX4_carries 25 = .ok (.iload_n 1, 1) := by decide +kernel
theorem dX4_carries_26 : decode cX4_carries 26 = .ok (.imul, 1) := by decide +kernel
theorem dX4_carries_27 : decode cX4_carries 27 = .ok (.iconst 3, 1) := by decide +kernel
theorem dX4_carries_28 : decode cX4_carries 28 = .ok (.iadd, 1) := by decide +kernel
theorem dX4_carries_29 : decode cX4_carries 29 = .ok (.iaload, 1) := by decide +kernel
theorem dX4_carries_30 : decode cX4_carries 30 = .ok (.istore 4, 2) := by decide +kernel
theorem dX4_carries_32 : decode cX4_carries 32 = .ok (.iload_n 2, 1) := by decide +kernel
theorem dX4_carries_33 : decode cX4_carries 33 = .ok (.bipush 100, 2) := by decide +kernel
theorem dX4_carries_35 : decode cX4_carries 35 = .ok (.if_icmp .ne 31, 3) := by decide +kernel
theorem dX4_carries_38 : decode cX4_carries 38 = .ok (.aload_n 0, 1) := by decide +kernel
theorem dX4_carries_39 : decode cX4_carries 39 = .ok (.iload 4, 2) := by decide +kernel
theorem dX4_carries_41 : decode cX4_carries 41 = .ok (.invokevirtual 142, 3) := by decide +kernel
theorem dX4_carries_44 : decode cX4_carries 44 = .ok (.istore 5, 2) := by decide +kernel
theorem dX4_carries_46 : decode cX4_carries 46 = .ok (.aload_n 0, 1) := by decide +kernel
theorem dX4_carries_47 : decode cX4_carries 47 = .ok (.iload 5, 2) := by decide +kernel
theorem dX4_carries_49 : decode cX4_carries 49 = .ok (.ifCond .eq 8, 3) := by decide +kernel
theorem dX4_carries_52 : decode cX4_carries 52 = .ok (.iload 4, 2) := by decide +kernel
theorem dX4_carries_54 : decode cX4_carries 54 = .ok (.goto 4, 3) := by decide +kernel
theorem dX4_carries_57 : decode cX4_carries 57 = .ok (.iconst 0, 1) := by decide +kernel
theorem dX4_carries_58 : decode cX4_carries 58 = .ok (.invokevirtual 145, 3) := by decide +kernel
theorem dX4_carries_61 : decode cX4_carries 61 = .ok (.istore 6, 2) := by decide +kernel
theorem dX4_carries_63 : decode cX4_carries 63 = .ok (.iload 5, 2) := by decide +kernel
theorem dX4_carries_65 : decode cX4_carries 65 = .ok (.ireturn, 1) := by decide +kernel
theorem dX4_carries_66 : decode cX4_carries 66 = .ok (.aload_n 0, 1) := by decide +kernel
theorem dX4_carries_67 : decode cX4_carries 67 = .ok (.iload_n 2, 1) := by decide +kernel
theorem dX4_carries_68 : decode cX4_carries 68 = .ok (.iload_n 3, 1) := by decide +kernel
theorem dX4_carries_69 : decode cX4_carries 69 = .ok (.invokevirtual 182, 3) := by decide +kernel
theorem dX4_carries_72 : decode cX4_carries 72 = .ok (.ifCond .ne 5, 3) := by decide +kernel
theorem dX4_carries_75 : decode cX4_carries 75 = .ok (.iconst 0, 1) := by decide +kernel
theorem dX4_carries_76 : decode cX4_carries 76 = .ok (.ireturn, 1) := by decide +kernel
theorem dX4_carries_77 : decode cX4_carries 77 = .ok (.iload_n 2, 1) := by decide +kernel
theorem dX4_carries_78 : decode cX4_carries 78 = .ok (.bipush 97, 2) := by decide +kernel
theorem dX4_carries_80 : decode cX4_carries 80 = .ok (.if_icmp .ne 22, 3) := by decide +kernel
theorem dX4_carries_83 : decode cX4_carries 83 = .ok (.aload_n 0, 1) := by decide +kernel
theorem dX4_carries_84 : decode cX4_carries 84 = .ok (.iload_n 3, 1) := by decide +kernel
theorem dX4_carries_85 : decode cX4_carries 85 = .ok (.aload_n 0, 1) := by decide +kernel
theorem dX4_carries_86 : decode cX4_carries 86 = .ok (.getfield 19, 3) := by decide +kernel
theorem dX4_carries_89 : decode cX4_carries 89 = .ok (.iconst 4, 1) := by decide +kernel
theorem dX4_carries_90 : decode cX4_carries 90 = .ok (.iload_n 1, 1) := by decide +kernel
theorem dX4_carries_91 : decode cX4_carries 91 = .ok (.imul, 1) := by decide +kernel
theorem dX4_carries_92 : decode cX4_carries 92 = .ok (.iconst 2, 1) := by decide +kernel
theorem dX4_carries_93 : decode cX4_carries 93 = .ok (.iadd, 1) := by decide +kernel
theorem dX4_carries_94 : decode cX4_carries 94 = .ok (.iaload, 1) := by decide +kernel
theorem dX4_carries_95 : decode cX4_carries 95 = .ok (.iload 4, 2) := by decide +kernel
theorem dX4_carries_97 : decode cX4_carries 97 = .ok (.invokevirtual 93, 3) := by decide +kernel
theorem dX4_carries_100 : decode cX4_carries 100 = .ok (.iconst 1, 1) := by decide +kernel
theorem dX4_carries_101 : decode cX4_carries 101 = .ok (.ireturn, 1) := by decide +kernel
theorem dX4_carries_102 : decode cX4_carries 102 = .ok (.iload_n 2, 1) := by decide +kernel
theorem dX4_carries_103 : decode cX4_carries 103 = .ok (.bipush 98, 2) := by decide +kernel
theorem dX4_carries_105 : decode cX4_carries 105 = .ok (.if_icmp .ne 11, 3) := by decide +kernel
theorem dX4_carries_108 : decode cX4_carries 108 = .ok (.aload_n 0, 1) := by decide +kernel
theorem dX4_carries_109 : decode cX4_carries 109 = .ok (.iload_n 3, 1) := by decide +kernel
theorem dX4_carries_110 : decode cX4_carries 110 = .ok (.invokevirtual 109, 3) := by decide +kernel
theorem dX4_carries_113 : decode cX4_carries 113 = .ok (.goto 12, 3) := by decide +kernel
theorem dX4_carries_116 : decode cX4_carries 116 = .ok (.aload_n 0, 1) := by decide +kernel
theorem dX4_carries_117 : decode cX4_carries 117 = .ok (.iload_n 3, 1) := by decide +kernel
theorem dX4_carries_118 : decode cX4_carries 118 = .ok (.iload 4, 2) := by decide +kernel
theorem dX4_carries_120 : decode cX4_carries 120 = .ok (.bipush 34, 2) := by decide +kernel
theorem dX4_carries_122 : decode cX4_carries 122 = .ok (.invokevirtual 123, 3) := by decide +kernel
theorem dX4_carries_125 : decode cX4_carries 125 = .ok (.istore 5, 2) := by decide +kernel
theorem dX4_carries_127 : decode cX4_carries 127 = .ok (.iconst 1, 1) := by decide +kernel
theorem dX4_carries_128 : decode cX4_carries 128 = .ok (.ireturn, 1) := by decide +kernel
theorem dX4_run_0 : decode cX4_run 0 = .ok (.aload_n 0, 1) := by decide +kernel
theorem dX4_run_1 : decode cX4_run 1 = .ok (.invokevirtual 179, 3) := by decide +kernel
theorem dX4_run_4 : decode cX4_run 4 = .ok (.aload_n 0, 1) := by decide +kernel
theorem dX4_run_5 : decode cX4_run 5 = .ok (.getfield 148, 3) := by decide +kernel
theorem dX4_run_8 : decode cX4_run 8 = .ok (.if_icmp .ne 14, 3) := by decide +kernel
theorem dX4_run_11 : decode cX4_run 11 = .ok (.aload_n 0, 1) := by decide +kernel
theorem dX4_run_12 : decode cX4_run 12 = .ok (.invokevirtual 160, 3) := by decide +kernel
theorem dX4_run_15 : decode cX4_run 15 = .ok (.ifCond .eq 7, 3) := by decide +kernel
theorem dX4_run_18 : decode cX4_run 18 = .ok (.iconst 1, 1) := by decide +kernel
theorem dX4_run_19 : decode cX4_run 19 = .ok (.goto 4, 3) := by decide +kernel
theorem dX4_run_22 : decode cX4_run 22 = .ok (.iconst 0, 1) := by decide +kernel
theorem dX4_run_23 : decode cX4_run 23 = .ok (.istore_n 1, 1) := by decide +kernel
theorem dX4_run_24 : decode cX4_run 24 = .ok (.aload_n 0, 1) := by decide +kernel
theorem dX4_run_25 : decode cX4_run 25 = .ok (.iload_n 1, 1) := by decide +kernel
theorem dX4_run_26 : decode cX4_run 26 = .ok (.ifCond .eq 7, 3) := by decide +kernel
theorem dX4_run_29 : decode cX4_run 29 = .ok (.iconst 0, 1) := by decide +kernel
theorem dX4_run_30 : decode cX4_run 30 = .ok (.goto 4, 3) := by decide +kernel
theorem dX4_run_33 : decode cX4_run 33 = .ok (.iconst 1, 1) := by decide +kernel
theorem dX4_run_34 : decode cX4_run 34 = .ok (.putfield 25, 3) := by decide +kernel
theorem dX4_run_37 : decode cX4_run 37 = .ok (.aload_n 0, 1) := by decide +kernel
theorem dX4_run_38 : decode cX4_run 38 = .ok (.getfield 25, 3) := by decide +kernel
theorem dX4_run_41 : decode cX4_run 41 = .ok (.ifCond .le 5, 3) := by decide +kernel
theorem dX4_run_44 : decode cX4_run 44 = .ok (.iconst 0, 1) := by decide +kernel
theorem dX4_run_45 : decode cX4_run 45 = .ok (.ireturn, 1) := by decide +kernel
theorem dX4_run_46 : decode cX4_run 46 = .ok (.aload_n 0, 1) := by decide +kernel
theorem dX4_run_47 : decode cX4_run 47 = .ok (.invokevirtual 77, 3) := by decide +kernel
theorem dX4_run_50 : decode cX4_run 50 = .ok (.aload_n 0, 1) := by decide +kernel
theorem dX4_run_51 : decode cX4_run 51 = .ok (.iconst 0, 1) := by decide +kernel
theorem dX4_run_52 : decode cX4_run 52 = .ok (.putfield 148, 3) := by decide +kernel
theorem dX4_run_55 : decode cX4_run 55 = .ok (.iconst 0, 1) := by decide +kernel
theorem dX4_run_56 : decode cX4_run 56 = .ok (.istore_n 2, 1) := by decide +kernel
theorem dX4_run_57 : decode cX4_run 57 = .ok (.iload_n 2, 1) := by decide +kernel
theorem dX4_run_58 : decode cX4_run 58 = .ok (.aload_n 0, 1) := by decide +kernel
theorem dX4_run_59 : decode cX4_run 59 = .ok (.getfield 151, 3) := by decide +kernel
theorem dX4_run_62 : decode cX4_run 62 = .ok (.if_icmp .gt 17, 3) := by decide +kernel
theorem dX4_run_65 : decode cX4_run 65 = .ok (.aload_n 0, 1) := by decide +kernel
theorem dX4_run_66 : decode cX4_run 66 = .ok (.iload_n 2, 1) := by decide +kernel
theorem dX4_run_67 : decode cX4_run 67 = .ok (.invokevirtual 185, 3) := by decide +kernel
theorem dX4_run_70 : decode cX4_run 70 = .ok (.ifCond .eq 9, 3) := by decide +kernel
theorem dX4_run_73 : decode cX4_run 73 = .ok (.iinc 2 1, 3) := by decide +kernel
theorem dX4_run_76 : decode cX4_run 76 = .ok (.goto (-19), 3) := by decide +kernel
theorem dX4_run_79 : decode cX4_run 79 = .ok (.iload_n 2, 1) := by decide +kernel
theorem dX4_run_80 : decode cX4_run 80 = .ok (.ireturn, 1) := by decide +kernel
theorem dX4_undo_0 : decode cX4_undo 0 = .ok (.aload_n 0, 1) := by decide +kernel
theorem dX4_undo_1 : decode cX4_undo 1 = .ok (.aload_n 0, 1) := by decide +kernel
theorem dX4_undo_2 : decode cX4_undo 2 = .ok (.getfield 29, 3) := by decide +kernel
theorem dX4_undo_5 : decode cX4_undo 5 = .ok (.ifCond .le 7, 3) := by decide +kernel
theorem dX4_undo_8 : decode cX4_undo 8 = .ok (.iconst 0, 1) := by decide +kernel
theorem dX4_undo_9 : decode cX4_undo 9 = .ok (.goto 4, 3) := by decide +kernel
theorem dX4_undo_12 : decode cX4_undo 12 = .ok (.iconst 1, 1) := by decide +kernel
theorem dX4_undo_13 : decode cX4_undo 13 = .ok (.putfield 25, 3) := by decide +kernel
theorem dX4_undo_16 : decode cX4_undo 16 = .ok (.aload_n 0, 1) := by decide +kernel
theorem dX4_undo_17 : decode cX4_undo 17 = .ok (.getfield 25, 3) := by decide +kernel
theorem dX4_undo_20 : decode cX4_undo 20 = .ok (.ifCond .le 5, 3) := by decide +kernel
theorem dX4_undo_23 : decode cX4_undo 23 = .ok (.iconst 0, 1) := by decide +kernel
theorem dX4_undo_24 : decode cX4_undo 24 = .ok (.ireturn, 1) := by decide +kernel
theorem dX4_undo_25 : decode cX4_undo 25 = .ok (.aload_n 0, 1) := by decide +kernel
theorem dX4_undo_26 : decode cX4_undo 26 = .ok (.dup, 1) := by decide +kernel
theorem dX4_undo_27 : decode cX4_undo 27 = .ok (.getfield 29, 3) := by decide +kernel
theorem dX4_undo_30 : decode cX4_undo 30 = .ok (.iconst 1, 1) := by decide +kernel
theorem dX4_undo_31 : decode cX4_undo 31 = .ok (.isub, 1) := by decide +kernel
theorem dX4_undo_32 : decode cX4_undo 32 = .ok (.putfield 29, 3) := by decide +kernel
theorem dX4_undo_35 : decode cX4_undo 35 = .ok (.iconst 0, 1) := by decide +kernel
theorem dX4_undo_36 : decode cX4_undo 36 = .ok (.istore_n 1, 1) := by decide +kernel
theorem dX4_undo_37 : decode cX4_undo 37 = .ok (.iload_n 1, 1) := by decide +kernel
theorem dX4_undo_38 : decode cX4_undo 38 = .ok (.sipush 232, 3) := by decide +kernel
theorem dX4_undo_41 : decode cX4_undo 41 = .ok (.if_icmp .ge 30, 3) := by decide +kernel
theorem dX4_undo_44 : decode cX4_undo 44 = .ok (.aload_n 0, 1) := by decide +kernel
theorem dX4_undo_45 : decode cX4_undo 45 = .ok (.getfield 7, 3) := by decide +kernel
theorem dX4_undo_48 : decode cX4_undo 48 = .ok (.iload_n 1, 1) := by decide +kernel
theorem dX4_undo_49 : decode cX4_undo 49 = .ok (.aload_n 0, 1) := by decide +kernel
theorem dX4_undo_50 : decode cX4_undo 50 = .ok (.getfield 13, 3) := by decide +kernel
theorem dX4_undo_53 : decode cX4_undo 53 = .ok (.sipush 232, 3) := by decide +kernel
theorem dX4_undo_56 : decode cX4_undo 56 = .ok (.aload_n 0, 1) := by decide +kernel
theorem dX4_undo_57 : decode cX4_undo 57 = .ok (.getfield 29, 3) := by decide +kernel
theorem dX4_undo_60 : decode cX4_undo 60 = .ok (.imul, 1) := by decide +kernel
theorem dX4_undo_61 : decode cX4_undo 61 = .ok (.iload_n 1, 1) := by decide +kernel
theorem dX4_undo_62 : decode cX4_undo 62 = .ok (.iadd, 1) := by decide +kernel
theorem dX4_undo_63 : decode cX4_undo 63 = .ok (.iaload, 1) := by decide +kernel
theorem dX4_undo_64 : decode cX4_undo 64 = .ok (.iastore, 1) := by decide +kernel
theorem dX4_undo_65 : decode cX4_undo 65 = .ok (.iinc 1 1, 3) := by decide +kernel
theorem dX4_undo_68 : decode cX4_undo 68 = .ok (.goto (-31), 3) := by decide +kernel
theorem dX4_undo_71 : decode cX4_undo 71 = .ok (.aload_n 0, 1) := by decide +kernel
theorem dX4_undo_72 : decode cX4_undo 72 = .ok (.getfield 29, 3) := by decide +kernel
theorem dX4_undo_75 : decode cX4_undo 75 = .ok (.ireturn, 1) := by decide +kernel
theorem dX4_paidWhole_0 : decode cX4_paidWhole 0 = .ok (.iconst 0, 1) := by decide +kernel
theorem dX4_paidWhole_1 : decode cX4_paidWhole 1 = .ok (.istore_n 2, 1) := by decide +kernel
theorem dX4_paidWhole_2 : decode cX4_paidWhole 2 = .ok (.iconst 0, 1) := by decide +kernel
theorem dX4_paidWhole_3 : decode cX4_paidWhole 3 = .ok (.istore_n 3, 1) := by decide +kernel
theorem dX4_paidWhole_4 : decode cX4_paidWhole 4 = .ok (.iload_n 3, 1) := by decide +kernel
theorem dX4_paidWhole_5 : decode cX4_paidWhole 5 = .ok (.aload_n 0, 1) := by decide +kernel
theorem dX4_paidWhole_6 : decode cX4_paidWhole 6 = .ok (.iload_n 1, 1) := by decide +kernel
theorem dX4_paidWhole_7 : decode cX4_paidWhole 7 = .ok (.bipush 17, 2) := by decide +kernel
theorem dX4_paidWhole_9 : decode cX4_paidWhole 9 = .ok (.invokevirtual 36, 3) := by decide +kernel
theorem dX4_paidWhole_12 : decode cX4_paidWhole 12 = .ok (.if_icmp .ge 29, 3) := by decide +kernel
theorem dX4_paidWhole_15 : decode cX4_paidWhole 15 = .ok (.iload_n 2, 1) := by decide +kernel
theorem dX4_paidWhole_16 : decode cX4_paidWhole 16 = .ok (.aload_n 0, 1) := by decide +kernel
theorem dX4_paidWhole_17 : decode cX4_paidWhole 17 = .ok (.iload_n 1, 1) := by decide +kernel
theorem dX4_paidWhole_18 : decode cX4_paidWhole 18 = .ok (.bipush 22, 2) := by decide +kernel
theorem dX4_paidWhole_20 : decode cX4_paidWhole 20 = .ok (.iload_n 3, 1) := by decide +kernel
theorem dX4_paidWhole_21 : decode cX4_paidWhole 21 = .ok (.iadd, 1) := by decide +kernel
theorem dX4_paidWhole_22 : decode cX4_paidWhole 22 = .ok (.invokevirtual 36, 3) := by decide +kernel
theorem dX4_paidWhole_25 : decode cX4_paidWhole 25 = .ok (.ifCond .ne 7, 3) := by decide +kernel
theorem dX4_paidWhole_28 : decode cX4_paidWhole 28 = .ok (.iconst 1, 1) := by decide +kernel
theorem dX4_paidWhole_29 : decode cX4_paidWhole 29 = .ok (.goto 4, 3) := by decide +kernel
theorem dX4_paidWhole_32 : decode cX4_paidWhole 32 = .ok (.iconst 0, 1) := by decide +kernel
theorem dX4_paidWhole_33 : decode cX4_paidWhole 33 = .ok (.iadd, 1) := by decide +kernel
theorem dX4_paidWhole_34 : decode cX4_paidWhole 34 = .ok (.istore_n 2, 1) := by decide +kernel
theorem dX4_paidWhole_35 : decode cX4_paidWhole 35 = .ok (.iinc 3 1, 3) := by decide +kernel
theorem dX4_paidWhole_38 : decode cX4_paidWhole 38 = .ok (.goto (-34), 3) := by decide +kernel
theorem dX4_paidWhole_41 : decode cX4_paidWhole 41 = .ok (.iload_n 2, 1) := by decide +kernel
theorem dX4_paidWhole_42 : decode cX4_paidWhole 42 = .ok (.ireturn, 1) := by decide +kernel
theorem dX4_phaseNow_0 : decode cX4_phaseNow 0 = .ok (.iload_n 2, 1) := by decide +kernel
theorem dX4_phaseNow_1 : decode cX4_phaseNow 1 = .ok (.tableswitch 158 0 12 #[67, 74, 80, 86, 92, 98, 106, 114, 122, 130, 138, 146, 152], 67) := by decide +kernel
theorem dX4_phaseNow_68 : decode cX4_phaseNow 68 = .ok (.aload_n 0, 1) := by decide +kernel
theorem dX4_phaseNow_69 : decode cX4_phaseNow 69 = .ok (.iload_n 1, 1) := by decide +kernel
theorem dX4_phaseNow_70 : decode cX4_phaseNow 70 = .ok (.iconst 0, 1) := by decide +kernel
theorem dX4_phaseNow_71 : decode cX4_phaseNow 71 = .ok (.invokevirtual 36, 3) := by decide +kernel
theorem dX4_phaseNow_74 : decode cX4_phaseNow 74 = .ok (.ireturn, 1) := by decide +kernel
theorem dX4_phaseNow_75 : decode cX4_phaseNow 75 = .ok (.aload_n 0, 1) := by decide +kernel
theorem dX4_phaseNow_76 : decode cX4_phaseNow 76 = .ok (.iload_n 1, 1) := by decide +kernel
theorem dX4_phaseNow_77 : decode cX4_phaseNow 77 = .ok (.invokevirtual 57, 3) := by decide +kernel
theorem dX4_phaseNow_80 : decode cX4_phaseNow 80 = .ok (.ireturn, 1) := by decide +kernel
theorem dX4_phaseNow_81 : decode cX4_phaseNow 81 = .ok (.aload_n 0, 1) := by decide +kernel
theorem dX4_phaseNow_82 : decode cX4_phaseNow 82 = .ok (.iload_n 1, 1) := by decide +kernel
theorem dX4_phaseNow_83 : decode cX4_phaseNow 83 = .ok (.invokevirtual 60, 3) := by decide +kernel
theorem dX4_phaseNow_86 : decode cX4_phaseNow 86 = .ok (.ireturn, 1) := by decide +kernel
theorem dX4_phaseNow_87 : decode cX4_phaseNow 87 = .ok (.aload_n 0, 1) := by decide +kernel
theorem dX4_phaseNow_88 : decode cX4_phaseNow 88 = .ok (.iload_n 1, 1) := by decide +kernel
theorem dX4_phaseNow_89 : decode cX4_phaseNow 89 = .ok (.invokevirtual 53, 3) := by decide +kernel
theorem dX4_phaseNow_92 : decode cX4_phaseNow 92 = .ok (.ireturn, 1) := by decide +kernel
theorem dX4_phaseNow_93 : decode cX4_phaseNow 93 = .ok (.aload_n 0, 1) := by decide +kernel
theorem dX4_phaseNow_94 : decode cX4_phaseNow 94 = .ok (.iload_n 1, 1) := by decide +kernel
theorem dX4_phaseNow_95 : decode cX4_phaseNow 95 = .ok (.invokevirtual 188, 3) := by decide +kernel
theorem dX4_phaseNow_98 : decode cX4_phaseNow 98 = .ok (.ireturn, 1) := by decide +kernel
theorem dX4_phaseNow_99 : decode cX4_phaseNow 99 = .ok (.aload_n 0, 1) := by decide +kernel
theorem dX4_phaseNow_100 : decode cX4_phaseNow 100 = .ok (.iload_n 1, 1) := by decide +kernel
theorem dX4_phaseNow_101 : decode cX4_phaseNow 101 = .ok (.bipush 34, 2) := by decide +kernel
theorem dX4_phaseNow_103 : decode cX4_phaseNow 103 = .ok (.invokevirtual 36, 3) := by decide +kernel
theorem dX4_phaseNow_106 : decode cX4_phaseNow 106 = .ok (.ireturn, 1) := by decide +kernel
theorem dX4_phaseNow_107 : decode cX4_phaseNow 107 = .ok (.aload_n 0, 1) := by decide +kernel
theorem dX4_phaseNow_108 : decode cX4_phaseNow 108 = .ok (.iload_n 1, 1) := by decide +kernel
theorem dX4_phaseNow_109 : decode cX4_phaseNow 109 = .ok (.bipush 35, 2) := by decide +kernel
theorem dX4_phaseNow_111 : decode cX4_phaseNow 111 = .ok (.invokevirtual 36, 3) := by decide +kernel
theorem dX4_phaseNow_114 : decode cX4_phaseNow 114 = .ok (.ireturn, 1) := by decide +kernel
theorem dX4_phaseNow_115 : decode cX4_phaseNow 115 = .ok (.aload_n 0, 1) := by decide +kernel
theorem dX4_phaseNow_116 : decode cX4_phaseNow 116 = .ok (.iload_n 1, 1) := by decide +kernel
theorem dX4_phaseNow_117 : decode cX4_phaseNow 117 = .ok (.bipush 32, 2) := by decide +kernel
theorem dX4_phaseNow_119 : decode cX4_phaseNow 119 = .ok (.invokevirtual 36, 3) := by decide +kernel
theorem dX4_phaseNow_122 : decode cX4_phaseNow 122 = .ok (.ireturn, 1) := by decide +kernel
theorem dX4_phaseNow_123 : decode cX4_phaseNow 123 = .ok (.aload_n 0, 1) := by decide +kernel
theorem dX4_phaseNow_124 : decode cX4_phaseNow 124 = .ok (.iload_n 1, 1) := by decide +kernel
theorem dX4_phaseNow_125 : decode cX4_phaseNow 125 = .ok (.bipush 31, 2) := by decide +kernel
theorem dX4_phaseNow_127 : decode cX4_phaseNow 127 = .ok (.invokevirtual 36, 3) := by decide +kernel
theorem dX4_phaseNow_130 : decode cX4_phaseNow 130 = .ok (.ireturn, 1) := by decide +kernel
theorem dX4_phaseNow_131 : decode cX4_phaseNow 131 = .ok (.aload_n 0, 1) := by decide +kernel
theorem dX4_phaseNow_132 : decode cX4_phaseNow 132 = .ok (.iload_n 1, 1) := by decide +kernel
theorem dX4_phaseNow_133 : decode cX4_phaseNow 133 = .ok (.bipush 36, 2) := by decide +kernel
theorem dX4_phaseNow_135 : decode cX4_phaseNow 135 = .ok (.invokevirtual 36, 3) := by decide +kernel
theorem dX4_phaseNow_138 : decode cX4_phaseNow 138 = .ok (.ireturn, 1) := by decide +kernel
theorem dX4_phaseNow_139 : decode cX4_phaseNow 139 = .ok (.aload_n 0, 1) := by decide +kernel
theorem dX4_phaseNow_140 : decode cX4_phaseNow 140 = .ok (.iload_n 1, 1) := by decide +kernel
theorem dX4_phaseNow_141 : decode cX4_phaseNow 141 = .ok (.bipush 17, 2) := by decide +kernel
theorem dX4_phaseNow_143 : decode cX4_phaseNow 143 = .ok (.invokevirtual 36, 3) := by decide +kernel
theorem dX4_phaseNow_146 : decode cX4_phaseNow 146 = .ok (.ireturn, 1) := by decide +kernel
theorem dX4_phaseNow_147 : decode cX4_phaseNow 147 = .ok (.aload_n 0, 1) := by decide +kernel
theorem dX4_phaseNow_148 : decode cX4_phaseNow 148 = .ok (.iload_n 1, 1) := by decide +kernel
theorem dX4_phaseNow_149 : decode cX4_phaseNow 149 = .ok (.invokevirtual 191, 3) := by decide +kernel
theorem dX4_phaseNow_152 : decode cX4_phaseNow 152 = .ok (.ireturn, 1) := by decide +kernel
theorem dX4_phaseNow_153 : decode cX4_phaseNow 153 = .ok (.aload_n 0, 1) := by decide +kernel
theorem dX4_phaseNow_154 : decode cX4_phaseNow 154 = .ok (.iload_n 1, 1) := by decide +kernel
theorem dX4_phaseNow_155 : decode cX4_phaseNow 155 = .ok (.invokevirtual 68, 3) := by decide +kernel
theorem dX4_phaseNow_158 : decode cX4_phaseNow 158 = .ok (.ireturn, 1) := by decide +kernel
theorem dX4_phaseNow_159 : decode cX4_phaseNow 159 = .ok (.aload_n 0, 1) := by decide +kernel
theorem dX4_phaseNow_160 : decode cX4_phaseNow 160 = .ok (.iload_n 1, 1) := by decide +kernel
theorem dX4_phaseNow_161 : decode cX4_phaseNow 161 = .ok (.invokevirtual 74, 3) := by decide +kernel
theorem dX4_phaseNow_164 : decode cX4_phaseNow 164 = .ok (.ireturn, 1) := by decide +kernel
theorem dX4_phase_0 : decode cX4_phase 0 = .ok (.aload_n 0, 1) := by decide +kernel
theorem dX4_phase_1 : decode cX4_phase 1 = .ok (.aload_n 0, 1) := by decide +kernel
theorem dX4_phase_2 : decode cX4_phase 2 = .ok (.iload_n 1, 1) := by decide +kernel
theorem dX4_phase_3 : decode cX4_phase 3 = .ok (.invokevirtual 84, 3) := by decide +kernel
theorem dX4_phase_6 : decode cX4_phase 6 = .ok (.ifCond .ne 7, 3) := by decide +kernel
theorem dX4_phase_9 : decode cX4_phase 9 = .ok (.iconst 1, 1) := by decide +kernel
theorem dX4_phase_10 : decode cX4_phase 10 = .ok (.goto 18, 3) := by decide +kernel
theorem dX4_phase_13 : decode cX4_phase 13 = .ok (.iload_n 2, 1) := by decide +kernel
theorem dX4_phase_14 : decode cX4_phase 14 = .ok (.iconst 0, 1) := by decide +kernel
theorem dX4_phase_15 : decode cX4_phase 15 = .ok (.bipush 13, 2) := by decide +kernel
theorem dX4_phase_17 : decode cX4_phase 17 = .ok (.invokestatic 32, 3) := by decide +kernel
theorem dX4_phase_20 : decode cX4_phase 20 = .ok (.ifCond .eq 7, 3) := by decide +kernel
theorem dX4_phase_23 : decode cX4_phase 23 = .ok (.iconst 0, 1) := by decide +kernel
theorem dX4_phase_24 : decode cX4_phase 24 = .ok (.goto 4, 3) := by decide +kernel
theorem dX4_phase_27 : decode cX4_phase 27 = .ok (.iconst 2, 1) := by decide +kernel
theorem dX4_phase_28 : decode cX4_phase 28 = .ok (.putfield 25, 3) := by decide +kernel
theorem dX4_phase_31 : decode cX4_phase 31 = .ok (.aload_n 0, 1) := by decide +kernel
theorem dX4_phase_32 : decode cX4_phase 32 = .ok (.getfield 25, 3) := by decide +kernel
theorem dX4_phase_35 : decode cX4_phase 35 = .ok (.ifCond .le 7, 3) := by decide +kernel
theorem dX4_phase_38 : decode cX4_phase 38 = .ok (.iconst 0, 1) := by decide +kernel
theorem dX4_phase_39 : decode cX4_phase 39 = .ok (.goto 9, 3) := by decide +kernel
theorem dX4_phase_42 : decode cX4_phase 42 = .ok (.aload_n 0, 1) := by decide +kernel
theorem dX4_phase_43 : decode cX4_phase 43 = .ok (.iload_n 1, 1) := by decide +kernel
theorem dX4_phase_44 : decode cX4_phase 44 = .ok (.iload_n 2, 1) := by decide +kernel
theorem dX4_phase_45 : decode cX4_phase 45 = .ok (.invokevirtual 194, 3) := by decide +kernel
theorem dX4_phase_48 : decode cX4_phase 48 = .ok (.ireturn, 1) := by decide +kernel
theorem dX4_useNow_0 : decode cX4_useNow 0 = .ok (.iload_n 3, 1) := by decide +kernel
theorem dX4_useNow_1 : decode cX4_useNow 1 = .ok (.tableswitch 63 0 3 #[31, 40, 49, 56], 31) := by decide +kernel
theorem dX4_useNow_32 : decode cX4_useNow 32 = .ok (.aload_n 0, 1) := by decide +kernel
theorem dX4_useNow_33 : decode cX4_useNow 33 = .ok (.iload_n 1, 1) := by decide +kernel
theorem dX4_useNow_34 : decode cX4_useNow 34 = .ok (.iconst 1, 1) := by decide +kernel
theorem dX4_useNow_35 : decode cX4_useNow 35 = .ok (.iload_n 2, 1) := by decide +kernel
theorem dX4_useNow_36 : decode cX4_useNow 36 = .ok (.iadd, 1) := by decide +kernel
theorem dX4_useNow_37 : decode cX4_useNow 37 = .ok (.invokevirtual 36, 3) := by decide +kernel
theorem dX4_useNow_40 : decode cX4_useNow 40 = .ok (.ireturn, 1) := by decide +kernel
theorem dX4_useNow_41 : decode cX4_useNow 41 = .ok (.aload_n 0, 1) := by decide +kernel
theorem dX4_useNow_42 : decode cX4_useNow 42 = .ok (.iload_n 1, 1) := by decide +kernel
theorem dX4_useNow_43 : decode cX4_useNow 43 = .ok (.iconst 5, 1) := by decide +kernel
theorem dX4_useNow_44 : decode cX4_useNow 44 = .ok (.iload_n 2, 1) := by decide +kernel
theorem dX4_useNow_45 : decode cX4_useNow 45 = .ok (.iadd, 1) := by decide +kernel
theorem dX4_useNow_46 : decode cX4_useNow 46 = .ok (.invokevirtual 36, 3) := by decide +kernel
theorem dX4_useNow_49 : decode cX4_useNow 49 = .ok (.ireturn, 1) := by decide +kernel
theorem dX4_useNow_50 : decode cX4_useNow 50 = .ok (.aload_n 0, 1) := by decide +kernel
theorem dX4_useNow_51 : decode cX4_useNow 51 = .ok (.iload_n 1, 1) := by decide +kernel
theorem dX4_useNow_52 : decode cX4_useNow 52 = .ok (.iload_n 2, 1) := by decide +kernel
theorem dX4_useNow_53 : decode cX4_useNow 53 = .ok (.invokevirtual 44, 3) := by decide +kernel
theorem dX4_useNow_56 : decode cX4_useNow 56 = .ok (.ireturn, 1) := by decide +kernel
theorem dX4_useNow_57 : decode cX4_useNow 57 = .ok (.aload_n 0, 1) := by decide +kernel
theorem dX4_useNow_58 : decode cX4_useNow 58 = .ok (.iload_n 1, 1) := by decide +kernel
theorem dX4_useNow_59 : decode cX4_useNow 59 = .ok (.iload_n 2, 1) := by decide +kernel
theorem dX4_useNow_60 : decode cX4_useNow 60 = .ok (.invokevirtual 47, 3) := by decide +kernel
theorem dX4_useNow_63 : decode cX4_useNow 63 = .ok (.ireturn, 1) := by decide +kernel
theorem dX4_useNow_64 : decode cX4_useNow 64 = .ok (.aload_n 0, 1) := by decide +kernel
theorem dX4_useNow_65 : decode cX4_useNow 65 = .ok (.iload_n 1, 1) := by decide +kernel
theorem dX4_useNow_66 : decode cX4_useNow 66 = .ok (.iload_n 2, 1) := by decide +kernel
theorem dX4_useNow_67 : decode cX4_useNow 67 = .ok (.invokevirtual 50, 3) := by decide +kernel
theorem dX4_useNow_70 : decode cX4_useNow 70 = .ok (.ireturn, 1) := by decide +kernel
theorem dX4_use_0 : decode cX4_use 0 = .ok (.aload_n 0, 1) := by decide +kernel
theorem dX4_use_1 : decode cX4_use 1 = .ok (.aload_n 0, 1) := by decide +kernel
theorem dX4_use_2 : decode cX4_use 2 = .ok (.iload_n 1, 1) := by decide +kernel
theorem dX4_use_3 : decode cX4_use 3 = .ok (.invokevirtual 84, 3) := by decide +kernel
theorem dX4_use_6 : decode cX4_use 6 = .ok (.ifCond .eq 10, 3) := by decide +kernel
theorem dX4_use_9 : decode cX4_use 9 = .ok (.iload_n 2, 1) := by decide +kernel
theorem dX4_use_10 : decode cX4_use 10 = .ok (.invokestatic 87, 3) := by decide +kernel
theorem dX4_use_13 : decode cX4_use 13 = .ok (.ifCond .ne 7, 3) := by decide +kernel
theorem dX4_use_16 : decode cX4_use 16 = .ok (.iconst 1, 1) := by decide +kernel
theorem dX4_use_17 : decode cX4_use 17 = .ok (.goto 17, 3) := by decide +kernel
theorem dX4_use_20 : decode cX4_use 20 = .ok (.iload_n 3, 1) := by decide +kernel
theorem dX4_use_21 : decode cX4_use 21 = .ok (.iconst 0, 1) := by decide +kernel
theorem dX4_use_22 : decode cX4_use 22 = .ok (.iconst 4, 1) := by decide +kernel
theorem dX4_use_23 : decode cX4_use 23 = .ok (.invokestatic 32, 3) := by decide +kernel
theorem dX4_use_26 : decode cX4_use 26 = .ok (.ifCond .eq 7, 3) := by decide +kernel
theorem dX4_use_29 : decode cX4_use 29 = .ok (.iconst 0, 1) := by decide +kernel
theorem dX4_use_30 : decode cX4_use 30 = .ok (.goto 4, 3) := by decide +kernel
theorem dX4_use_33 : decode cX4_use 33 = .ok (.iconst 2, 1) := by decide +kernel
theorem dX4_use_34 : decode cX4_use 34 = .ok (.putfield 25, 3) := by decide +kernel
theorem dX4_use_37 : decode cX4_use 37 = .ok (.aload_n 0, 1) := by decide +kernel
theorem dX4_use_38 : decode cX4_use 38 = .ok (.getfield 25, 3) := by decide +kernel
theorem dX4_use_41 : decode cX4_use 41 = .ok (.ifCond .le 7, 3) := by decide +kernel
theorem dX4_use_44 : decode cX4_use 44 = .ok (.iconst 0, 1) := by decide +kernel
theorem dX4_use_45 : decode cX4_use 45 = .ok (.goto 10, 3) := by decide +kernel
theorem dX4_use_48 : decode cX4_use 48 = .ok (.aload_n 0, 1) := by decide +kernel
theorem dX4_use_49 : decode cX4_use 49 = .ok (.iload_n 1, 1) := by decide +kernel
theorem dX4_use_50 : decode cX4_use 50 = .ok (.iload_n 2, 1) := by decide +kernel
theorem dX4_use_51 : decode cX4_use 51 = .ok (.iload_n 3, 1) := by decide +kernel
theorem dX4_use_52 : decode cX4_use 52 = .ok (.invokevirtual 197, 3) := by decide +kernel
theorem dX4_use_55 : decode cX4_use 55 = .ok (.ireturn, 1) := by decide +kernel
theorem dX4_instalmentNow_0 : decode cX4_instalmentNow 0 = .ok (.iload_n 2, 1) := by decide +kernel
theorem dX4_instalmentNow_1 : decode cX4_instalmentNow 1 = .ok (.aload_n 0, 1) := by decide +kernel
theorem dX4_instalmentNow_2 : decode cX4_instalmentNow 2 = .ok (.iload_n 1, 1) := by decide +kernel
theorem dX4_instalmentNow_3 : decode cX4_instalmentNow 3 = .ok (.bipush 17, 2) := by decide +kernel
theorem dX4_instalmentNow_5 : decode cX4_instalmentNow 5 = .ok (.invokevirtual 36, 3) := by decide +kernel
theorem dX4_instalmentNow_8 : decode cX4_instalmentNow 8 = .ok (.if_icmp .ge 19, 3) := by decide +kernel
theorem dX4_instalmentNow_11 : decode cX4_instalmentNow 11 = .ok (.aload_n 0, 1) := by decide +kernel
theorem dX4_instalmentNow_12 : decode cX4_instalmentNow 12 = .ok (.iload_n 1, 1) := by decide +kernel
theorem dX4_instalmentNow_13 : decode cX4_instalmentNow 13 = .ok (.bipush 18, 2) := by decide +kernel
theorem dX4_instalmentNow_15 : decode cX4_instalmentNow 15 = .ok (.iconst 4, 1) := by decide +kernel
theorem dX4_instalmentNow_16 : decode cX4_instalmentNow 16 = .ok (.iload_n 3, 1) := by decide +kernel
theorem dX4_instalmentNow_17 : decode cX4_instalmentNow 17 = .ok (.imul, 1) := by decide +kernel
theorem dX4_instalmentNow_18 : decode cX4_instalmentNow 18 = .ok (.iadd, 1) := by decide +kernel
theorem dX4_instalmentNow_19 : decode cX4_instalmentNow 19 = .ok (.iload_n 2, 1) := by decide +kernel
theorem dX4_instalmentNow_20 : decode cX4_instalmentNow 20 = .ok (.iadd, 1) := by decide +kernel
theorem dX4_instalmentNow_21 : decode cX4_instalmentNow 21 = .ok (.invokevirtual 36, 3) := by decide +kernel
theorem dX4_instalmentNow_24 : decode cX4_instalmentNow 24 = .ok (.goto 4, 3) := by decide +kernel
theorem dX4_instalmentNow_27 : decode cX4_instalmentNow 27 = .ok (.iconst (-1), 1) := by decide +kernel
theorem dX4_instalmentNow_28 : decode cX4_instalmentNow 28 = .ok (.ireturn, 1) := by decide +kernel
theorem dX4_instalment_0 : decode cX4_instalment 0 = .ok (.aload_n 0, 1) := by decide +kernel
theorem dX4_instalment_1 : decode cX4_instalment 1 = .ok (.aload_n 0, 1) := by decide +kernel
theorem dX4_instalment_2 : decode cX4_instalment 2 = .ok (.iload_n 1, 1) := by decide +kernel
theorem dX4_instalment_3 : decode cX4_instalment 3 = .ok (.invokevirtual 84, 3) := by decide +kernel
theorem dX4_instalment_6 : decode cX4_instalment 6 = .ok (.ifCond .ne 7, 3) := by decide +kernel
theorem dX4_instalment_9 : decode cX4_instalment 9 = .ok (.iconst 1, 1) := by decide +kernel
theorem dX4_instalment_10 : decode cX4_instalment 10 = .ok (.goto 26, 3) := by decide +kernel
theorem dX4_instalment_13 : decode cX4_instalment 13 = .ok (.iload_n 2, 1) := by decide +kernel
theorem dX4_instalment_14 : decode cX4_instalment 14 = .ok (.iconst 0, 1) := by decide +kernel
theorem dX4_instalment_15 : decode cX4_instalment 15 = .ok (.iconst 3, 1) := by decide +kernel
theorem dX4_instalment_16 : decode cX4_instalment 16 = .ok (.invokestatic 32, 3) := by decide +kernel
theorem dX4_instalment_19 : decode cX4_instalment 19 = .ok (.ifCond .eq 16, 3) := by decide +kernel
theorem dX4_instalment_22 : decode cX4_instalment 22 = .ok (.iload_n 3, 1) := by decide +kernel
theorem dX4_instalment_23 : decode cX4_instalment 23 = .ok (.iconst 0, 1) := by decide +kernel
theorem dX4_instalment_24 : decode cX4_instalment 24 = .ok (.iconst 2, 1) := by decide +kernel
theorem dX4_instalment_25 : decode cX4_instalment 25 = .ok (.invokestatic 32, 3) := by decide +kernel
theorem dX4_instalment_28 : decode cX4_instalment 28 = .ok (.ifCond .eq 7, 3) := by decide +kernel
theorem dX4_instalment_31 : decode cX4_instalment 31 = .ok (.iconst 0, 1) := by decide +kernel
theorem dX4_instalment_32 : decode cX4_instalment 32 = .ok (.goto 4, 3) := by decide +kernel
theorem dX4_instalment_35 : decode cX4_instalment 35 = .ok (.iconst 2, 1) := by decide +kernel
theorem dX4_instalment_36 : decode cX4_instalment 36 = .ok (.putfield 25, 3) := by decide +kernel
theorem dX4_instalment_39 : decode cX4_instalment 39 = .ok (.aload_n 0, 1) := by decide +kernel
theorem dX4_instalment_40 : decode cX4_instalment 40 = .ok (.getfield 25, 3) := by decide +kernel
theorem dX4_instalment_43 : decode cX4_instalment 43 = .ok (.ifCond .le 7, 3) := by decide +kernel
theorem dX4_instalment_46 : decode cX4_instalment 46 = .ok (.iconst 0, 1) := by decide +kernel
theorem dX4_instalment_47 : decode cX4_instalment 47 = .ok (.goto 10, 3) := by decide +kernel
theorem dX4_instalment_50 : decode cX4_instalment 50 = .ok (.aload_n 0, 1) := by decide +kernel
theorem dX4_instalment_51 : decode cX4_instalment 51 = .ok (.iload_n 1, 1) := by decide +kernel
theorem dX4_instalment_52 : decode cX4_instalment 52 = .ok (.iload_n 2, 1) := by decide +kernel
theorem dX4_instalment_53 : decode cX4_instalment 53 = .ok (.iload_n 3, 1) := by decide +kernel
theorem dX4_instalment_54 : decode cX4_instalment 54 = .ok (.invokevirtual 200, 3) := by decide +kernel
theorem dX4_instalment_57 : decode cX4_instalment 57 = .ok (.ireturn, 1) := by decide +kernel
theorem dX4_sumOf_0 : decode cX4_sumOf 0 = .ok (.iconst 0, 1) := by decide +kernel
theorem dX4_sumOf_1 : decode cX4_sumOf 1 = .ok (.istore_n 2, 1) := by decide +kernel
theorem dX4_sumOf_2 : decode cX4_sumOf 2 = .ok (.iconst 0, 1) := by decide +kernel
theorem dX4_sumOf_3 : decode cX4_sumOf 3 = .ok (.istore_n 3, 1) := by decide +kernel
theorem dX4_sumOf_4 : decode cX4_sumOf 4 = .ok (.iload_n 3, 1) := by decide +kernel
theorem dX4_sumOf_5 : decode cX4_sumOf 5 = .ok (.aload_n 0, 1) := by decide +kernel
theorem dX4_sumOf_6 : decode cX4_sumOf 6 = .ok (.getfield 7, 3) := by decide +kernel
theorem dX4_sumOf_9 : decode cX4_sumOf 9 = .ok (.bipush 9, 2) := by decide +kernel
theorem dX4_sumOf_11 : decode cX4_sumOf 11 = .ok (.iaload, 1) := by decide +kernel
theorem dX4_sumOf_12 : decode cX4_sumOf 12 = .ok (.if_icmp .ge 30, 3) := by decide +kernel
theorem dX4_sumOf_15 : decode cX4_sumOf 15 = .ok (.iload_n 2, 1) := by decide +kernel
theorem dX4_sumOf_16 : decode cX4_sumOf 16 = .ok (.aload_n 0, 1) := by decide +kernel
theorem dX4_sumOf_17 : decode cX4_sumOf 17 = .ok (.iload_n 3, 1) := by decide +kernel
theorem dX4_sumOf_18 : decode cX4_sumOf 18 = .ok (.invokevirtual 40, 3) := by decide +kernel
theorem dX4_sumOf_21 : decode cX4_sumOf 21 = .ok (.ifCond .eq 12, 3) := by decide +kernel
theorem dX4_sumOf_24 : decode cX4_sumOf 24 = .ok (.aload_n 0, 1) := by decide +kernel
theorem dX4_sumOf_25 : decode cX4_sumOf 25 = .ok (.iload_n 3, 1) := by decide +kernel
theorem dX4_sumOf_26 : decode cX4_sumOf 26 = .ok (.iload_n 1, 1) := by decide +kernel
theorem dX4_sumOf_27 : decode cX4_sumOf 27 = .ok (.invokevirtual 194, 3) := by decide +kernel
theorem dX4_sumOf_30 : decode cX4_sumOf 30 = .ok (.goto 4, 3) := by decide +kernel
theorem dX4_sumOf_33 : decode cX4_sumOf 33 = .ok (.iconst 0, 1) := by decide +kernel
theorem dX4_sumOf_34 : decode cX4_sumOf 34 = .ok (.iadd, 1) := by decide +kernel
theorem dX4_sumOf_35 : decode cX4_sumOf 35 = .ok (.istore_n 2, 1) := by decide +kernel
theorem dX4_sumOf_36 : decode cX4_sumOf 36 = .ok (.iinc 3 1, 3) := by decide +kernel
theorem dX4_sumOf_39 : decode cX4_sumOf 39 = .ok (.goto (-35), 3) := by decide +kernel
theorem dX4_sumOf_42 : decode cX4_sumOf 42 = .ok (.iload_n 2, 1) := by decide +kernel
theorem dX4_sumOf_43 : decode cX4_sumOf 43 = .ok (.ireturn, 1) := by decide +kernel
theorem dX4_begunOnes_0 : decode cX4_begunOnes 0 = .ok (.iconst 0, 1) := by decide +kernel
theorem dX4_begunOnes_1 : decode cX4_begunOnes 1 = .ok (.istore_n 1, 1) := by decide +kernel
theorem dX4_begunOnes_2 : decode cX4_begunOnes 2 = .ok (.iconst 0, 1) := by decide +kernel
theorem dX4_begunOnes_3 : decode cX4_begunOnes 3 = .ok (.istore_n 2, 1) := by decide +kernel
theorem dX4_begunOnes_4 : decode cX4_begunOnes 4 = .ok (.iload_n 2, 1) := by decide +kernel
theorem dX4_begunOnes_5 : decode cX4_begunOnes 5 = .ok (.aload_n 0, 1) := by decide +kernel
theorem dX4_begunOnes_6 : decode cX4_begunOnes 6 = .ok (.getfield 7, 3) := by decide +kernel
theorem dX4_begunOnes_9 : decode cX4_begunOnes 9 = .ok (.bipush 9, 2) := by decide +kernel
theorem dX4_begunOnes_11 : decode cX4_begunOnes 11 = .ok (.iaload, 1) := by decide +kernel
theorem dX4_begunOnes_12 : decode cX4_begunOnes 12 = .ok (.if_icmp .ge 25, 3) := by decide +kernel
theorem dX4_begunOnes_15 : decode cX4_begunOnes 15 = .ok (.iload_n 1, 1) := by decide +kernel
theorem dX4_begunOnes_16 : decode cX4_begunOnes 16 = .ok (.aload_n 0, 1) := by decide +kernel
theorem dX4_begunOnes_17 : decode cX4_begunOnes 17 = .ok (.iload_n 2, 1) := by decide +kernel
theorem dX4_begunOnes_18 : decode cX4_begunOnes 18 = .ok (.invokevirtual 40, 3) := by decide +kernel
theorem dX4_begunOnes_21 : decode cX4_begunOnes 21 = .ok (.ifCond .eq 7, 3) := by decide +kernel
theorem dX4_begunOnes_24 : decode cX4_begunOnes 24 = .ok (.iconst 1, 1) := by decide +kernel
theorem dX4_begunOnes_25 : decode cX4_begunOnes 25 = .ok (.goto 4, 3) := by decide +kernel
theorem dX4_begunOnes_28 : decode cX4_begunOnes 28 = .ok (.iconst 0, 1) := by decide +kernel
theorem dX4_begunOnes_29 : decode cX4_begunOnes 29 = .ok (.iadd, 1) := by decide +kernel
theorem dX4_begunOnes_30 : decode cX4_begunOnes 30 = .ok (.istore_n 1, 1) := by decide +kernel
theorem dX4_begunOnes_31 : decode cX4_begunOnes 31 = .ok (.iinc 2 1, 3) := by decide +kernel
theorem dX4_begunOnes_34 : decode cX4_begunOnes 34 = .ok (.goto (-30), 3) := by decide +kernel
theorem dX4_begunOnes_37 : decode cX4_begunOnes 37 = .ok (.iload_n 1, 1) := by decide +kernel
theorem dX4_begunOnes_38 : decode cX4_begunOnes 38 = .ok (.ireturn, 1) := by decide +kernel
theorem dX4_counted_0 : decode cX4_counted 0 = .ok (.iload_n 1, 1) := by decide +kernel
theorem dX4_counted_1 : decode cX4_counted 1 = .ok (.tableswitch 136 0 15 #[79, 87, 92, 99, 106, 106, 114, 114, 114, 122, 122, 136, 136, 136, 136, 131], 79) := by decide +kernel
theorem dX4_counted_80 : decode cX4_counted 80 = .ok (.aload_n 0, 1) := by decide +kernel
theorem dX4_counted_81 : decode cX4_counted 81 = .ok (.getfield 7, 3) := by decide +kernel
theorem dX4_counted_84 : decode cX4_counted 84 = .ok (.bipush 9, 2) := by decide +kernel
theorem dX4_counted_86 : decode cX4_counted 86 = .ok (.iaload, 1) := by decide +kernel
theorem dX4_counted_87 : decode cX4_counted 87 = .ok (.ireturn, 1) := by decide +kernel
theorem dX4_counted_88 : decode cX4_counted 88 = .ok (.aload_n 0, 1) := by decide +kernel
theorem dX4_counted_89 : decode cX4_counted 89 = .ok (.invokevirtual 203, 3) := by decide +kernel
theorem dX4_counted_92 : decode cX4_counted 92 = .ok (.ireturn, 1) := by decide +kernel
theorem dX4_counted_93 : decode cX4_counted 93 = .ok (.aload_n 0, 1) := by decide +kernel
theorem dX4_counted_94 : decode cX4_counted 94 = .ok (.bipush 9, 2) := by decide +kernel
theorem dX4_counted_96 : decode cX4_counted 96 = .ok (.invokevirtual 206, 3) := by decide +kernel
theorem dX4_counted_99 : decode cX4_counted 99 = .ok (.ireturn, 1) := by decide +kernel
theorem dX4_counted_100 : decode cX4_counted 100 = .ok (.aload_n 0, 1) := by decide +kernel
theorem dX4_counted_101 : decode cX4_counted 101 = .ok (.getfield 7, 3) := by decide +kernel
theorem dX4_counted_104 : decode cX4_counted 104 = .ok (.iconst 4, 1) := by decide +kernel
theorem dX4_counted_105 : decode cX4_counted 105 = .ok (.iaload, 1) := by decide +kernel
theorem dX4_counted_106 : decode cX4_counted 106 = .ok (.ireturn, 1) := by decide +kernel
theorem dX4_counted_107 : decode cX4_counted 107 = .ok (.aload_n 0, 1) := by decide +kernel
theorem dX4_counted_108 : decode cX4_counted 108 = .ok (.iload_n 1, 1) := by decide +kernel
theorem dX4_counted_109 : decode cX4_counted 109 = .ok (.iconst 3, 1) := by decide +kernel
theorem dX4_counted_110 : decode cX4_counted 110 = .ok (.isub, 1) := by decide +kernel
theorem dX4_counted_111 : decode cX4_counted 111 = .ok (.invokevirtual 206, 3) := by decide +kernel
theorem dX4_counted_114 : decode cX4_counted 114 = .ok (.ireturn, 1) := by decide +kernel
theorem dX4_counted_115 : decode cX4_counted 115 = .ok (.aload_n 0, 1) := by decide +kernel
theorem dX4_counted_116 : decode cX4_counted 116 = .ok (.iload_n 1, 1) := by decide +kernel
theorem dX4_counted_117 : decode cX4_counted 117 = .ok (.iconst 1, 1) := by decide +kernel
theorem dX4_counted_118 : decode cX4_counted 118 = .ok (.isub, 1) := by decide +kernel
theorem dX4_counted_119 : decode cX4_counted 119 = .ok (.invokevirtual 206, 3) := by decide +kernel
theorem dX4_counted_122 : decode cX4_counted 122 = .ok (.ireturn, 1) := by decide +kernel
theorem dX4_counted_123 : decode cX4_counted 123 = .ok (.aload_n 0, 1) := by decide +kernel
theorem dX4_counted_124 : decode cX4_counted 124 = .ok (.iload_n 1, 1) := by decide +kernel
theorem dX4_counted_125 : decode cX4_counted 125 = .ok (.bipush 6, 2) := by decide +kernel
theorem dX4_counted_127 : decode cX4_counted 127 = .ok (.isub, 1) := by decide +kernel
theorem dX4_counted_128 : decode cX4_counted 128 = .ok (.invokevirtual 206, 3) := by decide +kernel
theorem dX4_counted_131 : decode cX4_counted 131 = .ok (.ireturn, 1) := by decide +kernel
theorem dX4_counted_132 : decode cX4_counted 132 = .ok (.aload_n 0, 1) := by decide +kernel
theorem dX4_counted_133 : decode cX4_counted 133 = .ok (.getfield 29, 3) := by decide +kernel
theorem dX4_counted_136 : decode cX4_counted 136 = .ok (.ireturn, 1) := by decide +kernel
theorem dX4_counted_137 : decode cX4_counted 137 = .ok (.aload_n 0, 1) := by decide +kernel
theorem dX4_counted_138 : decode cX4_counted 138 = .ok (.getfield 7, 3) := by decide +kernel
theorem dX4_counted_141 : decode cX4_counted 141 = .ok (.iconst 5, 1) := by decide +kernel
theorem dX4_counted_142 : decode cX4_counted 142 = .ok (.iload_n 1, 1) := by decide +kernel
theorem dX4_counted_143 : decode cX4_counted 143 = .ok (.iadd, 1) := by decide +kernel
theorem dX4_counted_144 : decode cX4_counted 144 = .ok (.bipush 11, 2) := by decide +kernel
theorem dX4_counted_146 : decode cX4_counted 146 = .ok (.isub, 1) := by decide +kernel
theorem dX4_counted_147 : decode cX4_counted 147 = .ok (.iaload, 1) := by decide +kernel
theorem dX4_counted_148 : decode cX4_counted 148 = .ok (.ireturn, 1) := by decide +kernel
theorem dX4_count_0 : decode cX4_count 0 = .ok (.aload_n 0, 1) := by decide +kernel
theorem dX4_count_1 : decode cX4_count 1 = .ok (.iload_n 1, 1) := by decide +kernel
theorem dX4_count_2 : decode cX4_count 2 = .ok (.iconst 0, 1) := by decide +kernel
theorem dX4_count_3 : decode cX4_count 3 = .ok (.bipush 15, 2) := by decide +kernel
theorem dX4_count_5 : decode cX4_count 5 = .ok (.invokestatic 32, 3) := by decide +kernel
theorem dX4_count_8 : decode cX4_count 8 = .ok (.ifCond .eq 7, 3) := by decide +kernel
theorem dX4_count_11 : decode cX4_count 11 = .ok (.iconst 0, 1) := by decide +kernel
theorem dX4_count_12 : decode cX4_count 12 = .ok (.goto 4, 3) := by decide +kernel
theorem dX4_count_15 : decode cX4_count 15 = .ok (.iconst 1, 1) := by decide +kernel
theorem dX4_count_16 : decode cX4_count 16 = .ok (.putfield 25, 3) := by decide +kernel
theorem dX4_count_19 : decode cX4_count 19 = .ok (.aload_n 0, 1) := by decide +kernel
theorem dX4_count_20 : decode cX4_count 20 = .ok (.getfield 25, 3) := by decide +kernel
theorem dX4_count_23 : decode cX4_count 23 = .ok (.ifCond .le 7, 3) := by decide +kernel
theorem dX4_count_26 : decode cX4_count 26 = .ok (.iconst 0, 1) := by decide +kernel
theorem dX4_count_27 : decode cX4_count 27 = .ok (.goto 8, 3) := by decide +kernel
theorem dX4_count_30 : decode cX4_count 30 = .ok (.aload_n 0, 1) := by decide +kernel
theorem dX4_count_31 : decode cX4_count 31 = .ok (.iload_n 1, 1) := by decide +kernel
theorem dX4_count_32 : decode cX4_count 32 = .ok (.invokevirtual 209, 3) := by decide +kernel
theorem dX4_count_35 : decode cX4_count 35 = .ok (.ireturn, 1) := by decide +kernel
theorem dX4_setting_0 : decode cX4_setting 0 = .ok (.aload_n 0, 1) := by decide +kernel
theorem dX4_setting_1 : decode cX4_setting 1 = .ok (.iload_n 1, 1) := by decide +kernel
theorem dX4_setting_2 : decode cX4_setting 2 = .ok (.invokestatic 96, 3) := by decide +kernel
theorem dX4_setting_5 : decode cX4_setting 5 = .ok (.ifCond .eq 7, 3) := by decide +kernel
theorem dX4_setting_8 : decode cX4_setting 8 = .ok (.iconst 0, 1) := by decide +kernel
theorem dX4_setting_9 : decode cX4_setting 9 = .ok (.goto 4, 3) := by decide +kernel
theorem dX4_setting_12 : decode cX4_setting 12 = .ok (.iconst 1, 1) := by decide +kernel
theorem dX4_setting_13 : decode cX4_setting 13 = .ok (.putfield 25, 3) := by decide +kernel
theorem dX4_setting_16 : decode cX4_setting 16 = .ok (.aload_n 0, 1) := by decide +kernel
theorem dX4_setting_17 : decode cX4_setting 17 = .ok (.getfield 25, 3) := by decide +kernel
theorem dX4_setting_20 : decode cX4_setting 20 = .ok (.ifCond .le 7, 3) := by decide +kernel
theorem dX4_setting_23 : decode cX4_setting 23 = .ok (.iconst 0, 1) := by decide +kernel
theorem dX4_setting_24 : decode cX4_setting 24 = .ok (.goto 9, 3) := by decide +kernel
theorem dX4_setting_27 : decode cX4_setting 27 = .ok (.aload_n 0, 1) := by decide +kernel
theorem dX4_setting_28 : decode cX4_setting 28 = .ok (.getfield 7, 3) := by decide +kernel
theorem dX4_setting_31 : decode cX4_setting 31 = .ok (.iload_n 1, 1) := by decide +kernel
theorem dX4_setting_32 : decode cX4_setting 32 = .ok (.iaload, 1) := by decide +kernel
theorem dX4_setting_33 : decode cX4_setting 33 = .ok (.ireturn, 1) := by decide +kernel
theorem dX4_whyNotNow_0 : decode cX4_whyNotNow 0 = .ok (.iload_n 1, 1) := by decide +kernel
theorem dX4_whyNotNow_1 : decode cX4_whyNotNow 1 = .ok (.tableswitch 63 0 3 #[31, 45, 51, 57], 31) := by decide +kernel
theorem dX4_whyNotNow_32 : decode cX4_whyNotNow 32 = .ok (.aload_n 0, 1) := by decide +kernel
theorem dX4_whyNotNow_33 : decode cX4_whyNotNow 33 = .ok (.iload_n 2, 1) := by decide +kernel
theorem dX4_whyNotNow_34 : decode cX4_whyNotNow 34 = .ok (.invokevirtual 40, 3) := by decide +kernel
theorem dX4_whyNotNow_37 : decode cX4_whyNotNow 37 = .ok (.ifCond .eq 7, 3) := by decide +kernel
theorem dX4_whyNotNow_40 : decode cX4_whyNotNow 40 = .ok (.iconst 1, 1) := by decide +kernel
theorem dX4_whyNotNow_41 : decode cX4_whyNotNow 41 = .ok (.goto 4, 3) := by decide +kernel
theorem dX4_whyNotNow_44 : decode cX4_whyNotNow 44 = .ok (.iconst 0, 1) := by decide +kernel
theorem dX4_whyNotNow_45 : decode cX4_whyNotNow 45 = .ok (.ireturn, 1) := by decide +kernel
theorem dX4_whyNotNow_46 : decode cX4_whyNotNow 46 = .ok (.aload_n 0, 1) := by decide +kernel
theorem dX4_whyNotNow_47 : decode cX4_whyNotNow 47 = .ok (.iload_n 2, 1) := by decide +kernel
theorem dX4_whyNotNow_48 : decode cX4_whyNotNow 48 = .ok (.invokevirtual 106, 3) := by decide +kernel
theorem dX4_whyNotNow_51 : decode cX4_whyNotNow 51 = .ok (.ireturn, 1) := by decide +kernel
theorem dX4_whyNotNow_52 : decode cX4_whyNotNow 52 = .ok (.aload_n 0, 1) := by decide +kernel
theorem dX4_whyNotNow_53 : decode cX4_whyNotNow 53 = .ok (.iload_n 2, 1) := by decide +kernel
theorem dX4_whyNotNow_54 : decode cX4_whyNotNow 54 = .ok (.invokevirtual 71, 3) := by decide +kernel
theorem dX4_whyNotNow_57 : decode cX4_whyNotNow 57 = .ok (.ireturn, 1) := by decide +kernel
theorem dX4_whyNotNow_58 : decode cX4_whyNotNow 58 = .ok (.aload_n 0, 1) := by decide +kernel
theorem dX4_whyNotNow_59 : decode cX4_whyNotNow 59 = .ok (.iload_n 2, 1) := by decide +kernel
theorem dX4_whyNotNow_60 : decode cX4_whyNotNow 60 = .ok (.invokevirtual 126, 3) := by decide +kernel
theorem dX4_whyNotNow_63 : decode cX4_whyNotNow 63 = .ok (.ireturn, 1) := by decide +kernel
theorem dX4_whyNotNow_64 : decode cX4_whyNotNow 64 = .ok (.aload_n 0, 1) := by decide +kernel
theorem dX4_whyNotNow_65 : decode cX4_whyNotNow 65 = .ok (.iload_n 2, 1) := by decide +kernel
theorem dX4_whyNotNow_66 : decode cX4_whyNotNow 66 = .ok (.iload_n 3, 1) := by decide +kernel
theorem dX4_whyNotNow_67 : decode cX4_whyNotNow 67 = .ok (.invokevirtual 129, 3) := by decide +kernel
theorem dX4_whyNotNow_70 : decode cX4_whyNotNow 70 = .ok (.ireturn, 1) := by decide +kernel
theorem dX4_whyNot_0 : decode cX4_whyNot 0 = .ok (.aload_n 0, 1) := by decide +kernel
theorem dX4_whyNot_1 : decode cX4_whyNot 1 = .ok (.aload_n 0, 1) := by decide +kernel
theorem dX4_whyNot_2 : decode cX4_whyNot 2 = .ok (.iload_n 2, 1) := by decide +kernel
theorem dX4_whyNot_3 : decode cX4_whyNot 3 = .ok (.invokevirtual 84, 3) := by decide +kernel
theorem dX4_whyNot_6 : decode cX4_whyNot 6 = .ok (.ifCond .eq 10, 3) := by decide +kernel
theorem dX4_whyNot_9 : decode cX4_whyNot 9 = .ok (.iload_n 3, 1) := by decide +kernel
theorem dX4_whyNot_10 : decode cX4_whyNot 10 = .ok (.invokestatic 87, 3) := by decide +kernel
theorem dX4_whyNot_13 : decode cX4_whyNot 13 = .ok (.ifCond .ne 7, 3) := by decide +kernel
theorem dX4_whyNot_16 : decode cX4_whyNot 16 = .ok (.iconst 1, 1) := by decide +kernel
theorem dX4_whyNot_17 : decode cX4_whyNot 17 = .ok (.goto 17, 3) := by decide +kernel
theorem dX4_whyNot_20 : decode cX4_whyNot 20 = .ok (.iload_n 1, 1) := by decide +kernel
theorem dX4_whyNot_21 : decode cX4_whyNot 21 = .ok (.iconst 0, 1) := by decide +kernel
theorem dX4_whyNot_22 : decode cX4_whyNot 22 = .ok (.iconst 4, 1) := by decide +kernel
theorem dX4_whyNot_23 : decode cX4_whyNot 23 = .ok (.invokestatic 32, 3) := by decide +kernel
theorem dX4_whyNot_26 : decode cX4_whyNot 26 = .ok (.ifCond .eq 7, 3) := by decide +kernel
theorem dX4_whyNot_29 : decode cX4_whyNot 29 = .ok (.iconst 0, 1) := by decide +kernel
theorem dX4_whyNot_30 : decode cX4_whyNot 30 = .ok (.goto 4, 3) := by decide +kernel
theorem dX4_whyNot_33 : decode cX4_whyNot 33 = .ok (.iconst 2, 1) := by decide +kernel
theorem dX4_whyNot_34 : decode cX4_whyNot 34 = .ok (.putfield 25, 3) := by decide +kernel
theorem dX4_whyNot_37 : decode cX4_whyNot 37 = .ok (.aload_n 0, 1) := by decide +kernel
theorem dX4_whyNot_38 : decode cX4_whyNot 38 = .ok (.getfield 25, 3) := by decide +kernel
theorem dX4_whyNot_41 : decode cX4_whyNot 41 = .ok (.ifCond .le 7, 3) := by decide +kernel
theorem dX4_whyNot_44 : decode cX4_whyNot 44 = .ok (.iconst 0, 1) := by decide +kernel
theorem dX4_whyNot_45 : decode cX4_whyNot 45 = .ok (.goto 10, 3) := by decide +kernel
theorem dX4_whyNot_48 : decode cX4_whyNot 48 = .ok (.aload_n 0, 1) := by decide +kernel
theorem dX4_whyNot_49 : decode cX4_whyNot 49 = .ok (.iload_n 1, 1) := by decide +kernel
theorem dX4_whyNot_50 : decode cX4_whyNot 50 = .ok (.iload_n 2, 1) := by decide +kernel
theorem dX4_whyNot_51 : decode cX4_whyNot 51 = .ok (.iload_n 3, 1) := by decide +kernel
theorem dX4_whyNot_52 : decode cX4_whyNot 52 = .ok (.invokevirtual 212, 3) := by decide +kernel
theorem dX4_whyNot_55 : decode cX4_whyNot 55 = .ok (.ireturn, 1) := by decide +kernel
theorem dX4_begunThen_0 : decode cX4_begunThen 0 = .ok (.aload_n 0, 1) := by decide +kernel
theorem dX4_begunThen_1 : decode cX4_begunThen 1 = .ok (.iload_n 1, 1) := by decide +kernel
theorem dX4_begunThen_2 : decode cX4_begunThen 2 = .ok (.invokevirtual 106, 3) := by decide +kernel
theorem dX4_begunThen_5 : decode cX4_begunThen 5 = .ok (.ifCond .le 5, 3) := by decide +kernel
theorem dX4_begunThen_8 : decode cX4_begunThen 8 = .ok (.iconst (-1), 1) := by decide +kernel
theorem dX4_begunThen_9 : decode cX4_begunThen 9 = .ok (.ireturn, 1) := by decide +kernel
theorem dX4_begunThen_10 : decode cX4_begunThen 10 = .ok (.aload_n 0, 1) := by decide +kernel
theorem dX4_begunThen_11 : decode cX4_begunThen 11 = .ok (.iload_n 1, 1) := by decide +kernel
theorem dX4_begunThen_12 : decode cX4_begunThen 12 = .ok (.invokevirtual 57, 3) := by decide +kernel
theorem dX4_begunThen_15 : decode cX4_begunThen 15 = .ok (.aload_n 0, 1) := by decide +kernel
theorem dX4_begunThen_16 : decode cX4_begunThen 16 = .ok (.iload_n 1, 1) := by decide +kernel
theorem dX4_begunThen_17 : decode cX4_begunThen 17 = .ok (.invokevirtual 60, 3) := by decide +kernel
theorem dX4_begunThen_20 : decode cX4_begunThen 20 = .ok (.isub, 1) := by decide +kernel
theorem dX4_begunThen_21 : decode cX4_begunThen 21 = .ok (.istore_n 3, 1) := by decide +kernel
theorem dX4_begunThen_22 : decode cX4_begunThen 22 = .ok (.iload_n 2, 1) := by decide +kernel
theorem dX4_begunThen_23 : decode cX4_begunThen 23 = .ok (.ifCond .ne 7, 3) := by decide +kernel
theorem dX4_begunThen_26 : decode cX4_begunThen 26 = .ok (.iload_n 3, 1) := by decide +kernel
theorem dX4_begunThen_27 : decode cX4_begunThen 27 = .ok (.goto 19, 3) := by decide +kernel
theorem dX4_begunThen_30 : decode cX4_begunThen 30 = .ok (.iload_n 2, 1) := by decide +kernel
theorem dX4_begunThen_31 : decode cX4_begunThen 31 = .ok (.iconst 1, 1) := by decide +kernel
theorem dX4_begunThen_32 : decode cX4_begunThen 32 = .ok (.if_icmp .ne 10, 3) := by decide +kernel
theorem dX4_begunThen_35 : decode cX4_begunThen 35 = .ok (.iload_n 3, 1) := by decide +kernel
theorem dX4_begunThen_36 : decode cX4_begunThen 36 = .ok (.invokestatic 65, 3) := by decide +kernel
theorem dX4_begunThen_39 : decode cX4_begunThen 39 = .ok (.goto 7, 3) := by decide +kernel
theorem dX4_begunThen_42 : decode cX4_begunThen 42 = .ok (.iload_n 3, 1) := by decide +kernel
theorem dX4_begunThen_43 : decode cX4_begunThen 43 = .ok (.invokestatic 103, 3) := by decide +kernel
theorem dX4_begunThen_46 : decode cX4_begunThen 46 = .ok (.ireturn, 1) := by decide +kernel
theorem dX4_ifBegun_0 : decode cX4_ifBegun 0 = .ok (.aload_n 0, 1) := by decide +kernel
theorem dX4_ifBegun_1 : decode cX4_ifBegun 1 = .ok (.aload_n 0, 1) := by decide +kernel
theorem dX4_ifBegun_2 : decode cX4_ifBegun 2 = .ok (.iload_n 1, 1) := by decide +kernel
theorem dX4_ifBegun_3 : decode cX4_ifBegun 3 = .ok (.invokevirtual 84, 3) := by decide +kernel
theorem dX4_ifBegun_6 : decode cX4_ifBegun 6 = .ok (.ifCond .ne 7, 3) := by decide +kernel
theorem dX4_ifBegun_9 : decode cX4_ifBegun 9 = .ok (.iconst 1, 1) := by decide +kernel
theorem dX4_ifBegun_10 : decode cX4_ifBegun 10 = .ok (.goto 17, 3) := by decide +kernel
theorem dX4_ifBegun_13 : decode cX4_ifBegun 13 = .ok (.iload_n 2, 1) := by decide +kernel
theorem dX4_ifBegun_14 : decode cX4_ifBegun 14 = .ok (.iconst 0, 1) := by decide +kernel
theorem dX4_ifBegun_15 : decode cX4_ifBegun 15 = .ok (.iconst 2, 1) := by decide +kernel
theorem dX4_ifBegun_16 : decode cX4_ifBegun 16 = .ok (.invokestatic 32, 3) := by decide +kernel
theorem dX4_ifBegun_19 : decode cX4_ifBegun 19 = .ok (.ifCond .eq 7, 3) := by decide +kernel
theorem dX4_ifBegun_22 : decode cX4_ifBegun 22 = .ok (.iconst 0, 1) := by decide +kernel
theorem dX4_ifBegun_23 : decode cX4_ifBegun 23 = .ok (.goto 4, 3) := by decide +kernel
theorem dX4_ifBegun_26 : decode cX4_ifBegun 26 = .ok (.iconst 2, 1) := by decide +kernel
theorem dX4_ifBegun_27 : decode cX4_ifBegun 27 = .ok (.putfield 25, 3) := by decide +kernel
theorem dX4_ifBegun_30 : decode cX4_ifBegun 30 = .ok (.aload_n 0, 1) := by decide +kernel
theorem dX4_ifBegun_31 : decode cX4_ifBegun 31 = .ok (.getfield 25, 3) := by decide +kernel
theorem dX4_ifBegun_34 : decode cX4_ifBegun 34 = .ok (.ifCond .le 7, 3) := by decide +kernel
theorem dX4_ifBegun_37 : decode cX4_ifBegun 37 = .ok (.iconst 0, 1) := by decide +kernel
theorem dX4_ifBegun_38 : decode cX4_ifBegun 38 = .ok (.goto 9, 3) := by decide +kernel
theorem dX4_ifBegun_41 : decode cX4_ifBegun 41 = .ok (.aload_n 0, 1) := by decide +kernel
theorem dX4_ifBegun_42 : decode cX4_ifBegun 42 = .ok (.iload_n 1, 1) := by decide +kernel
theorem dX4_ifBegun_43 : decode cX4_ifBegun 43 = .ok (.iload_n 2, 1) := by decide +kernel
theorem dX4_ifBegun_44 : decode cX4_ifBegun 44 = .ok (.invokevirtual 215, 3) := by decide +kernel
theorem dX4_ifBegun_47 : decode cX4_ifBegun 47 = .ok (.ireturn, 1) := by decide +kernel
theorem dX4_breaksNow_0 : decode cX4_breaksNow 0 = .ok (.aload_n 0, 1) := by decide +kernel
theorem dX4_breaksNow_1 : decode cX4_breaksNow 1 = .ok (.iload_n 1, 1) := by decide +kernel
theorem dX4_breaksNow_2 : decode cX4_breaksNow 2 = .ok (.invokevirtual 135, 3) := by decide +kernel
theorem dX4_breaksNow_5 : decode cX4_breaksNow 5 = .ok (.ifCond .ne 5, 3) := by decide +kernel
theorem dX4_breaksNow_8 : decode cX4_breaksNow 8 = .ok (.iconst (-1), 1) := by decide +kernel
theorem dX4_breaksNow_9 : decode cX4_breaksNow 9 = .ok (.ireturn, 1) := by decide +kernel
theorem dX4_breaksNow_10 : decode cX4_breaksNow 10 = .ok (.aload_n 0, 1) := by decide +kernel
theorem dX4_breaksNow_11 : decode cX4_breaksNow 11 = .ok (.iload_n 1, 1) := by decide +kernel
theorem dX4_breaksNow_12 : decode cX4_breaksNow 12 = .ok (.invokevirtual 132, 3) := by decide +kernel
theorem dX4_breaksNow_15 : decode cX4_breaksNow 15 = .ok (.iconst 1, 1) := by decide +kernel
theorem dX4_breaksNow_16 : decode cX4_breaksNow 16 = .ok (.iadd, 1) := by decide +kernel
theorem dX4_breaksNow_17 : decode cX4_breaksNow 17 = .ok (.aload_n 0, 1) := by decide +kernel
theorem dX4_breaksNow_18 : decode cX4_breaksNow 18 = .ok (.getfield 7, 3) := by decide +kernel
theorem dX4_breaksNow_21 : decode cX4_breaksNow 21 = .ok (.iconst 4, 1) := by decide +kernel
theorem dX4_breaksNow_22 : decode cX4_breaksNow 22 = .ok (.iaload, 1) := by decide +kernel
theorem dX4_breaksNow_23 : decode cX4_breaksNow 23 = .ok (.isub, 1) := by decide +kernel
theorem dX4_breaksNow_24 : decode cX4_breaksNow 24 = .ok (.istore_n 2, 1) := by decide +kernel
theorem dX4_breaksNow_25 : decode cX4_breaksNow 25 = .ok (.iload_n 2, 1) := by decide +kernel
theorem dX4_breaksNow_26 : decode cX4_breaksNow 26 = .ok (.iconst 1, 1) := by decide +kernel
theorem dX4_breaksNow_27 : decode cX4_breaksNow 27 = .ok (.if_icmp .ge 7, 3) := by decide +kernel
theorem dX4_breaksNow_30 : decode cX4_breaksNow 30 = .ok (.iconst 1, 1) := by decide +kernel
theorem dX4_breaksNow_31 : decode cX4_breaksNow 31 = .ok (.goto 4, 3) := by decide +kernel
theorem dX4_breaksNow_34 : decode cX4_breaksNow 34 = .ok (.iload_n 2, 1) := by decide +kernel
theorem dX4_breaksNow_35 : decode cX4_breaksNow 35 = .ok (.ireturn, 1) := by decide +kernel
theorem dX4_breaksIn_0 : decode cX4_breaksIn 0 = .ok (.aload_n 0, 1) := by decide +kernel
theorem dX4_breaksIn_1 : decode cX4_breaksIn 1 = .ok (.aload_n 0, 1) := by decide +kernel
theorem dX4_breaksIn_2 : decode cX4_breaksIn 2 = .ok (.iload_n 1, 1) := by decide +kernel
theorem dX4_breaksIn_3 : decode cX4_breaksIn 3 = .ok (.invokevirtual 84, 3) := by decide +kernel
theorem dX4_breaksIn_6 : decode cX4_breaksIn 6 = .ok (.ifCond .eq 7, 3) := by decide +kernel
theorem dX4_breaksIn_9 : decode cX4_breaksIn 9 = .ok (.iconst 0, 1) := by decide +kernel
theorem dX4_breaksIn_10 : decode cX4_breaksIn 10 = .ok (.goto 4, 3) := by decide +kernel
theorem dX4_breaksIn_13 : decode cX4_breaksIn 13 = .ok (.iconst 1, 1) := by decide +kernel
theorem dX4_breaksIn_14 : decode cX4_breaksIn 14 = .ok (.putfield 25, 3) := by decide +kernel
theorem dX4_breaksIn_17 : decode cX4_breaksIn 17 = .ok (.aload_n 0, 1) := by decide +kernel
theorem dX4_breaksIn_18 : decode cX4_breaksIn 18 = .ok (.getfield 25, 3) := by decide +kernel
theorem dX4_breaksIn_21 : decode cX4_breaksIn 21 = .ok (.ifCond .le 7, 3) := by decide +kernel
theorem dX4_breaksIn_24 : decode cX4_breaksIn 24 = .ok (.iconst 0, 1) := by decide +kernel
theorem dX4_breaksIn_25 : decode cX4_breaksIn 25 = .ok (.goto 8, 3) := by decide +kernel
theorem dX4_breaksIn_28 : decode cX4_breaksIn 28 = .ok (.aload_n 0, 1) := by decide +kernel
theorem dX4_breaksIn_29 : decode cX4_breaksIn 29 = .ok (.iload_n 1, 1) := by decide +kernel
theorem dX4_breaksIn_30 : decode cX4_breaksIn 30 = .ok (.invokevirtual 218, 3) := by decide +kernel
theorem dX4_breaksIn_33 : decode cX4_breaksIn 33 = .ok (.ireturn, 1) := by decide +kernel
theorem dX4_keep_0 : decode cX4_keep 0 = .ok (.iconst 0, 1) := by decide +kernel
theorem dX4_keep_1 : decode cX4_keep 1 = .ok (.istore_n 1, 1) := by decide +kernel
theorem dX4_keep_2 : decode cX4_keep 2 = .ok (.iload_n 1, 1) := by decide +kernel
theorem dX4_keep_3 : decode cX4_keep 3 = .ok (.sipush 232, 3) := by decide +kernel
theorem dX4_keep_6 : decode cX4_keep 6 = .ok (.if_icmp .ge 21, 3) := by decide +kernel
theorem dX4_keep_9 : decode cX4_keep 9 = .ok (.aload_n 0, 1) := by decide +kernel
theorem dX4_keep_10 : decode cX4_keep 10 = .ok (.getfield 22, 3) := by decide +kernel
theorem dX4_keep_13 : decode cX4_keep 13 = .ok (.iload_n 1, 1) := by decide +kernel
theorem dX4_keep_14 : decode cX4_keep 14 = .ok (.aload_n 0, 1) := by decide +kernel
theorem dX4_keep_15 : decode cX4_keep 15 = .ok (.getfield 7, 3) := by decide +kernel
theorem dX4_keep_18 : decode cX4_keep 18 = .ok (.iload_n 1, 1) := by decide +kernel
theorem dX4_keep_19 : decode cX4_keep 19 = .ok (.iaload, 1) := by decide +kernel
theorem dX4_keep_20 : decode cX4_keep 20 = .ok (.iastore, 1) := by decide +kernel
theorem dX4_keep_21 : decode cX4_keep 21 = .ok (.iinc 1 1, 3) := by decide +kernel
theorem dX4_keep_24 : decode cX4_keep 24 = .ok (.goto (-22), 3) := by decide +kernel
theorem dX4_keep_27 : decode cX4_keep 27 = .ok (.return_, 1) := by decide +kernel
theorem dX4_layBack_0 : decode cX4_layBack 0 = .ok (.iconst 0, 1) := by decide +kernel
theorem dX4_layBack_1 : decode cX4_layBack 1 = .ok (.istore_n 1, 1) := by decide +kernel
theorem dX4_layBack_2 : decode cX4_layBack 2 = .ok (.iload_n 1, 1) := by decide +kernel
theorem dX4_layBack_3 : decode cX4_layBack 3 = .ok (.sipush 232, 3) := by decide +kernel
theorem dX4_layBack_6 : decode cX4_layBack 6 = .ok (.if_icmp .ge 21, 3) := by decide +kernel
theorem dX4_layBack_9 : decode cX4_layBack 9 = .ok (.aload_n 0, 1) := by decide +kernel
theorem dX4_layBack_10 : decode cX4_layBack 10 = .ok (.getfield 7, 3) := by decide +kernel
theorem dX4_layBack_13 : decode cX4_layBack 13 = .ok (.iload_n 1, 1) := by decide +kernel
theorem dX4_layBack_14 : decode cX4_layBack 14 = .ok (.aload_n 0, 1) := by decide +kernel
theorem dX4_layBack_15 : decode cX4_layBack 15 = .ok (.getfield 22, 3) := by decide +kernel
theorem dX4_layBack_18 : decode cX4_layBack 18 = .ok (.iload_n 1, 1) := by decide +kernel
theorem dX4_layBack_19 : decode cX4_layBack 19 = .ok (.iaload, 1) := by decide +kernel
theorem dX4_layBack_20 : decode cX4_layBack 20 = .ok (.iastore, 1) := by decide +kernel
theorem dX4_layBack_21 : decode cX4_layBack 21 = .ok (.iinc 1 1, 3) := by decide +kernel
theorem dX4_layBack_24 : decode cX4_layBack 24 = .ok (.goto (-22), 3) := by decide +kernel
theorem dX4_layBack_27 : decode cX4_layBack 27 = .ok (.return_, 1) := by decide +kernel
theorem dX4_surchargesThen_0 : decode cX4_surchargesThen 0 = .ok (.aload_n 0, 1) := by decide +kernel
theorem dX4_surchargesThen_1 : decode cX4_surchargesThen 1 = .ok (.invokevirtual 221, 3) := by decide +kernel
theorem dX4_surchargesThen_4 : decode cX4_surchargesThen 4 = .ok (.aload_n 0, 1) := by decide +kernel
theorem dX4_surchargesThen_5 : decode cX4_surchargesThen 5 = .ok (.iload_n 1, 1) := by decide +kernel
theorem dX4_surchargesThen_6 : decode cX4_surchargesThen 6 = .ok (.invokevirtual 145, 3) := by decide +kernel
theorem dX4_surchargesThen_9 : decode cX4_surchargesThen 9 = .ok (.istore_n 2, 1) := by decide +kernel
theorem dX4_surchargesThen_10 : decode cX4_surchargesThen 10 = .ok (.aload_n 0, 1) := by decide +kernel
theorem dX4_surchargesThen_11 : decode cX4_surchargesThen 11 = .ok (.invokevirtual 224, 3) := by decide +kernel
theorem dX4_surchargesThen_14 : decode cX4_surchargesThen 14 = .ok (.iload_n 2, 1) := by decide +kernel
theorem dX4_surchargesThen_15 : decode cX4_surchargesThen 15 = .ok (.ireturn, 1) := by decide +kernel
theorem dX4_surchargesIn_0 : decode cX4_surchargesIn 0 = .ok (.aload_n 0, 1) := by decide +kernel
theorem dX4_surchargesIn_1 : decode cX4_surchargesIn 1 = .ok (.iload_n 1, 1) := by decide +kernel
theorem dX4_surchargesIn_2 : decode cX4_surchargesIn 2 = .ok (.iconst 0, 1) := by decide +kernel
theorem dX4_surchargesIn_3 : decode cX4_surchargesIn 3 = .ok (.sipush 500, 3) := by decide +kernel
theorem dX4_surchargesIn_6 : decode cX4_surchargesIn 6 = .ok (.invokestatic 32, 3) := by decide +kernel
theorem dX4_surchargesIn_9 : decode cX4_surchargesIn 9 = .ok (.ifCond .eq 7, 3) := by decide +kernel
theorem dX4_surchargesIn_12 : decode cX4_surchargesIn 12 = .ok (.iconst 0, 1) := by decide +kernel
theorem dX4_surchargesIn_13 : decode cX4_surchargesIn 13 = .ok (.goto 4, 3) := by decide +kernel
theorem dX4_surchargesIn_16 : decode cX4_surchargesIn 16 = .ok (.iconst 1, 1) := by decide +kernel
theorem dX4_surchargesIn_17 : decode cX4_surchargesIn 17 = .ok (.putfield 25, 3) := by decide +kernel
theorem dX4_surchargesIn_20 : decode cX4_surchargesIn 20 = .ok (.aload_n 0, 1) := by decide +kernel
theorem dX4_surchargesIn_21 : decode cX4_surchargesIn 21 = .ok (.getfield 25, 3) := by decide +kernel
theorem dX4_surchargesIn_24 : decode cX4_surchargesIn 24 = .ok (.ifCond .le 7, 3) := by decide +kernel
theorem dX4_surchargesIn_27 : decode cX4_surchargesIn 27 = .ok (.iconst 0, 1) := by decide +kernel
theorem dX4_surchargesIn_28 : decode cX4_surchargesIn 28 = .ok (.goto 8, 3) := by decide +kernel
theorem dX4_surchargesIn_31 : decode cX4_surchargesIn 31 = .ok (.aload_n 0, 1) := by decide +kernel
theorem dX4_surchargesIn_32 : decode cX4_surchargesIn 32 = .ok (.iload_n 1, 1) := by decide +kernel
theorem dX4_surchargesIn_33 : decode cX4_surchargesIn 33 = .ok (.invokevirtual 227, 3) := by decide +kernel
theorem dX4_surchargesIn_36 : decode cX4_surchargesIn 36 = .ok (.ireturn, 1) := by decide +kernel
theorem dX4_urgentNow_0 : decode cX4_urgentNow 0 = .ok (.iconst (-1), 1) := by decide +kernel
theorem dX4_urgentNow_1 : decode cX4_urgentNow 1 = .ok (.istore_n 1, 1) := by decide +kernel
theorem dX4_urgentNow_2 : decode cX4_urgentNow 2 = .ok (.iconst 0, 1) := by decide +kernel
theorem dX4_urgentNow_3 : decode cX4_urgentNow 3 = .ok (.istore_n 2, 1) := by decide +kernel
theorem dX4_urgentNow_4 : decode cX4_urgentNow 4 = .ok (.iload_n 2, 1) := by decide +kernel
theorem dX4_urgentNow_5 : decode cX4_urgentNow 5 = .ok (.aload_n 0, 1) := by decide +kernel
theorem dX4_urgentNow_6 : decode cX4_urgentNow 6 = .ok (.getfield 7, 3) := by decide +kernel
theorem dX4_urgentNow_9 : decode cX4_urgentNow 9 = .ok (.bipush 9, 2) := by decide +kernel
theorem dX4_urgentNow_11 : decode cX4_urgentNow 11 = .ok (.iaload, 1) := by decide +kernel
theorem dX4_urgentNow_12 : decode cX4_urgentNow 12 = .ok (.if_icmp .ge 65, 3) := by decide +kernel
theorem dX4_urgentNow_15 : decode cX4_urgentNow 15 = .ok (.aload_n 0, 1) := by decide +kernel
theorem dX4_urgentNow_16 : decode cX4_urgentNow 16 = .ok (.iload_n 2, 1) := by decide +kernel
theorem dX4_urgentNow_17 : decode cX4_urgentNow 17 = .ok (.invokevirtual 135, 3) := by decide +kernel
theorem dX4_urgentNow_20 : decode cX4_urgentNow 20 = .ok (.ifCond .eq 51, 3) := by decide +kernel
theorem dX4_urgentNow_23 : decode cX4_urgentNow 23 = .ok (.iload_n 1, 1) := by decide +kernel
theorem dX4_urgentNow_24 : decode cX4_urgentNow 24 = .ok (.iconst (-1), 1) := by decide +kernel
theorem dX4_urgentNow_25 : decode cX4_urgentNow 25 = .ok (.if_icmp .ne 7, 3) := by decide +kernel
theorem dX4_urgentNow_28 : decode cX4_urgentNow 28 = .ok (.iconst 1, 1) := by decide +kernel
theorem dX4_urgentNow_29 : decode cX4_urgentNow 29 = .ok (.goto 14, 3) := by decide +kernel
theorem dX4_urgentNow_32 : decode cX4_urgentNow 32 = .ok (.aload_n 0, 1) := by decide +kernel
theorem dX4_urgentNow_33 : decode cX4_urgentNow 33 = .ok (.iload_n 1, 1) := by decide +kernel
theorem dX4_urgentNow_34 : decode cX4_urgentNow 34 = .ok (.invokevirtual 218, 3) := by decide +kernel
theorem dX4_urgentNow_37 : decode cX4_urgentNow 37 = .ok (.aload_n 0, 1) := by decide +kernel
theorem dX4_urgentNow_38 : decode cX4_urgentNow 38 = .ok (.iload_n 2, 1) := by decide +kernel
theorem dX4_urgentNow_39 : decode cX4_urgentNow 39 = .ok (.invokevirtual 218, 3) := by decide +kernel
theorem dX4_urgentNow_42 : decode cX4_urgentNow 42 = .ok (.isub, 1) := by decide +kernel
theorem dX4_urgentNow_43 : decode cX4_urgentNow 43 = .ok (.istore_n 3, 1) := by decide +kernel
theorem dX4_urgentNow_44 : decode cX4_urgentNow 44 = .ok (.iload_n 3, 1) := by decide +kernel
theorem dX4_urgentNow_45 : decode cX4_urgentNow 45 = .ok (.ifCond .gt 20, 3) := by decide +kernel
theorem dX4_urgentNow_48 : decode cX4_urgentNow 48 = .ok (.iload_n 3, 1) := by decide +kernel
theorem dX4_urgentNow_49 : decode cX4_urgentNow 49 = .ok (.ifCond .ne 20, 3) := by decide +kernel
theorem dX4_urgentNow_52 : decode cX4_urgentNow 52 = .ok (.aload_n 0, 1) := by decide +kernel
theorem dX4_urgentNow_53 : decode cX4_urgentNow 53 = .ok (.iload_n 2, 1) := by decide +kernel
theorem dX4_urgentNow_54 : decode cX4_urgentNow 54 = .ok (.invokevirtual 53, 3) := by decide +kernel
theorem dX4_urgentNow_57 : decode cX4_urgentNow 57 = .ok (.aload_n 0, 1) := by decide +kernel
theorem dX4_urgentNow_58 : decode cX4_urgentNow 58 = .ok (.iload_n 1, 1) := by decide +kernel
theorem dX4_urgentNow_59 : decode cX4_urgentNow 59 = .ok (.invokevirtual 53, 3) := by decide +kernel
theorem dX4_urgentNow_62 : decode cX4_urgentNow 62 = .ok (.if_icmp .le 7, 3) := by decide +kernel
theorem dX4_urgentNow_65 : decode cX4_urgentNow 65 = .ok (.iload_n 2, 1) := by decide +kernel
theorem dX4_urgentNow_66 : decode cX4_urgentNow 66 = .ok (.goto 4, 3) := by decide +kernel
theorem dX4_urgentNow_69 : decode cX4_urgentNow 69 = .ok (.iload_n 1, 1) := by decide +kernel
theorem dX4_urgentNow_70 : decode cX4_urgentNow 70 = .ok (.istore_n 1, 1) := by decide +kernel
theorem dX4_urgentNow_71 : decode cX4_urgentNow 71 = .ok (.iinc 2 1, 3) := by decide +kernel
theorem dX4_urgentNow_74 : decode cX4_urgentNow 74 = .ok (.goto (-70), 3) := by decide +kernel
theorem dX4_urgentNow_77 : decode cX4_urgentNow 77 = .ok (.iload_n 1, 1) := by decide +kernel
theorem dX4_urgentNow_78 : decode cX4_urgentNow 78 = .ok (.ireturn, 1) := by decide +kernel
theorem dX4_mostUrgent_0 : decode cX4_mostUrgent 0 = .ok (.aload_n 0, 1) := by decide +kernel
theorem dX4_mostUrgent_1 : decode cX4_mostUrgent 1 = .ok (.iconst 0, 1) := by decide +kernel
theorem dX4_mostUrgent_2 : decode cX4_mostUrgent 2 = .ok (.putfield 25, 3) := by decide +kernel
theorem dX4_mostUrgent_5 : decode cX4_mostUrgent 5 = .ok (.aload_n 0, 1) := by decide +kernel
theorem dX4_mostUrgent_6 : decode cX4_mostUrgent 6 = .ok (.invokevirtual 230, 3) := by decide +kernel
theorem dX4_mostUrgent_9 : decode cX4_mostUrgent 9 = .ok (.ireturn, 1) := by decide +kernel
theorem dX4_dueThen_0 : decode cX4_dueThen 0 = .ok (.aload_n 0, 1) := by decide +kernel
theorem dX4_dueThen_1 : decode cX4_dueThen 1 = .ok (.invokevirtual 221, 3) := by decide +kernel
theorem dX4_dueThen_4 : decode cX4_dueThen 4 = .ok (.aload_n 0, 1) := by decide +kernel
theorem dX4_dueThen_5 : decode cX4_dueThen 5 = .ok (.iload_n 2, 1) := by decide +kernel
theorem dX4_dueThen_6 : decode cX4_dueThen 6 = .ok (.invokevirtual 145, 3) := by decide +kernel
theorem dX4_dueThen_9 : decode cX4_dueThen 9 = .ok (.istore_n 3, 1) := by decide +kernel
theorem dX4_dueThen_10 : decode cX4_dueThen 10 = .ok (.aload_n 0, 1) := by decide +kernel
theorem dX4_dueThen_11 : decode cX4_dueThen 11 = .ok (.iload_n 1, 1) := by decide +kernel
theorem dX4_dueThen_12 : decode cX4_dueThen 12 = .ok (.invokevirtual 188, 3) := by decide +kernel
theorem dX4_dueThen_15 : decode cX4_dueThen 15 = .ok (.istore 4, 2) := by decide +kernel
theorem dX4_dueThen_17 : decode cX4_dueThen 17 = .ok (.aload_n 0, 1) := by decide +kernel
theorem dX4_dueThen_18 : decode cX4_dueThen 18 = .ok (.invokevirtual 224, 3) := by decide +kernel
theorem dX4_dueThen_21 : decode cX4_dueThen 21 = .ok (.iload 4, 2) := by decide +kernel
theorem dX4_dueThen_23 : decode cX4_dueThen 23 = .ok (.ireturn, 1) := by decide +kernel
theorem dX4_dueIn_0 : decode cX4_dueIn 0 = .ok (.aload_n 0, 1) := by decide +kernel
theorem dX4_dueIn_1 : decode cX4_dueIn 1 = .ok (.aload_n 0, 1) := by decide +kernel
theorem dX4_dueIn_2 : decode cX4_dueIn 2 = .ok (.iload_n 1, 1) := by decide +kernel
theorem dX4_dueIn_3 : decode cX4_dueIn 3 = .ok (.invokevirtual 84, 3) := by decide +kernel
theorem dX4_dueIn_6 : decode cX4_dueIn 6 = .ok (.ifCond .ne 7, 3) := by decide +kernel
theorem dX4_dueIn_9 : decode cX4_dueIn 9 = .ok (.iconst 1, 1) := by decide +kernel
theorem dX4_dueIn_10 : decode cX4_dueIn 10 = .ok (.goto 19, 3) := by decide +kernel
theorem dX4_dueIn_13 : decode cX4_dueIn 13 = .ok (.iload_n 2, 1) := by decide +kernel
theorem dX4_dueIn_14 : decode cX4_dueIn 14 = .ok (.iconst 0, 1) := by decide +kernel
theorem dX4_dueIn_15 : decode cX4_dueIn 15 = .ok (.sipush 500, 3) := by decide +kernel
theorem dX4_dueIn_18 : decode cX4_dueIn 18 = .ok (.invokestatic 32, 3) := by decide +kernel
theorem dX4_dueIn_21 : decode cX4_dueIn 21 = .ok (.ifCond .eq 7, 3) := by decide +kernel
theorem dX4_dueIn_24 : decode cX4_dueIn 24 = .ok (.iconst 0, 1) := by decide +kernel
theorem dX4_dueIn_25 : decode cX4_dueIn 25 = .ok (.goto 4, 3) := by decide +kernel
theorem dX4_dueIn_28 : decode cX4_dueIn 28 = .ok (.iconst 2, 1) := by decide +kernel
theorem dX4_dueIn_29 : decode cX4_dueIn 29 = .ok (.putfield 25, 3) := by decide +kernel
theorem dX4_dueIn_32 : decode cX4_dueIn 32 = .ok (.aload_n 0, 1) := by decide +kernel
theorem dX4_dueIn_33 : decode cX4_dueIn 33 = .ok (.getfield 25, 3) := by decide +kernel
theorem dX4_dueIn_36 : decode cX4_dueIn 36 = .ok (.ifCond .le 7, 3) := by decide +kernel
theorem dX4_dueIn_39 : decode cX4_dueIn 39 = .ok (.iconst 0, 1) := by decide +kernel
theorem dX4_dueIn_40 : decode cX4_dueIn 40 = .ok (.goto 9, 3) := by decide +kernel
theorem dX4_dueIn_43 : decode cX4_dueIn 43 = .ok (.aload_n 0, 1) := by decide +kernel
theorem dX4_dueIn_44 : decode cX4_dueIn 44 = .ok (.iload_n 1, 1) := by decide +kernel
theorem dX4_dueIn_45 : decode cX4_dueIn 45 = .ok (.iload_n 2, 1) := by decide +kernel
theorem dX4_dueIn_46 : decode cX4_dueIn 46 = .ok (.invokevirtual 233, 3) := by decide +kernel
theorem dX4_dueIn_49 : decode cX4_dueIn 49 = .ok (.ireturn, 1) := by decide +kernel
theorem dX4_share_0 : decode cX4_share 0 = .ok (.aload_n 0, 1) := by decide +kernel
theorem dX4_share_1 : decode cX4_share 1 = .ok (.iconst 5, 1) := by decide +kernel
theorem dX4_share_2 : decode cX4_share 2 = .ok (.invokevirtual 206, 3) := by decide +kernel
theorem dX4_share_5 : decode cX4_share 5 = .ok (.aload_n 0, 1) := by decide +kernel
theorem dX4_share_6 : decode cX4_share 6 = .ok (.bipush 6, 2) := by decide +kernel
theorem dX4_share_8 : decode cX4_share 8 = .ok (.invokevirtual 206, 3) := by decide +kernel
theorem dX4_share_11 : decode cX4_share 11 = .ok (.iadd, 1) := by decide +kernel
theorem dX4_share_12 : decode cX4_share 12 = .ok (.istore_n 1, 1) := by decide +kernel
theorem dX4_share_13 : decode cX4_share 13 = .ok (.iload_n 1, 1) := by decide +kernel
theorem dX4_share_14 : decode cX4_share 14 = .ok (.aload_n 0, 1) := by decide +kernel
theorem dX4_share_15 : decode cX4_share 15 = .ok (.iconst 3, 1) := by decide +kernel
theorem dX4_share_16 : decode cX4_share 16 = .ok (.invokevirtual 206, 3) := by decide +kernel
theorem dX4_share_19 : decode cX4_share 19 = .ok (.iadd, 1) := by decide +kernel
theorem dX4_share_20 : decode cX4_share 20 = .ok (.istore_n 2, 1) := by decide +kernel
theorem dX4_share_21 : decode cX4_share 21 = .ok (.iload_n 2, 1) := by decide +kernel
theorem dX4_share_22 : decode cX4_share 22 = .ok (.ifCond .ne 7, 3) := by decide +kernel
theorem dX4_share_25 : decode cX4_share 25 = .ok (.dconst 1, 1) := by decide +kernel
theorem dX4_share_26 : decode cX4_share 26 = .ok (.goto 8, 3) := by decide +kernel
theorem dX4_share_29 : decode cX4_share 29 = .ok (.iload_n 1, 1) := by decide +kernel
theorem dX4_share_30 : decode cX4_share 30 = .ok (.i2d, 1) := by decide +kernel
theorem dX4_share_31 : decode cX4_share 31 = .ok (.iload_n 2, 1) := by decide +kernel
theorem dX4_share_32 : decode cX4_share 32 = .ok (.i2d, 1) := by decide +kernel
theorem dX4_share_33 : decode cX4_share 33 = .ok (.ddiv, 1) := by decide +kernel
theorem dX4_share_34 : decode cX4_share 34 = .ok (.dreturn, 1) := by decide +kernel
theorem dX4_settledShare_0 : decode cX4_settledShare 0 = .ok (.aload_n 0, 1) := by decide +kernel
theorem dX4_settledShare_1 : decode cX4_settledShare 1 = .ok (.iconst 0, 1) := by decide +kernel
theorem dX4_settledShare_2 : decode cX4_settledShare 2 = .ok (.putfield 25, 3) := by decide +kernel
theorem dX4_settledShare_5 : decode cX4_settledShare 5 = .ok (.aload_n 0, 1) := by decide +kernel
theorem dX4_settledShare_6 : decode cX4_settledShare 6 = .ok (.invokevirtual 236, 3) := by decide +kernel
theorem dX4_settledShare_9 : decode cX4_settledShare 9 = .ok (.dreturn, 1) := by decide +kernel
theorem dX4_mix_0 : decode cX4_mix 0 = .ok (.aload_n 0, 1) := by decide +kernel
theorem dX4_mix_1 : decode cX4_mix 1 = .ok (.ldc2_w 240, 3) := by decide +kernel
theorem dX4_mix_4 : decode cX4_mix 4 = .ok (.aload_n 0, 1) := by decide +kernel
theorem dX4_mix_5 : decode cX4_mix 5 = .ok (.getfield 242, 3) := by decide +kernel
theorem dX4_mix_8 : decode cX4_mix 8 = .ok (.lmul, 1) := by decide +kernel
theorem dX4_mix_9 : decode cX4_mix 9 = .ok (.lload_n 1, 1) := by decide +kernel
theorem dX4_mix_10 : decode cX4_mix 10 = .ok (.ladd, 1) := by decide +kernel
theorem dX4_mix_11 : decode cX4_mix 11 = .ok (.putfield 242, 3) := by decide +kernel
theorem dX4_mix_14 : decode cX4_mix 14 = .ok (.return_, 1) := by decide +kernel
theorem dX4_mixPhase_0 : decode cX4_mixPhase 0 = .ok (.iconst 0, 1) := by decide +kernel
theorem dX4_mixPhase_1 : decode cX4_mixPhase 1 = .ok (.istore_n 2, 1) := by decide +kernel
theorem dX4_mixPhase_2 : decode cX4_mixPhase 2 = .ok (.iload_n 2, 1) := by decide +kernel
theorem dX4_mixPhase_3 : decode cX4_mixPhase 3 = .ok (.bipush 14, 2) := by decide +kernel
theorem dX4_mixPhase_5 : decode cX4_mixPhase 5 = .ok (.if_icmp .ge 20, 3) := by decide +kernel
theorem dX4_mixPhase_8 : decode cX4_mixPhase 8 = .ok (.aload_n 0, 1) := by decide +kernel
theorem dX4_mixPhase_9 : decode cX4_mixPhase 9 = .ok (.aload_n 0, 1) := by decide +kernel
theorem dX4_mixPhase_10 : decode cX4_mixPhase 10 = .ok (.iload_n 1, 1) := by decide +kernel
theorem dX4_mixPhase_11 : decode cX4_mixPhase 11 = .ok (.iload_n 2, 1) := by decide +kernel
theorem dX4_mixPhase_12 : decode cX4_mixPhase 12 = .ok (.invokevirtual 194, 3) := by decide +kernel
theorem dX4_mixPhase_15 : decode cX4_mixPhase 15 = .ok (.i2l, 1) := by decide +kernel
theorem dX4_mixPhase_16 : decode cX4_mixPhase 16 = .ok (.invokevirtual 246, 3) := by decide +kernel
theorem dX4_mixPhase_19 : decode cX4_mixPhase 19 = .ok (.iinc 2 1, 3) := by decide +kernel
theorem dX4_mixPhase_22 : decode cX4_mixPhase 22 = .ok (.goto (-20), 3) := by decide +kernel
theorem dX4_mixPhase_25 : decode cX4_mixPhase 25 = .ok (.iconst 0, 1) := by decide +kernel
theorem dX4_mixPhase_26 : decode cX4_mixPhase 26 = .ok (.istore_n 2, 1) := by decide +kernel
theorem dX4_mixPhase_27 : decode cX4_mixPhase 27 = .ok (.iload_n 2, 1) := by decide +kernel
theorem dX4_mixPhase_28 : decode cX4_mixPhase 28 = .ok (.iconst 4, 1) := by decide +kernel
theorem dX4_mixPhase_29 : decode cX4_mixPhase 29 = .ok (.if_icmp .ge 45, 3) := by decide +kernel
theorem dX4_mixPhase_32 : decode cX4_mixPhase 32 = .ok (.iconst 0, 1) := by decide +kernel
theorem dX4_mixPhase_33 : decode cX4_mixPhase 33 = .ok (.istore_n 3, 1) := by decide +kernel
theorem dX4_mixPhase_34 : decode cX4_mixPhase 34 = .ok (.iload_n 3, 1) := by decide +kernel
theorem dX4_mixPhase_35 : decode cX4_mixPhase 35 = .ok (.iconst 5, 1) := by decide +kernel
theorem dX4_mixPhase_36 : decode cX4_mixPhase 36 = .ok (.if_icmp .ge 21, 3) := by decide +kernel
theorem dX4_mixPhase_39 : decode cX4_mixPhase 39 = .ok (.aload_n 0, 1) := by decide +kernel
theorem dX4_mixPhase_40 : decode cX4_mixPhase 40 = .ok (.aload_n 0, 1) := by decide +kernel
theorem dX4_mixPhase_41 : decode cX4_mixPhase 41 = .ok (.iload_n 1, 1) := by decide +kernel
theorem dX4_mixPhase_42 : decode cX4_mixPhase 42 = .ok (.iload_n 2, 1) := by decide +kernel
theorem dX4_mixPhase_43 : decode cX4_mixPhase 43 = .ok (.iload_n 3, 1) := by decide +kernel
theorem dX4_mixPhase_44 : decode cX4_mixPhase 44 = .ok (.invokevirtual 197, 3) := by decide +kernel
theorem dX4_mixPhase_47 : decode cX4_mixPhase 47 = .ok (.i2l, 1) := by decide +kernel
theorem dX4_mixPhase_48 : decode cX4_mixPhase 48 = .ok (.invokevirtual 246, 3) := by decide +kernel
theorem dX4_mixPhase_51 : decode cX4_mixPhase 51 = .ok (.iinc 3 1, 3) := by decide +kernel
theorem dX4_mixPhase_54 : decode cX4_mixPhase 54 = .ok (.goto (-20), 3) := by decide +kernel
theorem dX4_mixPhase_57 : decode cX4_mixPhase 57 = .ok (.aload_n 0, 1) := by decide +kernel
theorem dX4_mixPhase_58 : decode cX4_mixPhase 58 = .ok (.aload_n 0, 1) := by decide +kernel
theorem dX4_mixPhase_59 : decode cX4_mixPhase 59 = .ok (.iload_n 1, 1) := by decide +kernel
theorem dX4_mixPhase_60 : decode cX4_mixPhase 60 = .ok (.iload_n 2, 1) := by decide +kernel
theorem dX4_mixPhase_61 : decode cX4_mixPhase 61 = .ok (.invokevirtual 129, 3) := by decide +kernel
theorem dX4_mixPhase_64 : decode cX4_mixPhase 64 = .ok (.i2l, 1) := by decide +kernel
theorem dX4_mixPhase_65 : decode cX4_mixPhase 65 = .ok (.invokevirtual 246, 3) := by decide +kernel
theorem dX4_mixPhase_68 : decode cX4_mixPhase 68 = .ok (.iinc 2 1, 3) := by decide +kernel
theorem dX4_mixPhase_71 : decode cX4_mixPhase 71 = .ok (.goto (-44), 3) := by decide +kernel
theorem dX4_mixPhase_74 : decode cX4_mixPhase 74 = .ok (.iconst 0, 1) := by decide +kernel
theorem dX4_mixPhase_75 : decode cX4_mixPhase 75 = .ok (.istore_n 2, 1) := by decide +kernel
theorem dX4_mixPhase_76 : decode cX4_mixPhase 76 = .ok (.iload_n 2, 1) := by decide +kernel
theorem dX4_mixPhase_77 : decode cX4_mixPhase 77 = .ok (.bipush 12, 2) := by decide +kernel
theorem dX4_mixPhase_79 : decode cX4_mixPhase 79 = .ok (.if_icmp .ge 25, 3) := by decide +kernel
theorem dX4_mixPhase_82 : decode cX4_mixPhase 82 = .ok (.aload_n 0, 1) := by decide +kernel
theorem dX4_mixPhase_83 : decode cX4_mixPhase 83 = .ok (.aload_n 0, 1) := by decide +kernel
theorem dX4_mixPhase_84 : decode cX4_mixPhase 84 = .ok (.iload_n 1, 1) := by decide +kernel
theorem dX4_mixPhase_85 : decode cX4_mixPhase 85 = .ok (.iload_n 2, 1) := by decide +kernel
theorem dX4_mixPhase_86 : decode cX4_mixPhase 86 = .ok (.iconst 3, 1) := by decide +kernel
theorem dX4_mixPhase_87 : decode cX4_mixPhase 87 = .ok (.idiv, 1) := by decide +kernel
theorem dX4_mixPhase_88 : decode cX4_mixPhase 88 = .ok (.iload_n 2, 1) := by decide +kernel
theorem dX4_mixPhase_89 : decode cX4_mixPhase 89 = .ok (.iconst 3, 1) := by decide +kernel
theorem dX4_mixPhase_90 : decode cX4_mixPhase 90 = .ok (.irem, 1) := by decide +kernel
theorem dX4_mixPhase_91 : decode cX4_mixPhase 91 = .ok (.invokevirtual 200, 3) := by decide +kernel
theorem dX4_mixPhase_94 : decode cX4_mixPhase 94 = .ok (.i2l, 1) := by decide +kernel
theorem dX4_mixPhase_95 : decode cX4_mixPhase 95 = .ok (.invokevirtual 246, 3) := by decide +kernel
theorem dX4_mixPhase_98 : decode cX4_mixPhase 98 = .ok (.iinc 2 1, 3) := by decide +kernel
theorem dX4_mixPhase_101 : decode cX4_mixPhase 101 = .ok (.goto (-25), 3) := by decide +kernel
theorem dX4_mixPhase_104 : decode cX4_mixPhase 104 = .ok (.iconst 0, 1) := by decide +kernel
theorem dX4_mixPhase_105 : decode cX4_mixPhase 105 = .ok (.istore_n 2, 1) := by decide +kernel
theorem dX4_mixPhase_106 : decode cX4_mixPhase 106 = .ok (.iload_n 2, 1) := by decide +kernel
theorem dX4_mixPhase_107 : decode cX4_mixPhase 107 = .ok (.iconst 4, 1) := by decide +kernel
theorem dX4_mixPhase_108 : decode cX4_mixPhase 108 = .ok (.if_icmp .ge 21, 3) := by decide +kernel
theorem dX4_mixPhase_111 : decode cX4_mixPhase 111 = .ok (.aload_n 0, 1) := by decide +kernel
theorem dX4_mixPhase_112 : decode cX4_mixPhase 112 = .ok (.aload_n 0, 1) := by decide +kernel
theorem dX4_mixPhase_113 : decode cX4_mixPhase 113 = .ok (.iload_n 2, 1) := by decide +kernel
theorem dX4_mixPhase_114 : decode cX4_mixPhase 114 = .ok (.iload_n 1, 1) := by decide +kernel
theorem dX4_mixPhase_115 : decode cX4_mixPhase 115 = .ok (.iconst 0, 1) := by decide +kernel
theorem dX4_mixPhase_116 : decode cX4_mixPhase 116 = .ok (.invokevirtual 212, 3) := by decide +kernel
theorem dX4_mixPhase_119 : decode cX4_mixPhase 119 = .ok (.i2l, 1) := by decide +kernel
theorem dX4_mixPhase_120 : decode cX4_mixPhase 120 = .ok (.invokevirtual 246, 3) := by decide +kernel
theorem dX4_mixPhase_123 : decode cX4_mixPhase 123 = .ok (.iinc 2 1, 3) := by decide +kernel
theorem dX4_mixPhase_126 : decode cX4_mixPhase 126 = .ok (.goto (-20), 3) := by decide +kernel
theorem dX4_mixPhase_129 : decode cX4_mixPhase 129 = .ok (.iconst 0, 1) := by decide +kernel
theorem dX4_mixPhase_130 : decode cX4_mixPhase 130 = .ok (.istore_n 2, 1) := by decide +kernel
theorem dX4_mixPhase_131 : decode cX4_mixPhase 131 = .ok (.iload_n 2, 1) := by decide +kernel
theorem dX4_mixPhase_132 : decode cX4_mixPhase 132 = .ok (.iconst 3, 1) := by decide +kernel
theorem dX4_mixPhase_133 : decode cX4_mixPhase 133 = .ok (.if_icmp .ge 20, 3) := by decide +kernel
theorem dX4_mixPhase_136 : decode cX4_mixPhase 136 = .ok (.aload_n 0, 1) := by decide +kernel
theorem dX4_mixPhase_137 : decode cX4_mixPhase 137 = .ok (.aload_n 0, 1) := by decide +kernel
theorem dX4_mixPhase_138 : decode cX4_mixPhase 138 = .ok (.iload_n 1, 1) := by decide +kernel
theorem dX4_mixPhase_139 : decode cX4_mixPhase 139 = .ok (.iload_n 2, 1) := by decide +kernel
theorem dX4_mixPhase_140 : decode cX4_mixPhase 140 = .ok (.invokevirtual 215, 3) := by decide +kernel
theorem dX4_mixPhase_143 : decode cX4_mixPhase 143 = .ok (.i2l, 1) := by decide +kernel
theorem dX4_mixPhase_144 : decode cX4_mixPhase 144 = .ok (.invokevirtual 246, 3) := by decide +kernel
theorem dX4_mixPhase_147 : decode cX4_mixPhase 147 = .ok (.iinc 2 1, 3) := by decide +kernel
theorem dX4_mixPhase_150 : decode cX4_mixPhase 150 = .ok (.goto (-19), 3) := by decide +kernel
theorem dX4_mixPhase_153 : decode cX4_mixPhase 153 = .ok (.aload_n 0, 1) := by decide +kernel
theorem dX4_mixPhase_154 : decode cX4_mixPhase 154 = .ok (.aload_n 0, 1) := by decide +kernel
theorem dX4_mixPhase_155 : decode cX4_mixPhase 155 = .ok (.iload_n 1, 1) := by decide +kernel
theorem dX4_mixPhase_156 : decode cX4_mixPhase 156 = .ok (.invokevirtual 218, 3) := by decide +kernel
theorem dX4_mixPhase_159 : decode cX4_mixPhase 159 = .ok (.i2l, 1) := by decide +kernel
theorem dX4_mixPhase_160 : decode cX4_mixPhase 160 = .ok (.invokevirtual 246, 3) := by decide +kernel
theorem dX4_mixPhase_163 : decode cX4_mixPhase 163 = .ok (.aload_n 0, 1) := by decide +kernel
theorem dX4_mixPhase_164 : decode cX4_mixPhase 164 = .ok (.aload_n 0, 1) := by decide +kernel
theorem dX4_mixPhase_165 : decode cX4_mixPhase 165 = .ok (.iload_n 1, 1) := by decide +kernel
theorem dX4_mixPhase_166 : decode cX4_mixPhase 166 = .ok (.bipush 100, 2) := by decide +kernel
theorem dX4_mixPhase_168 : decode cX4_mixPhase 168 = .ok (.invokevirtual 233, 3) := by decide +kernel
theorem dX4_mixPhase_171 : decode cX4_mixPhase 171 = .ok (.i2l, 1) := by decide +kernel
theorem dX4_mixPhase_172 : decode cX4_mixPhase 172 = .ok (.invokevirtual 246, 3) := by decide +kernel
theorem dX4_mixPhase_175 : decode cX4_mixPhase 175 = .ok (.return_, 1) := by decide +kernel
theorem dX4_digest_0 : decode cX4_digest 0 = .ok (.aload_n 0, 1) := by decide +kernel
theorem dX4_digest_1 : decode cX4_digest 1 = .ok (.iconst 0, 1) := by decide +kernel
theorem dX4_digest_2 : decode cX4_digest 2 = .ok (.putfield 25, 3) := by decide +kernel
theorem dX4_digest_5 : decode cX4_digest 5 = .ok (.aload_n 0, 1) := by decide +kernel
theorem dX4_digest_6 : decode cX4_digest 6 = .ok (.ldc2_w 250, 3) := by decide +kernel
theorem dX4_digest_9 : decode cX4_digest 9 = .ok (.putfield 242, 3) := by decide +kernel
theorem dX4_digest_12 : decode cX4_digest 12 = .ok (.iconst 0, 1) := by decide +kernel
theorem dX4_digest_13 : decode cX4_digest 13 = .ok (.istore_n 1, 1) := by decide +kernel
theorem dX4_digest_14 : decode cX4_digest 14 = .ok (.iload_n 1, 1) := by decide +kernel
theorem dX4_digest_15 : decode cX4_digest 15 = .ok (.bipush 16, 2) := by decide +kernel
theorem dX4_digest_17 : decode cX4_digest 17 = .ok (.if_icmp .ge 19, 3) := by decide +kernel
theorem dX4_digest_20 : decode cX4_digest 20 = .ok (.aload_n 0, 1) := by decide +kernel
theorem dX4_digest_21 : decode cX4_digest 21 = .ok (.aload_n 0, 1) := by decide +kernel
theorem dX4_digest_22 : decode cX4_digest 22 = .ok (.iload_n 1, 1) := by decide +kernel
theorem dX4_digest_23 : decode cX4_digest 23 = .ok (.invokevirtual 209, 3) := by decide +kernel
theorem dX4_digest_26 : decode cX4_digest 26 = .ok (.i2l, 1) := by decide +kernel
theorem dX4_digest_27 : decode cX4_digest 27 = .ok (.invokevirtual 246, 3) := by decide +kernel
theorem dX4_digest_30 : decode cX4_digest 30 = .ok (.iinc 1 1, 3) := by decide +kernel
theorem dX4_digest_33 : decode cX4_digest 33 = .ok (.goto (-19), 3) := by decide +kernel
theorem dX4_digest_36 : decode cX4_digest 36 = .ok (.iconst 0, 1) := by decide +kernel
theorem dX4_digest_37 : decode cX4_digest 37 = .ok (.istore_n 1, 1) := by decide +kernel
theorem dX4_digest_38 : decode cX4_digest 38 = .ok (.iload_n 1, 1) := by decide +kernel
theorem dX4_digest_39 : decode cX4_digest 39 = .ok (.iconst 4, 1) := by decide +kernel
theorem dX4_digest_40 : decode cX4_digest 40 = .ok (.if_icmp .ge 20, 3) := by decide +kernel
theorem dX4_digest_43 : decode cX4_digest 43 = .ok (.aload_n 0, 1) := by decide +kernel
theorem dX4_digest_44 : decode cX4_digest 44 = .ok (.aload_n 0, 1) := by decide +kernel
theorem dX4_digest_45 : decode cX4_digest 45 = .ok (.getfield 7, 3) := by decide +kernel
theorem dX4_digest_48 : decode cX4_digest 48 = .ok (.iload_n 1, 1) := by decide +kernel
theorem dX4_digest_49 : decode cX4_digest 49 = .ok (.iaload, 1) := by decide +kernel
theorem dX4_digest_50 : decode cX4_digest 50 = .ok (.i2l, 1) := by decide +kernel
theorem dX4_digest_51 : decode cX4_digest 51 = .ok (.invokevirtual 246, 3) := by decide +kernel
theorem dX4_digest_54 : decode cX4_digest 54 = .ok (.iinc 1 1, 3) := by decide +kernel
theorem dX4_digest_57 : decode cX4_digest 57 = .ok (.goto (-19), 3) := by decide +kernel
theorem dX4_digest_60 : decode cX4_digest 60 = .ok (.iconst 0, 1) := by decide +kernel
theorem dX4_digest_61 : decode cX4_digest 61 = .ok (.istore_n 1, 1) := by decide +kernel
theorem dX4_digest_62 : decode cX4_digest 62 = .ok (.iload_n 1, 1) := by decide +kernel
theorem dX4_digest_63 : decode cX4_digest 63 = .ok (.aload_n 0, 1) := by decide +kernel
theorem dX4_digest_64 : decode cX4_digest 64 = .ok (.getfield 7, 3) := by decide +kernel
theorem dX4_digest_67 : decode cX4_digest 67 = .ok (.bipush 9, 2) := by decide +kernel
theorem dX4_digest_69 : decode cX4_digest 69 = .ok (.iaload, 1) := by decide +kernel
theorem dX4_digest_70 : decode cX4_digest 70 = .ok (.if_icmp .ge 14, 3) := by decide +kernel
theorem dX4_digest_73 : decode cX4_digest 73 = .ok (.aload_n 0, 1) := by decide +kernel
theorem dX4_digest_74 : decode cX4_digest 74 = .ok (.iload_n 1, 1) := by decide +kernel
theorem dX4_digest_75 : decode cX4_digest 75 = .ok (.invokevirtual 252, 3) := by decide +kernel
theorem dX4_digest_78 : decode cX4_digest 78 = .ok (.iinc 1 1, 3) := by decide +kernel
theorem dX4_digest_81 : decode cX4_digest 81 = .ok (.goto (-19), 3) := by decide +kernel
theorem dX4_digest_84 : decode cX4_digest 84 = .ok (.aload_n 0, 1) := by decide +kernel
theorem dX4_digest_85 : decode cX4_digest 85 = .ok (.aload_n 0, 1) := by decide +kernel
theorem dX4_digest_86 : decode cX4_digest 86 = .ok (.sipush 200, 3) := by decide +kernel
theorem dX4_digest_89 : decode cX4_digest 89 = .ok (.invokevirtual 227, 3) := by decide +kernel
theorem dX4_digest_92 : decode cX4_digest 92 = .ok (.i2l, 1) := by decide +kernel
theorem dX4_digest_93 : decode cX4_digest 93 = .ok (.invokevirtual 246, 3) := by decide +kernel
theorem dX4_digest_96 : decode cX4_digest 96 = .ok (.aload_n 0, 1) := by decide +kernel
theorem dX4_digest_97 : decode cX4_digest 97 = .ok (.aload_n 0, 1) := by decide +kernel
theorem dX4_digest_98 : decode cX4_digest 98 = .ok (.invokevirtual 230, 3) := by decide +kernel
theorem dX4_digest_101 : decode cX4_digest 101 = .ok (.i2l, 1) := by decide +kernel
theorem dX4_digest_102 : decode cX4_digest 102 = .ok (.invokevirtual 246, 3) := by decide +kernel
theorem dX4_digest_105 : decode cX4_digest 105 = .ok (.aload_n 0, 1) := by decide +kernel
theorem dX4_digest_106 : decode cX4_digest 106 = .ok (.aload_n 0, 1) := by decide +kernel
theorem dX4_digest_107 : decode cX4_digest 107 = .ok (.invokevirtual 236, 3) := by decide +kernel
theorem dX4_digest_110 : decode cX4_digest 110 = .ok (.invokestatic 256, 3) := by decide +kernel
theorem dX4_digest_113 : decode cX4_digest 113 = .ok (.invokevirtual 246, 3) := by decide +kernel
theorem dX4_digest_116 : decode cX4_digest 116 = .ok (.aload_n 0, 1) := by decide +kernel
theorem dX4_digest_117 : decode cX4_digest 117 = .ok (.aload_n 0, 1) := by decide +kernel
theorem dX4_digest_118 : decode cX4_digest 118 = .ok (.getfield 148, 3) := by decide +kernel
theorem dX4_digest_121 : decode cX4_digest 121 = .ok (.i2l, 1) := by decide +kernel
theorem dX4_digest_122 : decode cX4_digest 122 = .ok (.invokevirtual 246, 3) := by decide +kernel
theorem dX4_digest_125 : decode cX4_digest 125 = .ok (.iconst 0, 1) := by decide +kernel
theorem dX4_digest_126 : decode cX4_digest 126 = .ok (.istore_n 1, 1) := by decide +kernel
theorem dX4_digest_127 : decode cX4_digest 127 = .ok (.iload_n 1, 1) := by decide +kernel
theorem dX4_digest_128 : decode cX4_digest 128 = .ok (.aload_n 0, 1) := by decide +kernel
theorem dX4_digest_129 : decode cX4_digest 129 = .ok (.getfield 148, 3) := by decide +kernel
theorem dX4_digest_132 : decode cX4_digest 132 = .ok (.if_icmp .ge 20, 3) := by decide +kernel
theorem dX4_digest_135 : decode cX4_digest 135 = .ok (.aload_n 0, 1) := by decide +kernel
theorem dX4_digest_136 : decode cX4_digest 136 = .ok (.aload_n 0, 1) := by decide +kernel
theorem dX4_digest_137 : decode cX4_digest 137 = .ok (.getfield 16, 3) := by decide +kernel
theorem dX4_digest_140 : decode cX4_digest 140 = .ok (.iload_n 1, 1) := by decide +kernel
theorem dX4_digest_141 : decode cX4_digest 141 = .ok (.iaload, 1) := by decide +kernel
theorem dX4_digest_142 : decode cX4_digest 142 = .ok (.i2l, 1) := by decide +kernel
theorem dX4_digest_143 : decode cX4_digest 143 = .ok (.invokevirtual 246, 3) := by decide +kernel
theorem dX4_digest_146 : decode cX4_digest 146 = .ok (.iinc 1 1, 3) := by decide +kernel
theorem dX4_digest_149 : decode cX4_digest 149 = .ok (.goto (-22), 3) := by decide +kernel
theorem dX4_digest_152 : decode cX4_digest 152 = .ok (.aload_n 0, 1) := by decide +kernel
theorem dX4_digest_153 : decode cX4_digest 153 = .ok (.getfield 242, 3) := by decide +kernel
theorem dX4_digest_156 : decode cX4_digest 156 = .ok (.lreturn, 1) := by decide +kernel
