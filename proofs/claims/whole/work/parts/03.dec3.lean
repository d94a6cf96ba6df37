theorem dX3_init_0 : decode cX3_init 0 = .ok (.aload_n 0, 1) := by decide +kernel
theorem dX3_init_1 : decode cX3_init 1 = .ok (.invokespecial 1, 3) := by decide +kernel
theorem dX3_init_4 : decode cX3_init 4 = .ok (.aload_n 0, 1) := by decide +kernel
theorem dX3_init_5 : decode cX3_init 5 = .ok (.new 7, 3) := by decide +kernel
theorem dX3_init_8 : decode cX3_init 8 = .ok (.dup, 1) := by decide +kernel
theorem dX3_init_9 : decode cX3_init 9 = .ok (.invokespecial 9, 3) := by decide +kernel
theorem dX3_init_12 : decode cX3_init 12 = .ok (.putfield 10, 3) := by decide +kernel
theorem dX3_init_15 : decode cX3_init 15 = .ok (.aload_n 0, 1) := by decide +kernel
theorem dX3_init_16 : decode cX3_init 16 = .ok (.bipush 6, 2) := by decide +kernel
theorem dX3_init_18 : decode cX3_init 18 = .ok (.anewarray 7, 3) := by decide +kernel
theorem dX3_init_21 : decode cX3_init 21 = .ok (.putfield 16, 3) := by decide +kernel
theorem dX3_init_24 : decode cX3_init 24 = .ok (.iconst 0, 1) := by decide +kernel
theorem dX3_init_25 : decode cX3_init 25 = .ok (.istore_n 1, 1) := by decide +kernel
theorem dX3_init_26 : decode cX3_init 26 = .ok (.iload_n 1, 1) := by decide +kernel
theorem dX3_init_27 : decode cX3_init 27 = .ok (.bipush 6, 2) := by decide +kernel
theorem dX3_init_29 : decode cX3_init 29 = .ok (.if_icmp .ge 22, 3) := by decide +kernel
theorem dX3_init_32 : decode cX3_init 32 = .ok (.aload_n 0, 1) := by decide +kernel
theorem dX3_init_33 : decode cX3_init 33 = .ok (.getfield 16, 3) := by decide +kernel
theorem dX3_init_36 : decode cX3_init 36 = .ok (.iload_n 1, 1) := by decide +kernel
theorem dX3_init_37 : decode cX3_init 37 = .ok (.new 7, 3) := by decide +kernel
theorem dX3_init_40 : decode cX3_init 40 = .ok (.dup, 1) := by decide +kernel
theorem dX3_init_41 : decode cX3_init 41 = .ok (.invokespecial 9, 3) := by decide +kernel
theorem dX3_init_44 : decode cX3_init 44 = .ok (.aastore, 1) := by decide +kernel
theorem dX3_init_45 : decode cX3_init 45 = .ok (.iinc 1 1, 3) := by decide +kernel
theorem dX3_init_48 : decode cX3_init 48 = .ok (.goto (-22), 3) := by decide +kernel
theorem dX3_init_51 : decode cX3_init 51 = .ok (.aload_n 0, 1) := by decide +kernel
theorem dX3_init_52 : decode cX3_init 52 = .ok (.iconst 0, 1) := by decide +kernel
theorem dX3_init_53 : decode cX3_init 53 = .ok (.putfield 20, 3) := by decide +kernel
theorem dX3_init_56 : decode cX3_init 56 = .ok (.aload_n 0, 1) := by decide +kernel
theorem dX3_init_57 : decode cX3_init 57 = .ok (.iconst 0, 1) := by decide +kernel
theorem dX3_init_58 : decode cX3_init 58 = .ok (.putfield 24, 3) := by decide +kernel
theorem dX3_init_61 : decode cX3_init 61 = .ok (.aload_n 0, 1) := by decide +kernel
theorem dX3_init_62 : decode cX3_init 62 = .ok (.new 27, 3) := by decide +kernel
theorem dX3_init_65 : decode cX3_init 65 = .ok (.dup, 1) := by decide +kernel
theorem dX3_init_66 : decode cX3_init 66 = .ok (.invokespecial 29, 3) := by decide +kernel
theorem dX3_init_69 : decode cX3_init 69 = .ok (.putfield 30, 3) := by decide +kernel
theorem dX3_init_72 : decode cX3_init 72 = .ok (.return_, 1) := by decide +kernel
theorem dX3_addPhase_0 : decode cX3_addPhase 0 = .ok (.aload_n 0, 1) := by decide +kernel
theorem dX3_addPhase_1 : decode cX3_addPhase 1 = .ok (.getfield 10, 3) := by decide +kernel
theorem dX3_addPhase_4 : decode cX3_addPhase 4 = .ok (.getfield 34, 3) := by decide +kernel
theorem dX3_addPhase_7 : decode cX3_addPhase 7 = .ok (.bipush 6, 2) := by decide +kernel
theorem dX3_addPhase_9 : decode cX3_addPhase 9 = .ok (.if_icmp .lt 13, 3) := by decide +kernel
theorem dX3_addPhase_12 : decode cX3_addPhase 12 = .ok (.new 37, 3) := by decide +kernel
theorem dX3_addPhase_15 : decode cX3_addPhase 15 = .ok (.dup, 1) := by decide +kernel
theorem dX3_addPhase_16 : decode cX3_addPhase 16 = .ok (.ldc 39, 2) := by decide +kernel
theorem dX3_addPhase_18 : decode cX3_addPhase 18 = .ok (.invokespecial 41, 3) := by decide +kernel
theorem dX3_addPhase_21 : decode cX3_addPhase 21 = .ok (.athrow, 1) := by decide +kernel
theorem dX3_addPhase_22 : decode cX3_addPhase 22 = .ok (.aload_n 0, 1) := by decide +kernel
theorem dX3_addPhase_23 : decode cX3_addPhase 23 = .ok (.invokevirtual 44, 3) := by decide +kernel
theorem dX3_addPhase_26 : decode cX3_addPhase 26 = .ok (.aload_n 0, 1) := by decide +kernel
theorem dX3_addPhase_27 : decode cX3_addPhase 27 = .ok (.getfield 10, 3) := by decide +kernel
theorem dX3_addPhase_30 : decode cX3_addPhase 30 = .ok (.invokevirtual 47, 3) := by decide +kernel
theorem dX3_addPhase_33 : decode cX3_addPhase 33 = .ok (.ireturn, 1) := by decide +kernel
theorem dX3_area_0 : decode cX3_area 0 = .ok (.aload_n 0, 1) := by decide +kernel
theorem dX3_area_1 : decode cX3_area 1 = .ok (.iload_n 1, 1) := by decide +kernel
theorem dX3_area_2 : decode cX3_area 2 = .ok (.invokevirtual 51, 3) := by decide +kernel
theorem dX3_area_5 : decode cX3_area 5 = .ok (.iload_n 2, 1) := by decide +kernel
theorem dX3_area_6 : decode cX3_area 6 = .ok (.invokestatic 55, 3) := by decide +kernel
theorem dX3_area_9 : decode cX3_area 9 = .ok (.iload_n 3, 1) := by decide +kernel
theorem dX3_area_10 : decode cX3_area 10 = .ok (.iconst 0, 1) := by decide +kernel
theorem dX3_area_11 : decode cX3_area 11 = .ok (.sipush 999, 3) := by decide +kernel
theorem dX3_area_14 : decode cX3_area 14 = .ok (.invokestatic 58, 3) := by decide +kernel
theorem dX3_area_17 : decode cX3_area 17 = .ok (.aload_n 0, 1) := by decide +kernel
theorem dX3_area_18 : decode cX3_area 18 = .ok (.iconst 0, 1) := by decide +kernel
theorem dX3_area_19 : decode cX3_area 19 = .ok (.iload_n 1, 1) := by decide +kernel
theorem dX3_area_20 : decode cX3_area 20 = .ok (.iload_n 2, 1) := by decide +kernel
theorem dX3_area_21 : decode cX3_area 21 = .ok (.invokevirtual 62, 3) := by decide +kernel
theorem dX3_area_24 : decode cX3_area 24 = .ok (.aload_n 0, 1) := by decide +kernel
theorem dX3_area_25 : decode cX3_area 25 = .ok (.invokevirtual 44, 3) := by decide +kernel
theorem dX3_area_28 : decode cX3_area 28 = .ok (.aload_n 0, 1) := by decide +kernel
theorem dX3_area_29 : decode cX3_area 29 = .ok (.getfield 10, 3) := by decide +kernel
theorem dX3_area_32 : decode cX3_area 32 = .ok (.getfield 65, 3) := by decide +kernel
theorem dX3_area_35 : decode cX3_area 35 = .ok (.iload_n 1, 1) := by decide +kernel
theorem dX3_area_36 : decode cX3_area 36 = .ok (.aaload, 1) := by decide +kernel
theorem dX3_area_37 : decode cX3_area 37 = .ok (.iload_n 2, 1) := by decide +kernel
theorem dX3_area_38 : decode cX3_area 38 = .ok (.iload_n 3, 1) := by decide +kernel
theorem dX3_area_39 : decode cX3_area 39 = .ok (.invokevirtual 69, 3) := by decide +kernel
theorem dX3_area_42 : decode cX3_area 42 = .ok (.ireturn, 1) := by decide +kernel
theorem dX3_exempt_0 : decode cX3_exempt 0 = .ok (.aload_n 0, 1) := by decide +kernel
theorem dX3_exempt_1 : decode cX3_exempt 1 = .ok (.iload_n 1, 1) := by decide +kernel
theorem dX3_exempt_2 : decode cX3_exempt 2 = .ok (.invokevirtual 51, 3) := by decide +kernel
theorem dX3_exempt_5 : decode cX3_exempt 5 = .ok (.iload_n 2, 1) := by decide +kernel
theorem dX3_exempt_6 : decode cX3_exempt 6 = .ok (.invokestatic 55, 3) := by decide +kernel
theorem dX3_exempt_9 : decode cX3_exempt 9 = .ok (.iload_n 3, 1) := by decide +kernel
theorem dX3_exempt_10 : decode cX3_exempt 10 = .ok (.iconst 0, 1) := by decide +kernel
theorem dX3_exempt_11 : decode cX3_exempt 11 = .ok (.aload_n 0, 1) := by decide +kernel
theorem dX3_exempt_12 : decode cX3_exempt 12 = .ok (.getfield 10, 3) := by decide +kernel
theorem dX3_exempt_15 : decode cX3_exempt 15 = .ok (.getfield 65, 3) := by decide +kernel
theorem dX3_exempt_18 : decode cX3_exempt 18 = .ok (.iload_n 1, 1) := by decide +kernel
theorem dX3_exempt_19 : decode cX3_exempt 19 = .ok (.aaload, 1) := by decide +kernel
theorem dX3_exempt_20 : decode cX3_exempt 20 = .ok (.getfield 75, 3) := by decide +kernel
theorem dX3_exempt_23 : decode cX3_exempt 23 = .ok (.iload_n 2, 1) := by decide +kernel
theorem dX3_exempt_24 : decode cX3_exempt 24 = .ok (.iaload, 1) := by decide +kernel
theorem dX3_exempt_25 : decode cX3_exempt 25 = .ok (.invokestatic 58, 3) := by decide +kernel
theorem dX3_exempt_28 : decode cX3_exempt 28 = .ok (.aload_n 0, 1) := by decide +kernel
theorem dX3_exempt_29 : decode cX3_exempt 29 = .ok (.iconst 0, 1) := by decide +kernel
theorem dX3_exempt_30 : decode cX3_exempt 30 = .ok (.iload_n 1, 1) := by decide +kernel
theorem dX3_exempt_31 : decode cX3_exempt 31 = .ok (.iload_n 2, 1) := by decide +kernel
theorem dX3_exempt_32 : decode cX3_exempt 32 = .ok (.invokevirtual 62, 3) := by decide +kernel
theorem dX3_exempt_35 : decode cX3_exempt 35 = .ok (.aload_n 0, 1) := by decide +kernel
theorem dX3_exempt_36 : decode cX3_exempt 36 = .ok (.invokevirtual 44, 3) := by decide +kernel
theorem dX3_exempt_39 : decode cX3_exempt 39 = .ok (.aload_n 0, 1) := by decide +kernel
theorem dX3_exempt_40 : decode cX3_exempt 40 = .ok (.getfield 10, 3) := by decide +kernel
theorem dX3_exempt_43 : decode cX3_exempt 43 = .ok (.getfield 65, 3) := by decide +kernel
theorem dX3_exempt_46 : decode cX3_exempt 46 = .ok (.iload_n 1, 1) := by decide +kernel
theorem dX3_exempt_47 : decode cX3_exempt 47 = .ok (.aaload, 1) := by decide +kernel
theorem dX3_exempt_48 : decode cX3_exempt 48 = .ok (.iload_n 2, 1) := by decide +kernel
theorem dX3_exempt_49 : decode cX3_exempt 49 = .ok (.iload_n 3, 1) := by decide +kernel
theorem dX3_exempt_50 : decode cX3_exempt 50 = .ok (.invokevirtual 79, 3) := by decide +kernel
theorem dX3_exempt_53 : decode cX3_exempt 53 = .ok (.ireturn, 1) := by decide +kernel
theorem dX3_rate_0 : decode cX3_rate 0 = .ok (.iload_n 1, 1) := by decide +kernel
theorem dX3_rate_1 : decode cX3_rate 1 = .ok (.invokestatic 55, 3) := by decide +kernel
theorem dX3_rate_4 : decode cX3_rate 4 = .ok (.iload_n 2, 1) := by decide +kernel
theorem dX3_rate_5 : decode cX3_rate 5 = .ok (.iconst 0, 1) := by decide +kernel
theorem dX3_rate_6 : decode cX3_rate 6 = .ok (.sipush 999, 3) := by decide +kernel
theorem dX3_rate_9 : decode cX3_rate 9 = .ok (.invokestatic 58, 3) := by decide +kernel
theorem dX3_rate_12 : decode cX3_rate 12 = .ok (.aload_n 0, 1) := by decide +kernel
theorem dX3_rate_13 : decode cX3_rate 13 = .ok (.invokevirtual 44, 3) := by decide +kernel
theorem dX3_rate_16 : decode cX3_rate 16 = .ok (.aload_n 0, 1) := by decide +kernel
theorem dX3_rate_17 : decode cX3_rate 17 = .ok (.getfield 10, 3) := by decide +kernel
theorem dX3_rate_20 : decode cX3_rate 20 = .ok (.iload_n 1, 1) := by decide +kernel
theorem dX3_rate_21 : decode cX3_rate 21 = .ok (.iload_n 2, 1) := by decide +kernel
theorem dX3_rate_22 : decode cX3_rate 22 = .ok (.invokevirtual 82, 3) := by decide +kernel
theorem dX3_rate_25 : decode cX3_rate 25 = .ok (.ireturn, 1) := by decide +kernel
theorem dX3_set_0 : decode cX3_set 0 = .ok (.iload_n 1, 1) := by decide +kernel
theorem dX3_set_1 : decode cX3_set 1 = .ok (.invokestatic 85, 3) := by decide +kernel
theorem dX3_set_4 : decode cX3_set 4 = .ok (.iload_n 2, 1) := by decide +kernel
theorem dX3_set_5 : decode cX3_set 5 = .ok (.getstatic 88, 3) := by decide +kernel
theorem dX3_set_8 : decode cX3_set 8 = .ok (.iload_n 1, 1) := by decide +kernel
theorem dX3_set_9 : decode cX3_set 9 = .ok (.iaload, 1) := by decide +kernel
theorem dX3_set_10 : decode cX3_set 10 = .ok (.getstatic 91, 3) := by decide +kernel
theorem dX3_set_13 : decode cX3_set 13 = .ok (.iload_n 1, 1) := by decide +kernel
theorem dX3_set_14 : decode cX3_set 14 = .ok (.iaload, 1) := by decide +kernel
theorem dX3_set_15 : decode cX3_set 15 = .ok (.invokestatic 58, 3) := by decide +kernel
theorem dX3_set_18 : decode cX3_set 18 = .ok (.aload_n 0, 1) := by decide +kernel
theorem dX3_set_19 : decode cX3_set 19 = .ok (.invokevirtual 44, 3) := by decide +kernel
theorem dX3_set_22 : decode cX3_set 22 = .ok (.aload_n 0, 1) := by decide +kernel
theorem dX3_set_23 : decode cX3_set 23 = .ok (.getfield 10, 3) := by decide +kernel
theorem dX3_set_26 : decode cX3_set 26 = .ok (.getfield 94, 3) := by decide +kernel
theorem dX3_set_29 : decode cX3_set 29 = .ok (.iload_n 1, 1) := by decide +kernel
theorem dX3_set_30 : decode cX3_set 30 = .ok (.iaload, 1) := by decide +kernel
theorem dX3_set_31 : decode cX3_set 31 = .ok (.istore_n 3, 1) := by decide +kernel
theorem dX3_set_32 : decode cX3_set 32 = .ok (.aload_n 0, 1) := by decide +kernel
theorem dX3_set_33 : decode cX3_set 33 = .ok (.getfield 10, 3) := by decide +kernel
theorem dX3_set_36 : decode cX3_set 36 = .ok (.getfield 94, 3) := by decide +kernel
theorem dX3_set_39 : decode cX3_set 39 = .ok (.iload_n 1, 1) := by decide +kernel
theorem dX3_set_40 : decode cX3_set 40 = .ok (.iload_n 2, 1) := by decide +kernel
theorem dX3_set_41 : decode cX3_set 41 = .ok (.iastore, 1) := by decide +kernel
theorem dX3_set_42 : decode cX3_set 42 = .ok (.iload_n 3, 1) := by decide +kernel
theorem dX3_set_43 : decode cX3_set 43 = .ok (.ireturn, 1) := by decide +kernel
theorem dX3_begin_0 : decode cX3_begin 0 = .ok (.aload_n 0, 1) := by decide +kernel
theorem dX3_begin_1 : decode cX3_begin 1 = .ok (.iload_n 1, 1) := by decide +kernel
theorem dX3_begin_2 : decode cX3_begin 2 = .ok (.invokevirtual 51, 3) := by decide +kernel
theorem dX3_begin_5 : decode cX3_begin 5 = .ok (.aload_n 0, 1) := by decide +kernel
theorem dX3_begin_6 : decode cX3_begin 6 = .ok (.iconst 1, 1) := by decide +kernel
theorem dX3_begin_7 : decode cX3_begin 7 = .ok (.iload_n 1, 1) := by decide +kernel
theorem dX3_begin_8 : decode cX3_begin 8 = .ok (.iconst 0, 1) := by decide +kernel
theorem dX3_begin_9 : decode cX3_begin 9 = .ok (.invokevirtual 62, 3) := by decide +kernel
theorem dX3_begin_12 : decode cX3_begin 12 = .ok (.aload_n 0, 1) := by decide +kernel
theorem dX3_begin_13 : decode cX3_begin 13 = .ok (.invokevirtual 44, 3) := by decide +kernel
theorem dX3_begin_16 : decode cX3_begin 16 = .ok (.aload_n 0, 1) := by decide +kernel
theorem dX3_begin_17 : decode cX3_begin 17 = .ok (.getfield 10, 3) := by decide +kernel
theorem dX3_begin_20 : decode cX3_begin 20 = .ok (.iload_n 1, 1) := by decide +kernel
theorem dX3_begin_21 : decode cX3_begin 21 = .ok (.invokevirtual 97, 3) := by decide +kernel
theorem dX3_begin_24 : decode cX3_begin 24 = .ok (.ireturn, 1) := by decide +kernel
theorem dX3_pay_0 : decode cX3_pay 0 = .ok (.aload_n 0, 1) := by decide +kernel
theorem dX3_pay_1 : decode cX3_pay 1 = .ok (.iload_n 1, 1) := by decide +kernel
theorem dX3_pay_2 : decode cX3_pay 2 = .ok (.invokevirtual 51, 3) := by decide +kernel
theorem dX3_pay_5 : decode cX3_pay 5 = .ok (.iload_n 2, 1) := by decide +kernel
theorem dX3_pay_6 : decode cX3_pay 6 = .ok (.iconst 1, 1) := by decide +kernel
theorem dX3_pay_7 : decode cX3_pay 7 = .ok (.ldc 101, 2) := by decide +kernel
theorem dX3_pay_9 : decode cX3_pay 9 = .ok (.invokestatic 58, 3) := by decide +kernel
theorem dX3_pay_12 : decode cX3_pay 12 = .ok (.aload_n 0, 1) := by decide +kernel
theorem dX3_pay_13 : decode cX3_pay 13 = .ok (.iconst 2, 1) := by decide +kernel
theorem dX3_pay_14 : decode cX3_pay 14 = .ok (.iload_n 1, 1) := by decide +kernel
theorem dX3_pay_15 : decode cX3_pay 15 = .ok (.iconst 0, 1) := by decide +kernel
theorem dX3_pay_16 : decode cX3_pay 16 = .ok (.invokevirtual 62, 3) := by decide +kernel
theorem dX3_pay_19 : decode cX3_pay 19 = .ok (.aload_n 0, 1) := by decide +kernel
theorem dX3_pay_20 : decode cX3_pay 20 = .ok (.invokevirtual 44, 3) := by decide +kernel
theorem dX3_pay_23 : decode cX3_pay 23 = .ok (.aload_n 0, 1) := by decide +kernel
theorem dX3_pay_24 : decode cX3_pay 24 = .ok (.getfield 10, 3) := by decide +kernel
theorem dX3_pay_27 : decode cX3_pay 27 = .ok (.getfield 65, 3) := by decide +kernel
theorem dX3_pay_30 : decode cX3_pay 30 = .ok (.iload_n 1, 1) := by decide +kernel
theorem dX3_pay_31 : decode cX3_pay 31 = .ok (.aaload, 1) := by decide +kernel
theorem dX3_pay_32 : decode cX3_pay 32 = .ok (.iload_n 2, 1) := by decide +kernel
theorem dX3_pay_33 : decode cX3_pay 33 = .ok (.invokevirtual 102, 3) := by decide +kernel
theorem dX3_pay_36 : decode cX3_pay 36 = .ok (.ireturn, 1) := by decide +kernel
theorem dX3_land_0 : decode cX3_land 0 = .ok (.aload_n 0, 1) := by decide +kernel
theorem dX3_land_1 : decode cX3_land 1 = .ok (.iload_n 1, 1) := by decide +kernel
theorem dX3_land_2 : decode cX3_land 2 = .ok (.invokevirtual 51, 3) := by decide +kernel
theorem dX3_land_5 : decode cX3_land 5 = .ok (.iload_n 2, 1) := by decide +kernel
theorem dX3_land_6 : decode cX3_land 6 = .ok (.iconst 1, 1) := by decide +kernel
theorem dX3_land_7 : decode cX3_land 7 = .ok (.ldc 101, 2) := by decide +kernel
theorem dX3_land_9 : decode cX3_land 9 = .ok (.invokestatic 58, 3) := by decide +kernel
theorem dX3_land_12 : decode cX3_land 12 = .ok (.aload_n 0, 1) := by decide +kernel
theorem dX3_land_13 : decode cX3_land 13 = .ok (.iconst 3, 1) := by decide +kernel
theorem dX3_land_14 : decode cX3_land 14 = .ok (.iload_n 1, 1) := by decide +kernel
theorem dX3_land_15 : decode cX3_land 15 = .ok (.iconst 0, 1) := by decide +kernel
theorem dX3_land_16 : decode cX3_land 16 = .ok (.invokevirtual 62, 3) := by decide +kernel
theorem dX3_land_19 : decode cX3_land 19 = .ok (.aload_n 0, 1) := by decide +kernel
theorem dX3_land_20 : decode cX3_land 20 = .ok (.invokevirtual 44, 3) := by decide +kernel
theorem dX3_land_23 : decode cX3_land 23 = .ok (.aload_n 0, 1) := by decide +kernel
theorem dX3_land_24 : decode cX3_land 24 = .ok (.getfield 10, 3) := by decide +kernel
theorem dX3_land_27 : decode cX3_land 27 = .ok (.getfield 65, 3) := by decide +kernel
theorem dX3_land_30 : decode cX3_land 30 = .ok (.iload_n 1, 1) := by decide +kernel
theorem dX3_land_31 : decode cX3_land 31 = .ok (.aaload, 1) := by decide +kernel
theorem dX3_land_32 : decode cX3_land 32 = .ok (.iload_n 2, 1) := by decide +kernel
theorem dX3_land_33 : decode cX3_land 33 = .ok (.aload_n 0, 1) := by decide +kernel
theorem dX3_land_34 : decode cX3_land 34 = .ok (.getfield 10, 3) := by decide +kernel
theorem dX3_land_37 : decode cX3_land 37 = .ok (.getfield 94, 3) := by decide +kernel
theorem dX3_land_40 : decode cX3_land 40 = .ok (.iconst 3, 1) := by decide +kernel
theorem dX3_land_41 : decode cX3_land 41 = .ok (.iaload, 1) := by decide +kernel
theorem dX3_land_42 : decode cX3_land 42 = .ok (.invokevirtual 105, 3) := by decide +kernel
theorem dX3_land_45 : decode cX3_land 45 = .ok (.ireturn, 1) := by decide +kernel
theorem dX3_lapse_0 : decode cX3_lapse 0 = .ok (.aload_n 0, 1) := by decide +kernel
theorem dX3_lapse_1 : decode cX3_lapse 1 = .ok (.iload_n 1, 1) := by decide +kernel
theorem dX3_lapse_2 : decode cX3_lapse 2 = .ok (.invokevirtual 51, 3) := by decide +kernel
theorem dX3_lapse_5 : decode cX3_lapse 5 = .ok (.iload_n 2, 1) := by decide +kernel
theorem dX3_lapse_6 : decode cX3_lapse 6 = .ok (.invokestatic 55, 3) := by decide +kernel
theorem dX3_lapse_9 : decode cX3_lapse 9 = .ok (.aload_n 0, 1) := by decide +kernel
theorem dX3_lapse_10 : decode cX3_lapse 10 = .ok (.iconst 4, 1) := by decide +kernel
theorem dX3_lapse_11 : decode cX3_lapse 11 = .ok (.iload_n 1, 1) := by decide +kernel
theorem dX3_lapse_12 : decode cX3_lapse 12 = .ok (.iload_n 2, 1) := by decide +kernel
theorem dX3_lapse_13 : decode cX3_lapse 13 = .ok (.invokevirtual 62, 3) := by decide +kernel
theorem dX3_lapse_16 : decode cX3_lapse 16 = .ok (.aload_n 0, 1) := by decide +kernel
theorem dX3_lapse_17 : decode cX3_lapse 17 = .ok (.invokevirtual 44, 3) := by decide +kernel
theorem dX3_lapse_20 : decode cX3_lapse 20 = .ok (.aload_n 0, 1) := by decide +kernel
theorem dX3_lapse_21 : decode cX3_lapse 21 = .ok (.getfield 10, 3) := by decide +kernel
theorem dX3_lapse_24 : decode cX3_lapse 24 = .ok (.getfield 65, 3) := by decide +kernel
theorem dX3_lapse_27 : decode cX3_lapse 27 = .ok (.iload_n 1, 1) := by decide +kernel
theorem dX3_lapse_28 : decode cX3_lapse 28 = .ok (.aaload, 1) := by decide +kernel
theorem dX3_lapse_29 : decode cX3_lapse 29 = .ok (.iload_n 2, 1) := by decide +kernel
theorem dX3_lapse_30 : decode cX3_lapse 30 = .ok (.invokevirtual 108, 3) := by decide +kernel
theorem dX3_lapse_33 : decode cX3_lapse 33 = .ok (.ireturn, 1) := by decide +kernel
theorem dX3_pass_0 : decode cX3_pass 0 = .ok (.iload_n 1, 1) := by decide +kernel
theorem dX3_pass_1 : decode cX3_pass 1 = .ok (.iconst 1, 1) := by decide +kernel
theorem dX3_pass_2 : decode cX3_pass 2 = .ok (.bipush 99, 2) := by decide +kernel
theorem dX3_pass_4 : decode cX3_pass 4 = .ok (.invokestatic 58, 3) := by decide +kernel
theorem dX3_pass_7 : decode cX3_pass 7 = .ok (.aload_n 0, 1) := by decide +kernel
theorem dX3_pass_8 : decode cX3_pass 8 = .ok (.getfield 10, 3) := by decide +kernel
theorem dX3_pass_11 : decode cX3_pass 11 = .ok (.iload_n 1, 1) := by decide +kernel
theorem dX3_pass_12 : decode cX3_pass 12 = .ok (.invokevirtual 111, 3) := by decide +kernel
theorem dX3_pass_15 : decode cX3_pass 15 = .ok (.ifCond .ne 13, 3) := by decide +kernel
theorem dX3_pass_18 : decode cX3_pass 18 = .ok (.new 37, 3) := by decide +kernel
theorem dX3_pass_21 : decode cX3_pass 21 = .ok (.dup, 1) := by decide +kernel
theorem dX3_pass_22 : decode cX3_pass 22 = .ok (.ldc 115, 2) := by decide +kernel
theorem dX3_pass_24 : decode cX3_pass 24 = .ok (.invokespecial 41, 3) := by decide +kernel
theorem dX3_pass_27 : decode cX3_pass 27 = .ok (.athrow, 1) := by decide +kernel
theorem dX3_pass_28 : decode cX3_pass 28 = .ok (.aload_n 0, 1) := by decide +kernel
theorem dX3_pass_29 : decode cX3_pass 29 = .ok (.invokevirtual 44, 3) := by decide +kernel
theorem dX3_pass_32 : decode cX3_pass 32 = .ok (.aload_n 0, 1) := by decide +kernel
theorem dX3_pass_33 : decode cX3_pass 33 = .ok (.getfield 10, 3) := by decide +kernel
theorem dX3_pass_36 : decode cX3_pass 36 = .ok (.iload_n 1, 1) := by decide +kernel
theorem dX3_pass_37 : decode cX3_pass 37 = .ok (.invokevirtual 117, 3) := by decide +kernel
theorem dX3_pass_40 : decode cX3_pass 40 = .ok (.ireturn, 1) := by decide +kernel
theorem dX3_append_0 : decode cX3_append 0 = .ok (.iload_n 1, 1) := by decide +kernel
theorem dX3_append_1 : decode cX3_append 1 = .ok (.bipush 33, 2) := by decide +kernel
theorem dX3_append_3 : decode cX3_append 3 = .ok (.bipush 126, 2) := by decide +kernel
theorem dX3_append_5 : decode cX3_append 5 = .ok (.invokestatic 58, 3) := by decide +kernel
theorem dX3_append_8 : decode cX3_append 8 = .ok (.aload_n 0, 1) := by decide +kernel
theorem dX3_append_9 : decode cX3_append 9 = .ok (.getfield 30, 3) := by decide +kernel
theorem dX3_append_12 : decode cX3_append 12 = .ok (.getfield 120, 3) := by decide +kernel
theorem dX3_append_15 : decode cX3_append 15 = .ok (.bipush 60, 2) := by decide +kernel
theorem dX3_append_17 : decode cX3_append 17 = .ok (.if_icmp .lt 13, 3) := by decide +kernel
theorem dX3_append_20 : decode cX3_append 20 = .ok (.new 37, 3) := by decide +kernel
theorem dX3_append_23 : decode cX3_append 23 = .ok (.dup, 1) := by decide +kernel
theorem dX3_append_24 : decode cX3_append 24 = .ok (.ldc 123, 2) := by decide +kernel
theorem dX3_append_26 : decode cX3_append 26 = .ok (.invokespecial 41, 3) := by decide +kernel
theorem dX3_append_29 : decode cX3_append 29 = .ok (.athrow, 1) := by decide +kernel
theorem dX3_append_30 : decode cX3_append 30 = .ok (.aload_n 0, 1) := by decide +kernel
theorem dX3_append_31 : decode cX3_append 31 = .ok (.getfield 30, 3) := by decide +kernel
theorem dX3_append_34 : decode cX3_append 34 = .ok (.iload_n 1, 1) := by decide +kernel
theorem dX3_append_35 : decode cX3_append 35 = .ok (.invokevirtual 125, 3) := by decide +kernel
theorem dX3_append_38 : decode cX3_append 38 = .ok (.ireturn, 1) := by decide +kernel
theorem dX3_clearBuffer_0 : decode cX3_clearBuffer 0 = .ok (.aload_n 0, 1) := by decide +kernel
theorem dX3_clearBuffer_1 : decode cX3_clearBuffer 1 = .ok (.getfield 30, 3) := by decide +kernel
theorem dX3_clearBuffer_4 : decode cX3_clearBuffer 4 = .ok (.getfield 120, 3) := by decide +kernel
theorem dX3_clearBuffer_7 : decode cX3_clearBuffer 7 = .ok (.istore_n 1, 1) := by decide +kernel
theorem dX3_clearBuffer_8 : decode cX3_clearBuffer 8 = .ok (.aload_n 0, 1) := by decide +kernel
theorem dX3_clearBuffer_9 : decode cX3_clearBuffer 9 = .ok (.getfield 30, 3) := by decide +kernel
theorem dX3_clearBuffer_12 : decode cX3_clearBuffer 12 = .ok (.iconst 0, 1) := by decide +kernel
theorem dX3_clearBuffer_13 : decode cX3_clearBuffer 13 = .ok (.putfield 120, 3) := by decide +kernel
theorem dX3_clearBuffer_16 : decode cX3_clearBuffer 16 = .ok (.iload_n 1, 1) := by decide +kernel
theorem dX3_clearBuffer_17 : decode cX3_clearBuffer 17 = .ok (.ireturn, 1) := by decide +kernel
theorem dX3_firstError_0 : decode cX3_firstError 0 = .ok (.aload_n 0, 1) := by decide +kernel
theorem dX3_firstError_1 : decode cX3_firstError 1 = .ok (.getfield 30, 3) := by decide +kernel
theorem dX3_firstError_4 : decode cX3_firstError 4 = .ok (.invokevirtual 128, 3) := by decide +kernel
theorem dX3_firstError_7 : decode cX3_firstError 7 = .ok (.pop, 1) := by decide +kernel
theorem dX3_firstError_8 : decode cX3_firstError 8 = .ok (.aload_n 0, 1) := by decide +kernel
theorem dX3_firstError_9 : decode cX3_firstError 9 = .ok (.getfield 30, 3) := by decide +kernel
theorem dX3_firstError_12 : decode cX3_firstError 12 = .ok (.getfield 132, 3) := by decide +kernel
theorem dX3_firstError_15 : decode cX3_firstError 15 = .ok (.ireturn, 1) := by decide +kernel
theorem dX3_run_0 : decode cX3_run 0 = .ok (.aload_n 0, 1) := by decide +kernel
theorem dX3_run_1 : decode cX3_run 1 = .ok (.getfield 30, 3) := by decide +kernel
theorem dX3_run_4 : decode cX3_run 4 = .ok (.invokevirtual 128, 3) := by decide +kernel
theorem dX3_run_7 : decode cX3_run 7 = .ok (.ifCond .ne 13, 3) := by decide +kernel
theorem dX3_run_10 : decode cX3_run 10 = .ok (.new 135, 3) := by decide +kernel
theorem dX3_run_13 : decode cX3_run 13 = .ok (.dup, 1) := by decide +kernel
theorem dX3_run_14 : decode cX3_run 14 = .ok (.ldc 137, 2) := by decide +kernel
theorem dX3_run_16 : decode cX3_run 16 = .ok (.invokespecial 139, 3) := by decide +kernel
theorem dX3_run_19 : decode cX3_run 19 = .ok (.athrow, 1) := by decide +kernel
theorem dX3_run_20 : decode cX3_run 20 = .ok (.aload_n 0, 1) := by decide +kernel
theorem dX3_run_21 : decode cX3_run 21 = .ok (.invokevirtual 44, 3) := by decide +kernel
theorem dX3_run_24 : decode cX3_run 24 = .ok (.aload_n 0, 1) := by decide +kernel
theorem dX3_run_25 : decode cX3_run 25 = .ok (.getfield 30, 3) := by decide +kernel
theorem dX3_run_28 : decode cX3_run 28 = .ok (.invokevirtual 140, 3) := by decide +kernel
theorem dX3_run_31 : decode cX3_run 31 = .ok (.iconst 0, 1) := by decide +kernel
theorem dX3_run_32 : decode cX3_run 32 = .ok (.istore_n 1, 1) := by decide +kernel
theorem dX3_run_33 : decode cX3_run 33 = .ok (.iload_n 1, 1) := by decide +kernel
theorem dX3_run_34 : decode cX3_run 34 = .ok (.bipush 60, 2) := by decide +kernel
theorem dX3_run_36 : decode cX3_run 36 = .ok (.if_icmp .ge 26, 3) := by decide +kernel
theorem dX3_run_39 : decode cX3_run 39 = .ok (.aload_n 0, 1) := by decide +kernel
theorem dX3_run_40 : decode cX3_run 40 = .ok (.getfield 30, 3) := by decide +kernel
theorem dX3_run_43 : decode cX3_run 43 = .ok (.invokevirtual 143, 3) := by decide +kernel
theorem dX3_run_46 : decode cX3_run 46 = .ok (.ifCond .eq 16, 3) := by decide +kernel
theorem dX3_run_49 : decode cX3_run 49 = .ok (.aload_n 0, 1) := by decide +kernel
theorem dX3_run_50 : decode cX3_run 50 = .ok (.invokevirtual 146, 3) := by decide +kernel
theorem dX3_run_53 : decode cX3_run 53 = .ok (.ifCond .eq 9, 3) := by decide +kernel
theorem dX3_run_56 : decode cX3_run 56 = .ok (.iinc 1 1, 3) := by decide +kernel
theorem dX3_run_59 : decode cX3_run 59 = .ok (.goto (-26), 3) := by decide +kernel
theorem dX3_run_62 : decode cX3_run 62 = .ok (.aload_n 0, 1) := by decide +kernel
theorem dX3_run_63 : decode cX3_run 63 = .ok (.getfield 30, 3) := by decide +kernel
theorem dX3_run_66 : decode cX3_run 66 = .ok (.iconst 0, 1) := by decide +kernel
theorem dX3_run_67 : decode cX3_run 67 = .ok (.putfield 120, 3) := by decide +kernel
theorem dX3_run_70 : decode cX3_run 70 = .ok (.iload_n 1, 1) := by decide +kernel
theorem dX3_run_71 : decode cX3_run 71 = .ok (.ireturn, 1) := by decide +kernel
theorem dX3_undo_0 : decode cX3_undo 0 = .ok (.aload_n 0, 1) := by decide +kernel
theorem dX3_undo_1 : decode cX3_undo 1 = .ok (.getfield 20, 3) := by decide +kernel
theorem dX3_undo_4 : decode cX3_undo 4 = .ok (.ifCond .ne 13, 3) := by decide +kernel
theorem dX3_undo_7 : decode cX3_undo 7 = .ok (.new 37, 3) := by decide +kernel
theorem dX3_undo_10 : decode cX3_undo 10 = .ok (.dup, 1) := by decide +kernel
theorem dX3_undo_11 : decode cX3_undo 11 = .ok (.ldc 149, 2) := by decide +kernel
theorem dX3_undo_13 : decode cX3_undo 13 = .ok (.invokespecial 41, 3) := by decide +kernel
theorem dX3_undo_16 : decode cX3_undo 16 = .ok (.athrow, 1) := by decide +kernel
theorem dX3_undo_17 : decode cX3_undo 17 = .ok (.aload_n 0, 1) := by decide +kernel
theorem dX3_undo_18 : decode cX3_undo 18 = .ok (.dup, 1) := by decide +kernel
theorem dX3_undo_19 : decode cX3_undo 19 = .ok (.getfield 24, 3) := by decide +kernel
theorem dX3_undo_22 : decode cX3_undo 22 = .ok (.iconst 1, 1) := by decide +kernel
theorem dX3_undo_23 : decode cX3_undo 23 = .ok (.isub, 1) := by decide +kernel
theorem dX3_undo_24 : decode cX3_undo 24 = .ok (.putfield 24, 3) := by decide +kernel
theorem dX3_undo_27 : decode cX3_undo 27 = .ok (.aload_n 0, 1) := by decide +kernel
theorem dX3_undo_28 : decode cX3_undo 28 = .ok (.getfield 24, 3) := by decide +kernel
theorem dX3_undo_31 : decode cX3_undo 31 = .ok (.ifCond .lt 12, 3) := by decide +kernel
theorem dX3_undo_34 : decode cX3_undo 34 = .ok (.aload_n 0, 1) := by decide +kernel
theorem dX3_undo_35 : decode cX3_undo 35 = .ok (.getfield 24, 3) := by decide +kernel
theorem dX3_undo_38 : decode cX3_undo 38 = .ok (.bipush 6, 2) := by decide +kernel
theorem dX3_undo_40 : decode cX3_undo 40 = .ok (.if_icmp .lt 8, 3) := by decide +kernel
theorem dX3_undo_43 : decode cX3_undo 43 = .ok (.aload_n 0, 1) := by decide +kernel
theorem dX3_undo_44 : decode cX3_undo 44 = .ok (.iconst 5, 1) := by decide +kernel
theorem dX3_undo_45 : decode cX3_undo 45 = .ok (.putfield 24, 3) := by decide +kernel
theorem dX3_undo_48 : decode cX3_undo 48 = .ok (.aload_n 0, 1) := by decide +kernel
theorem dX3_undo_49 : decode cX3_undo 49 = .ok (.dup, 1) := by decide +kernel
theorem dX3_undo_50 : decode cX3_undo 50 = .ok (.getfield 20, 3) := by decide +kernel
theorem dX3_undo_53 : decode cX3_undo 53 = .ok (.iconst 1, 1) := by decide +kernel
theorem dX3_undo_54 : decode cX3_undo 54 = .ok (.isub, 1) := by decide +kernel
theorem dX3_undo_55 : decode cX3_undo 55 = .ok (.putfield 20, 3) := by decide +kernel
theorem dX3_undo_58 : decode cX3_undo 58 = .ok (.aload_n 0, 1) := by decide +kernel
theorem dX3_undo_59 : decode cX3_undo 59 = .ok (.getfield 10, 3) := by decide +kernel
theorem dX3_undo_62 : decode cX3_undo 62 = .ok (.aload_n 0, 1) := by decide +kernel
theorem dX3_undo_63 : decode cX3_undo 63 = .ok (.getfield 16, 3) := by decide +kernel
theorem dX3_undo_66 : decode cX3_undo 66 = .ok (.aload_n 0, 1) := by decide +kernel
theorem dX3_undo_67 : decode cX3_undo 67 = .ok (.getfield 24, 3) := by decide +kernel
theorem dX3_undo_70 : decode cX3_undo 70 = .ok (.aaload, 1) := by decide +kernel
theorem dX3_undo_71 : decode cX3_undo 71 = .ok (.invokevirtual 151, 3) := by decide +kernel
theorem dX3_undo_74 : decode cX3_undo 74 = .ok (.aload_n 0, 1) := by decide +kernel
theorem dX3_undo_75 : decode cX3_undo 75 = .ok (.getfield 20, 3) := by decide +kernel
theorem dX3_undo_78 : decode cX3_undo 78 = .ok (.ireturn, 1) := by decide +kernel
theorem dX3_phase_0 : decode cX3_phase 0 = .ok (.aload_n 0, 1) := by decide +kernel
theorem dX3_phase_1 : decode cX3_phase 1 = .ok (.iload_n 1, 1) := by decide +kernel
theorem dX3_phase_2 : decode cX3_phase 2 = .ok (.invokevirtual 51, 3) := by decide +kernel
theorem dX3_phase_5 : decode cX3_phase 5 = .ok (.iload_n 2, 1) := by decide +kernel
theorem dX3_phase_6 : decode cX3_phase 6 = .ok (.iconst 0, 1) := by decide +kernel
theorem dX3_phase_7 : decode cX3_phase 7 = .ok (.bipush 13, 2) := by decide +kernel
theorem dX3_phase_9 : decode cX3_phase 9 = .ok (.invokestatic 58, 3) := by decide +kernel
theorem dX3_phase_12 : decode cX3_phase 12 = .ok (.aload_n 0, 1) := by decide +kernel
theorem dX3_phase_13 : decode cX3_phase 13 = .ok (.getfield 10, 3) := by decide +kernel
theorem dX3_phase_16 : decode cX3_phase 16 = .ok (.getfield 65, 3) := by decide +kernel
theorem dX3_phase_19 : decode cX3_phase 19 = .ok (.iload_n 1, 1) := by decide +kernel
theorem dX3_phase_20 : decode cX3_phase 20 = .ok (.aaload, 1) := by decide +kernel
theorem dX3_phase_21 : decode cX3_phase 21 = .ok (.astore_n 3, 1) := by decide +kernel
theorem dX3_phase_22 : decode cX3_phase 22 = .ok (.iload_n 2, 1) := by decide +kernel
theorem dX3_phase_23 : decode cX3_phase 23 = .ok (.tableswitch 145 0 12 #[65, 70, 75, 80, 85, 97, 102, 107, 112, 117, 130, 135, 140], 65) := by decide +kernel
theorem dX3_phase_88 : decode cX3_phase 88 = .ok (.aload_n 3, 1) := by decide +kernel
theorem dX3_phase_89 : decode cX3_phase 89 = .ok (.getfield 155, 3) := by decide +kernel
theorem dX3_phase_92 : decode cX3_phase 92 = .ok (.ireturn, 1) := by decide +kernel
theorem dX3_phase_93 : decode cX3_phase 93 = .ok (.aload_n 3, 1) := by decide +kernel
theorem dX3_phase_94 : decode cX3_phase 94 = .ok (.invokevirtual 158, 3) := by decide +kernel
theorem dX3_phase_97 : decode cX3_phase 97 = .ok (.ireturn, 1) := by decide +kernel
theorem dX3_phase_98 : decode cX3_phase 98 = .ok (.aload_n 3, 1) := by decide +kernel
theorem dX3_phase_99 : decode cX3_phase 99 = .ok (.invokevirtual 161, 3) := by decide +kernel
theorem dX3_phase_102 : decode cX3_phase 102 = .ok (.ireturn, 1) := by decide +kernel
theorem dX3_phase_103 : decode cX3_phase 103 = .ok (.aload_n 3, 1) := by decide +kernel
theorem dX3_phase_104 : decode cX3_phase 104 = .ok (.invokevirtual 164, 3) := by decide +kernel
theorem dX3_phase_107 : decode cX3_phase 107 = .ok (.ireturn, 1) := by decide +kernel
theorem dX3_phase_108 : decode cX3_phase 108 = .ok (.aload_n 3, 1) := by decide +kernel
theorem dX3_phase_109 : decode cX3_phase 109 = .ok (.aload_n 0, 1) := by decide +kernel
theorem dX3_phase_110 : decode cX3_phase 110 = .ok (.getfield 10, 3) := by decide +kernel
theorem dX3_phase_113 : decode cX3_phase 113 = .ok (.getfield 167, 3) := by decide +kernel
theorem dX3_phase_116 : decode cX3_phase 116 = .ok (.invokevirtual 170, 3) := by decide +kernel
theorem dX3_phase_119 : decode cX3_phase 119 = .ok (.ireturn, 1) := by decide +kernel
theorem dX3_phase_120 : decode cX3_phase 120 = .ok (.aload_n 3, 1) := by decide +kernel
theorem dX3_phase_121 : decode cX3_phase 121 = .ok (.getfield 173, 3) := by decide +kernel
theorem dX3_phase_124 : decode cX3_phase 124 = .ok (.ireturn, 1) := by decide +kernel
theorem dX3_phase_125 : decode cX3_phase 125 = .ok (.aload_n 3, 1) := by decide +kernel
theorem dX3_phase_126 : decode cX3_phase 126 = .ok (.getfield 176, 3) := by decide +kernel
theorem dX3_phase_129 : decode cX3_phase 129 = .ok (.ireturn, 1) := by decide +kernel
theorem dX3_phase_130 : decode cX3_phase 130 = .ok (.aload_n 3, 1) := by decide +kernel
theorem dX3_phase_131 : decode cX3_phase 131 = .ok (.getfield 179, 3) := by decide +kernel
theorem dX3_phase_134 : decode cX3_phase 134 = .ok (.ireturn, 1) := by decide +kernel
theorem dX3_phase_135 : decode cX3_phase 135 = .ok (.aload_n 3, 1) := by decide +kernel
theorem dX3_phase_136 : decode cX3_phase 136 = .ok (.invokevirtual 182, 3) := by decide +kernel
theorem dX3_phase_139 : decode cX3_phase 139 = .ok (.ireturn, 1) := by decide +kernel
theorem dX3_phase_140 : decode cX3_phase 140 = .ok (.aload_n 3, 1) := by decide +kernel
theorem dX3_phase_141 : decode cX3_phase 141 = .ok (.getfield 185, 3) := by decide +kernel
theorem dX3_phase_144 : decode cX3_phase 144 = .ok (.ifCond .eq 7, 3) := by decide +kernel
theorem dX3_phase_147 : decode cX3_phase 147 = .ok (.iconst 1, 1) := by decide +kernel
theorem dX3_phase_148 : decode cX3_phase 148 = .ok (.goto 4, 3) := by decide +kernel
theorem dX3_phase_151 : decode cX3_phase 151 = .ok (.iconst 0, 1) := by decide +kernel
theorem dX3_phase_152 : decode cX3_phase 152 = .ok (.ireturn, 1) := by decide +kernel
theorem dX3_phase_153 : decode cX3_phase 153 = .ok (.aload_n 3, 1) := by decide +kernel
theorem dX3_phase_154 : decode cX3_phase 154 = .ok (.getfield 189, 3) := by decide +kernel
theorem dX3_phase_157 : decode cX3_phase 157 = .ok (.ireturn, 1) := by decide +kernel
theorem dX3_phase_158 : decode cX3_phase 158 = .ok (.aload_n 3, 1) := by decide +kernel
theorem dX3_phase_159 : decode cX3_phase 159 = .ok (.invokevirtual 192, 3) := by decide +kernel
theorem dX3_phase_162 : decode cX3_phase 162 = .ok (.ireturn, 1) := by decide +kernel
theorem dX3_phase_163 : decode cX3_phase 163 = .ok (.aload_n 3, 1) := by decide +kernel
theorem dX3_phase_164 : decode cX3_phase 164 = .ok (.invokevirtual 195, 3) := by decide +kernel
theorem dX3_phase_167 : decode cX3_phase 167 = .ok (.ireturn, 1) := by decide +kernel
theorem dX3_phase_168 : decode cX3_phase 168 = .ok (.aload_n 3, 1) := by decide +kernel
theorem dX3_phase_169 : decode cX3_phase 169 = .ok (.aload_n 0, 1) := by decide +kernel
theorem dX3_phase_170 : decode cX3_phase 170 = .ok (.getfield 10, 3) := by decide +kernel
theorem dX3_phase_173 : decode cX3_phase 173 = .ok (.getfield 94, 3) := by decide +kernel
theorem dX3_phase_176 : decode cX3_phase 176 = .ok (.iconst 3, 1) := by decide +kernel
theorem dX3_phase_177 : decode cX3_phase 177 = .ok (.iaload, 1) := by decide +kernel
theorem dX3_phase_178 : decode cX3_phase 178 = .ok (.invokevirtual 198, 3) := by decide +kernel
theorem dX3_phase_181 : decode cX3_phase 181 = .ok (.ireturn, 1) := by decide +kernel
theorem dX3_use_0 : decode cX3_use 0 = .ok (.aload_n 0, 1) := by decide +kernel
theorem dX3_use_1 : decode cX3_use 1 = .ok (.iload_n 1, 1) := by decide +kernel
theorem dX3_use_2 : decode cX3_use 2 = .ok (.invokevirtual 51, 3) := by decide +kernel
theorem dX3_use_5 : decode cX3_use 5 = .ok (.iload_n 2, 1) := by decide +kernel
theorem dX3_use_6 : decode cX3_use 6 = .ok (.invokestatic 55, 3) := by decide +kernel
theorem dX3_use_9 : decode cX3_use 9 = .ok (.iload_n 3, 1) := by decide +kernel
theorem dX3_use_10 : decode cX3_use 10 = .ok (.iconst 0, 1) := by decide +kernel
theorem dX3_use_11 : decode cX3_use 11 = .ok (.iconst 4, 1) := by decide +kernel
theorem dX3_use_12 : decode cX3_use 12 = .ok (.invokestatic 58, 3) := by decide +kernel
theorem dX3_use_15 : decode cX3_use 15 = .ok (.aload_n 0, 1) := by decide +kernel
theorem dX3_use_16 : decode cX3_use 16 = .ok (.getfield 10, 3) := by decide +kernel
theorem dX3_use_19 : decode cX3_use 19 = .ok (.getfield 65, 3) := by decide +kernel
theorem dX3_use_22 : decode cX3_use 22 = .ok (.iload_n 1, 1) := by decide +kernel
theorem dX3_use_23 : decode cX3_use 23 = .ok (.aaload, 1) := by decide +kernel
theorem dX3_use_24 : decode cX3_use 24 = .ok (.astore 4, 2) := by decide +kernel
theorem dX3_use_26 : decode cX3_use 26 = .ok (.iload_n 3, 1) := by decide +kernel
theorem dX3_use_27 : decode cX3_use 27 = .ok (.tableswitch 60 0 3 #[29, 37, 45, 53], 29) := by decide +kernel
theorem dX3_use_56 : decode cX3_use 56 = .ok (.aload 4, 2) := by decide +kernel
theorem dX3_use_58 : decode cX3_use 58 = .ok (.getfield 75, 3) := by decide +kernel
theorem dX3_use_61 : decode cX3_use 61 = .ok (.iload_n 2, 1) := by decide +kernel
theorem dX3_use_62 : decode cX3_use 62 = .ok (.iaload, 1) := by decide +kernel
theorem dX3_use_63 : decode cX3_use 63 = .ok (.ireturn, 1) := by decide +kernel
theorem dX3_use_64 : decode cX3_use 64 = .ok (.aload 4, 2) := by decide +kernel
theorem dX3_use_66 : decode cX3_use 66 = .ok (.getfield 201, 3) := by decide +kernel
theorem dX3_use_69 : decode cX3_use 69 = .ok (.iload_n 2, 1) := by decide +kernel
theorem dX3_use_70 : decode cX3_use 70 = .ok (.iaload, 1) := by decide +kernel
theorem dX3_use_71 : decode cX3_use 71 = .ok (.ireturn, 1) := by decide +kernel
theorem dX3_use_72 : decode cX3_use 72 = .ok (.aload 4, 2) := by decide +kernel
theorem dX3_use_74 : decode cX3_use 74 = .ok (.getfield 204, 3) := by decide +kernel
theorem dX3_use_77 : decode cX3_use 77 = .ok (.iload_n 2, 1) := by decide +kernel
theorem dX3_use_78 : decode cX3_use 78 = .ok (.iaload, 1) := by decide +kernel
theorem dX3_use_79 : decode cX3_use 79 = .ok (.ireturn, 1) := by decide +kernel
theorem dX3_use_80 : decode cX3_use 80 = .ok (.aload 4, 2) := by decide +kernel
theorem dX3_use_82 : decode cX3_use 82 = .ok (.iload_n 2, 1) := by decide +kernel
theorem dX3_use_83 : decode cX3_use 83 = .ok (.invokevirtual 207, 3) := by decide +kernel
theorem dX3_use_86 : decode cX3_use 86 = .ok (.ireturn, 1) := by decide +kernel
theorem dX3_use_87 : decode cX3_use 87 = .ok (.aload 4, 2) := by decide +kernel
theorem dX3_use_89 : decode cX3_use 89 = .ok (.iload_n 2, 1) := by decide +kernel
theorem dX3_use_90 : decode cX3_use 90 = .ok (.invokevirtual 210, 3) := by decide +kernel
theorem dX3_use_93 : decode cX3_use 93 = .ok (.ireturn, 1) := by decide +kernel
theorem dX3_instalment_0 : decode cX3_instalment 0 = .ok (.aload_n 0, 1) := by decide +kernel
theorem dX3_instalment_1 : decode cX3_instalment 1 = .ok (.iload_n 1, 1) := by decide +kernel
theorem dX3_instalment_2 : decode cX3_instalment 2 = .ok (.invokevirtual 51, 3) := by decide +kernel
theorem dX3_instalment_5 : decode cX3_instalment 5 = .ok (.iload_n 2, 1) := by decide +kernel
theorem dX3_instalment_6 : decode cX3_instalment 6 = .ok (.iconst 0, 1) := by decide +kernel
theorem dX3_instalment_7 : decode cX3_instalment 7 = .ok (.iconst 3, 1) := by decide +kernel
theorem dX3_instalment_8 : decode cX3_instalment 8 = .ok (.invokestatic 58, 3) := by decide +kernel
theorem dX3_instalment_11 : decode cX3_instalment 11 = .ok (.iload_n 3, 1) := by decide +kernel
theorem dX3_instalment_12 : decode cX3_instalment 12 = .ok (.iconst 0, 1) := by decide +kernel
theorem dX3_instalment_13 : decode cX3_instalment 13 = .ok (.iconst 2, 1) := by decide +kernel
theorem dX3_instalment_14 : decode cX3_instalment 14 = .ok (.invokestatic 58, 3) := by decide +kernel
theorem dX3_instalment_17 : decode cX3_instalment 17 = .ok (.aload_n 0, 1) := by decide +kernel
theorem dX3_instalment_18 : decode cX3_instalment 18 = .ok (.getfield 10, 3) := by decide +kernel
theorem dX3_instalment_21 : decode cX3_instalment 21 = .ok (.getfield 65, 3) := by decide +kernel
theorem dX3_instalment_24 : decode cX3_instalment 24 = .ok (.iload_n 1, 1) := by decide +kernel
theorem dX3_instalment_25 : decode cX3_instalment 25 = .ok (.aaload, 1) := by decide +kernel
theorem dX3_instalment_26 : decode cX3_instalment 26 = .ok (.astore 4, 2) := by decide +kernel
theorem dX3_instalment_28 : decode cX3_instalment 28 = .ok (.iload_n 2, 1) := by decide +kernel
theorem dX3_instalment_29 : decode cX3_instalment 29 = .ok (.aload 4, 2) := by decide +kernel
theorem dX3_instalment_31 : decode cX3_instalment 31 = .ok (.getfield 189, 3) := by decide +kernel
theorem dX3_instalment_34 : decode cX3_instalment 34 = .ok (.if_icmp .lt 5, 3) := by decide +kernel
theorem dX3_instalment_37 : decode cX3_instalment 37 = .ok (.iconst (-1), 1) := by decide +kernel
theorem dX3_instalment_38 : decode cX3_instalment 38 = .ok (.ireturn, 1) := by decide +kernel
theorem dX3_instalment_39 : decode cX3_instalment 39 = .ok (.iload_n 3, 1) := by decide +kernel
theorem dX3_instalment_40 : decode cX3_instalment 40 = .ok (.lookupswitch 44 #[(0, 28), (1, 36)], 28) := by decide +kernel
theorem dX3_instalment_68 : decode cX3_instalment 68 = .ok (.aload 4, 2) := by decide +kernel
theorem dX3_instalment_70 : decode cX3_instalment 70 = .ok (.getfield 213, 3) := by decide +kernel
theorem dX3_instalment_73 : decode cX3_instalment 73 = .ok (.iload_n 2, 1) := by decide +kernel
theorem dX3_instalment_74 : decode cX3_instalment 74 = .ok (.iaload, 1) := by decide +kernel
theorem dX3_instalment_75 : decode cX3_instalment 75 = .ok (.ireturn, 1) := by decide +kernel
theorem dX3_instalment_76 : decode cX3_instalment 76 = .ok (.aload 4, 2) := by decide +kernel
theorem dX3_instalment_78 : decode cX3_instalment 78 = .ok (.getfield 216, 3) := by decide +kernel
theorem dX3_instalment_81 : decode cX3_instalment 81 = .ok (.iload_n 2, 1) := by decide +kernel
theorem dX3_instalment_82 : decode cX3_instalment 82 = .ok (.iaload, 1) := by decide +kernel
theorem dX3_instalment_83 : decode cX3_instalment 83 = .ok (.ireturn, 1) := by decide +kernel
theorem dX3_instalment_84 : decode cX3_instalment 84 = .ok (.aload 4, 2) := by decide +kernel
theorem dX3_instalment_86 : decode cX3_instalment 86 = .ok (.iload_n 2, 1) := by decide +kernel
theorem dX3_instalment_87 : decode cX3_instalment 87 = .ok (.invokevirtual 219, 3) := by decide +kernel
theorem dX3_instalment_90 : decode cX3_instalment 90 = .ok (.ireturn, 1) := by decide +kernel
theorem dX3_count_0 : decode cX3_count 0 = .ok (.iload_n 1, 1) := by decide +kernel
theorem dX3_count_1 : decode cX3_count 1 = .ok (.iconst 0, 1) := by decide +kernel
theorem dX3_count_2 : decode cX3_count 2 = .ok (.bipush 15, 2) := by decide +kernel
theorem dX3_count_4 : decode cX3_count 4 = .ok (.invokestatic 58, 3) := by decide +kernel
theorem dX3_count_7 : decode cX3_count 7 = .ok (.iload_n 1, 1) := by decide +kernel
theorem dX3_count_8 : decode cX3_count 8 = .ok (.tableswitch 141 0 15 #[80, 141, 141, 88, 141, 141, 141, 141, 141, 141, 141, 96, 106, 116, 126, 136], 80) := by decide +kernel
theorem dX3_count_88 : decode cX3_count 88 = .ok (.aload_n 0, 1) := by decide +kernel
theorem dX3_count_89 : decode cX3_count 89 = .ok (.getfield 10, 3) := by decide +kernel
theorem dX3_count_92 : decode cX3_count 92 = .ok (.getfield 34, 3) := by decide +kernel
theorem dX3_count_95 : decode cX3_count 95 = .ok (.ireturn, 1) := by decide +kernel
theorem dX3_count_96 : decode cX3_count 96 = .ok (.aload_n 0, 1) := by decide +kernel
theorem dX3_count_97 : decode cX3_count 97 = .ok (.getfield 10, 3) := by decide +kernel
theorem dX3_count_100 : decode cX3_count 100 = .ok (.getfield 167, 3) := by decide +kernel
theorem dX3_count_103 : decode cX3_count 103 = .ok (.ireturn, 1) := by decide +kernel
theorem dX3_count_104 : decode cX3_count 104 = .ok (.aload_n 0, 1) := by decide +kernel
theorem dX3_count_105 : decode cX3_count 105 = .ok (.getfield 10, 3) := by decide +kernel
theorem dX3_count_108 : decode cX3_count 108 = .ok (.getfield 222, 3) := by decide +kernel
theorem dX3_count_111 : decode cX3_count 111 = .ok (.iconst 0, 1) := by decide +kernel
theorem dX3_count_112 : decode cX3_count 112 = .ok (.iaload, 1) := by decide +kernel
theorem dX3_count_113 : decode cX3_count 113 = .ok (.ireturn, 1) := by decide +kernel
theorem dX3_count_114 : decode cX3_count 114 = .ok (.aload_n 0, 1) := by decide +kernel
theorem dX3_count_115 : decode cX3_count 115 = .ok (.getfield 10, 3) := by decide +kernel
theorem dX3_count_118 : decode cX3_count 118 = .ok (.getfield 222, 3) := by decide +kernel
theorem dX3_count_121 : decode cX3_count 121 = .ok (.iconst 1, 1) := by decide +kernel
theorem dX3_count_122 : decode cX3_count 122 = .ok (.iaload, 1) := by decide +kernel
theorem dX3_count_123 : decode cX3_count 123 = .ok (.ireturn, 1) := by decide +kernel
theorem dX3_count_124 : decode cX3_count 124 = .ok (.aload_n 0, 1) := by decide +kernel
theorem dX3_count_125 : decode cX3_count 125 = .ok (.getfield 10, 3) := by decide +kernel
theorem dX3_count_128 : decode cX3_count 128 = .ok (.getfield 222, 3) := by decide +kernel
theorem dX3_count_131 : decode cX3_count 131 = .ok (.iconst 2, 1) := by decide +kernel
theorem dX3_count_132 : decode cX3_count 132 = .ok (.iaload, 1) := by decide +kernel
theorem dX3_count_133 : decode cX3_count 133 = .ok (.ireturn, 1) := by decide +kernel
theorem dX3_count_134 : decode cX3_count 134 = .ok (.aload_n 0, 1) := by decide +kernel
theorem dX3_count_135 : decode cX3_count 135 = .ok (.getfield 10, 3) := by decide +kernel
theorem dX3_count_138 : decode cX3_count 138 = .ok (.getfield 222, 3) := by decide +kernel
theorem dX3_count_141 : decode cX3_count 141 = .ok (.iconst 3, 1) := by decide +kernel
theorem dX3_count_142 : decode cX3_count 142 = .ok (.iaload, 1) := by decide +kernel
theorem dX3_count_143 : decode cX3_count 143 = .ok (.ireturn, 1) := by decide +kernel
theorem dX3_count_144 : decode cX3_count 144 = .ok (.aload_n 0, 1) := by decide +kernel
theorem dX3_count_145 : decode cX3_count 145 = .ok (.getfield 20, 3) := by decide +kernel
theorem dX3_count_148 : decode cX3_count 148 = .ok (.ireturn, 1) := by decide +kernel
theorem dX3_count_149 : decode cX3_count 149 = .ok (.aload_n 0, 1) := by decide +kernel
theorem dX3_count_150 : decode cX3_count 150 = .ok (.getfield 10, 3) := by decide +kernel
theorem dX3_count_153 : decode cX3_count 153 = .ok (.iload_n 1, 1) := by decide +kernel
theorem dX3_count_154 : decode cX3_count 154 = .ok (.invokevirtual 223, 3) := by decide +kernel
theorem dX3_count_157 : decode cX3_count 157 = .ok (.ireturn, 1) := by decide +kernel
theorem dX3_setting_0 : decode cX3_setting 0 = .ok (.iload_n 1, 1) := by decide +kernel
theorem dX3_setting_1 : decode cX3_setting 1 = .ok (.invokestatic 85, 3) := by decide +kernel
theorem dX3_setting_4 : decode cX3_setting 4 = .ok (.aload_n 0, 1) := by decide +kernel
theorem dX3_setting_5 : decode cX3_setting 5 = .ok (.getfield 10, 3) := by decide +kernel
theorem dX3_setting_8 : decode cX3_setting 8 = .ok (.getfield 94, 3) := by decide +kernel
theorem dX3_setting_11 : decode cX3_setting 11 = .ok (.iload_n 1, 1) := by decide +kernel
theorem dX3_setting_12 : decode cX3_setting 12 = .ok (.iaload, 1) := by decide +kernel
theorem dX3_setting_13 : decode cX3_setting 13 = .ok (.ireturn, 1) := by decide +kernel
theorem dX3_whyNot_0 : decode cX3_whyNot 0 = .ok (.aload_n 0, 1) := by decide +kernel
theorem dX3_whyNot_1 : decode cX3_whyNot 1 = .ok (.iload_n 2, 1) := by decide +kernel
theorem dX3_whyNot_2 : decode cX3_whyNot 2 = .ok (.invokevirtual 51, 3) := by decide +kernel
theorem dX3_whyNot_5 : decode cX3_whyNot 5 = .ok (.iload_n 3, 1) := by decide +kernel
theorem dX3_whyNot_6 : decode cX3_whyNot 6 = .ok (.invokestatic 55, 3) := by decide +kernel
theorem dX3_whyNot_9 : decode cX3_whyNot 9 = .ok (.iload_n 1, 1) := by decide +kernel
theorem dX3_whyNot_10 : decode cX3_whyNot 10 = .ok (.iconst 0, 1) := by decide +kernel
theorem dX3_whyNot_11 : decode cX3_whyNot 11 = .ok (.iconst 4, 1) := by decide +kernel
theorem dX3_whyNot_12 : decode cX3_whyNot 12 = .ok (.invokestatic 58, 3) := by decide +kernel
theorem dX3_whyNot_15 : decode cX3_whyNot 15 = .ok (.aload_n 0, 1) := by decide +kernel
theorem dX3_whyNot_16 : decode cX3_whyNot 16 = .ok (.getfield 10, 3) := by decide +kernel
theorem dX3_whyNot_19 : decode cX3_whyNot 19 = .ok (.iload_n 1, 1) := by decide +kernel
theorem dX3_whyNot_20 : decode cX3_whyNot 20 = .ok (.iload_n 2, 1) := by decide +kernel
theorem dX3_whyNot_21 : decode cX3_whyNot 21 = .ok (.iload_n 3, 1) := by decide +kernel
theorem dX3_whyNot_22 : decode cX3_whyNot 22 = .ok (.invokevirtual 226, 3) := by decide +kernel
theorem dX3_whyNot_25 : decode cX3_whyNot 25 = .ok (.ireturn, 1) := by decide +kernel
theorem dX3_ifBegun_0 : decode cX3_ifBegun 0 = .ok (.aload_n 0, 1) := by decide +kernel
theorem dX3_ifBegun_1 : decode cX3_ifBegun 1 = .ok (.iload_n 1, 1) := by decide +kernel
theorem dX3_ifBegun_2 : decode cX3_ifBegun 2 = .ok (.invokevirtual 51, 3) := by decide +kernel
theorem dX3_ifBegun_5 : decode cX3_ifBegun 5 = .ok (.iload_n 2, 1) := by decide +kernel
theorem dX3_ifBegun_6 : decode cX3_ifBegun 6 = .ok (.iconst 0, 1) := by decide +kernel
theorem dX3_ifBegun_7 : decode cX3_ifBegun 7 = .ok (.iconst 2, 1) := by decide +kernel
theorem dX3_ifBegun_8 : decode cX3_ifBegun 8 = .ok (.invokestatic 58, 3) := by decide +kernel
theorem dX3_ifBegun_11 : decode cX3_ifBegun 11 = .ok (.aload_n 0, 1) := by decide +kernel
theorem dX3_ifBegun_12 : decode cX3_ifBegun 12 = .ok (.getfield 10, 3) := by decide +kernel
theorem dX3_ifBegun_15 : decode cX3_ifBegun 15 = .ok (.iconst 1, 1) := by decide +kernel
theorem dX3_ifBegun_16 : decode cX3_ifBegun 16 = .ok (.iload_n 1, 1) := by decide +kernel
theorem dX3_ifBegun_17 : decode cX3_ifBegun 17 = .ok (.iconst 0, 1) := by decide +kernel
theorem dX3_ifBegun_18 : decode cX3_ifBegun 18 = .ok (.invokevirtual 226, 3) := by decide +kernel
theorem dX3_ifBegun_21 : decode cX3_ifBegun 21 = .ok (.ifCond .eq 5, 3) := by decide +kernel
theorem dX3_ifBegun_24 : decode cX3_ifBegun 24 = .ok (.iconst (-1), 1) := by decide +kernel
theorem dX3_ifBegun_25 : decode cX3_ifBegun 25 = .ok (.ireturn, 1) := by decide +kernel
theorem dX3_ifBegun_26 : decode cX3_ifBegun 26 = .ok (.aload_n 0, 1) := by decide +kernel
theorem dX3_ifBegun_27 : decode cX3_ifBegun 27 = .ok (.getfield 10, 3) := by decide +kernel
theorem dX3_ifBegun_30 : decode cX3_ifBegun 30 = .ok (.getfield 65, 3) := by decide +kernel
theorem dX3_ifBegun_33 : decode cX3_ifBegun 33 = .ok (.iload_n 1, 1) := by decide +kernel
theorem dX3_ifBegun_34 : decode cX3_ifBegun 34 = .ok (.aaload, 1) := by decide +kernel
theorem dX3_ifBegun_35 : decode cX3_ifBegun 35 = .ok (.invokevirtual 158, 3) := by decide +kernel
theorem dX3_ifBegun_38 : decode cX3_ifBegun 38 = .ok (.aload_n 0, 1) := by decide +kernel
theorem dX3_ifBegun_39 : decode cX3_ifBegun 39 = .ok (.getfield 10, 3) := by decide +kernel
theorem dX3_ifBegun_42 : decode cX3_ifBegun 42 = .ok (.getfield 65, 3) := by decide +kernel
theorem dX3_ifBegun_45 : decode cX3_ifBegun 45 = .ok (.iload_n 1, 1) := by decide +kernel
theorem dX3_ifBegun_46 : decode cX3_ifBegun 46 = .ok (.aaload, 1) := by decide +kernel
theorem dX3_ifBegun_47 : decode cX3_ifBegun 47 = .ok (.invokevirtual 161, 3) := by decide +kernel
theorem dX3_ifBegun_50 : decode cX3_ifBegun 50 = .ok (.isub, 1) := by decide +kernel
theorem dX3_ifBegun_51 : decode cX3_ifBegun 51 = .ok (.istore_n 3, 1) := by decide +kernel
theorem dX3_ifBegun_52 : decode cX3_ifBegun 52 = .ok (.iload_n 3, 1) := by decide +kernel
theorem dX3_ifBegun_53 : decode cX3_ifBegun 53 = .ok (.invokestatic 230, 3) := by decide +kernel
theorem dX3_ifBegun_56 : decode cX3_ifBegun 56 = .ok (.istore 4, 2) := by decide +kernel
theorem dX3_ifBegun_58 : decode cX3_ifBegun 58 = .ok (.iload_n 2, 1) := by decide +kernel
theorem dX3_ifBegun_59 : decode cX3_ifBegun 59 = .ok (.lookupswitch 30 #[(0, 25), (1, 27)], 25) := by decide +kernel
theorem dX3_ifBegun_84 : decode cX3_ifBegun 84 = .ok (.iload_n 3, 1) := by decide +kernel
theorem dX3_ifBegun_85 : decode cX3_ifBegun 85 = .ok (.ireturn, 1) := by decide +kernel
theorem dX3_ifBegun_86 : decode cX3_ifBegun 86 = .ok (.iload 4, 2) := by decide +kernel
theorem dX3_ifBegun_88 : decode cX3_ifBegun 88 = .ok (.ireturn, 1) := by decide +kernel
theorem dX3_ifBegun_89 : decode cX3_ifBegun 89 = .ok (.iload_n 3, 1) := by decide +kernel
theorem dX3_ifBegun_90 : decode cX3_ifBegun 90 = .ok (.iload 4, 2) := by decide +kernel
theorem dX3_ifBegun_92 : decode cX3_ifBegun 92 = .ok (.iload 4, 2) := by decide +kernel
theorem dX3_ifBegun_94 : decode cX3_ifBegun 94 = .ok (.iconst 1, 1) := by decide +kernel
theorem dX3_ifBegun_95 : decode cX3_ifBegun 95 = .ok (.isub, 1) := by decide +kernel
theorem dX3_ifBegun_96 : decode cX3_ifBegun 96 = .ok (.invokestatic 233, 3) := by decide +kernel
theorem dX3_ifBegun_99 : decode cX3_ifBegun 99 = .ok (.ireturn, 1) := by decide +kernel
theorem dX3_breaksIn_0 : decode cX3_breaksIn 0 = .ok (.aload_n 0, 1) := by decide +kernel
theorem dX3_breaksIn_1 : decode cX3_breaksIn 1 = .ok (.iload_n 1, 1) := by decide +kernel
theorem dX3_breaksIn_2 : decode cX3_breaksIn 2 = .ok (.invokevirtual 51, 3) := by decide +kernel
theorem dX3_breaksIn_5 : decode cX3_breaksIn 5 = .ok (.aload_n 0, 1) := by decide +kernel
theorem dX3_breaksIn_6 : decode cX3_breaksIn 6 = .ok (.getfield 10, 3) := by decide +kernel
theorem dX3_breaksIn_9 : decode cX3_breaksIn 9 = .ok (.iload_n 1, 1) := by decide +kernel
theorem dX3_breaksIn_10 : decode cX3_breaksIn 10 = .ok (.invokevirtual 236, 3) := by decide +kernel
theorem dX3_breaksIn_13 : decode cX3_breaksIn 13 = .ok (.ireturn, 1) := by decide +kernel
theorem dX3_surchargesIn_0 : decode cX3_surchargesIn 0 = .ok (.iload_n 1, 1) := by decide +kernel
theorem dX3_surchargesIn_1 : decode cX3_surchargesIn 1 = .ok (.iconst 0, 1) := by decide +kernel
theorem dX3_surchargesIn_2 : decode cX3_surchargesIn 2 = .ok (.sipush 500, 3) := by decide +kernel
theorem dX3_surchargesIn_5 : decode cX3_surchargesIn 5 = .ok (.invokestatic 58, 3) := by decide +kernel
theorem dX3_surchargesIn_8 : decode cX3_surchargesIn 8 = .ok (.iconst 0, 1) := by decide +kernel
theorem dX3_surchargesIn_9 : decode cX3_surchargesIn 9 = .ok (.istore_n 2, 1) := by decide +kernel
theorem dX3_surchargesIn_10 : decode cX3_surchargesIn 10 = .ok (.iconst 0, 1) := by decide +kernel
theorem dX3_surchargesIn_11 : decode cX3_surchargesIn 11 = .ok (.istore_n 3, 1) := by decide +kernel
theorem dX3_surchargesIn_12 : decode cX3_surchargesIn 12 = .ok (.iload_n 3, 1) := by decide +kernel
theorem dX3_surchargesIn_13 : decode cX3_surchargesIn 13 = .ok (.aload_n 0, 1) := by decide +kernel
theorem dX3_surchargesIn_14 : decode cX3_surchargesIn 14 = .ok (.getfield 10, 3) := by decide +kernel
theorem dX3_surchargesIn_17 : decode cX3_surchargesIn 17 = .ok (.getfield 34, 3) := by decide +kernel
theorem dX3_surchargesIn_20 : decode cX3_surchargesIn 20 = .ok (.if_icmp .ge 27, 3) := by decide +kernel
theorem dX3_surchargesIn_23 : decode cX3_surchargesIn 23 = .ok (.iload_n 3, 1) := by decide +kernel
theorem dX3_surchargesIn_24 : decode cX3_surchargesIn 24 = .ok (.bipush 6, 2) := by decide +kernel
theorem dX3_surchargesIn_26 : decode cX3_surchargesIn 26 = .ok (.if_icmp .ge 21, 3) := by decide +kernel
theorem dX3_surchargesIn_29 : decode cX3_surchargesIn 29 = .ok (.iload_n 2, 1) := by decide +kernel
theorem dX3_surchargesIn_30 : decode cX3_surchargesIn 30 = .ok (.aload_n 0, 1) := by decide +kernel
theorem dX3_surchargesIn_31 : decode cX3_surchargesIn 31 = .ok (.getfield 10, 3) := by decide +kernel
theorem dX3_surchargesIn_34 : decode cX3_surchargesIn 34 = .ok (.iload_n 3, 1) := by decide +kernel
theorem dX3_surchargesIn_35 : decode cX3_surchargesIn 35 = .ok (.iload_n 1, 1) := by decide +kernel
theorem dX3_surchargesIn_36 : decode cX3_surchargesIn 36 = .ok (.invokevirtual 239, 3) := by decide +kernel
theorem dX3_surchargesIn_39 : decode cX3_surchargesIn 39 = .ok (.iadd, 1) := by decide +kernel
theorem dX3_surchargesIn_40 : decode cX3_surchargesIn 40 = .ok (.istore_n 2, 1) := by decide +kernel
theorem dX3_surchargesIn_41 : decode cX3_surchargesIn 41 = .ok (.iinc 3 1, 3) := by decide +kernel
theorem dX3_surchargesIn_44 : decode cX3_surchargesIn 44 = .ok (.goto (-32), 3) := by decide +kernel
theorem dX3_surchargesIn_47 : decode cX3_surchargesIn 47 = .ok (.iload_n 2, 1) := by decide +kernel
theorem dX3_surchargesIn_48 : decode cX3_surchargesIn 48 = .ok (.ireturn, 1) := by decide +kernel
theorem dX3_mostUrgent_0 : decode cX3_mostUrgent 0 = .ok (.iconst (-1), 1) := by decide +kernel
theorem dX3_mostUrgent_1 : decode cX3_mostUrgent 1 = .ok (.istore_n 1, 1) := by decide +kernel
theorem dX3_mostUrgent_2 : decode cX3_mostUrgent 2 = .ok (.iconst 0, 1) := by decide +kernel
theorem dX3_mostUrgent_3 : decode cX3_mostUrgent 3 = .ok (.istore_n 2, 1) := by decide +kernel
theorem dX3_mostUrgent_4 : decode cX3_mostUrgent 4 = .ok (.iconst 0, 1) := by decide +kernel
theorem dX3_mostUrgent_5 : decode cX3_mostUrgent 5 = .ok (.istore_n 3, 1) := by decide +kernel
theorem dX3_mostUrgent_6 : decode cX3_mostUrgent 6 = .ok (.iconst 0, 1) := by decide +kernel
theorem dX3_mostUrgent_7 : decode cX3_mostUrgent 7 = .ok (.istore 4, 2) := by decide +kernel
theorem dX3_mostUrgent_9 : decode cX3_mostUrgent 9 = .ok (.iload 4, 2) := by decide +kernel
theorem dX3_mostUrgent_11 : decode cX3_mostUrgent 11 = .ok (.aload_n 0, 1) := by decide +kernel
theorem dX3_mostUrgent_12 : decode cX3_mostUrgent 12 = .ok (.getfield 10, 3) := by decide +kernel
theorem dX3_mostUrgent_15 : decode cX3_mostUrgent 15 = .ok (.getfield 34, 3) := by decide +kernel
theorem dX3_mostUrgent_18 : decode cX3_mostUrgent 18 = .ok (.if_icmp .ge 92, 3) := by decide +kernel
theorem dX3_mostUrgent_21 : decode cX3_mostUrgent 21 = .ok (.iload 4, 2) := by decide +kernel
theorem dX3_mostUrgent_23 : decode cX3_mostUrgent 23 = .ok (.bipush 6, 2) := by decide +kernel
theorem dX3_mostUrgent_25 : decode cX3_mostUrgent 25 = .ok (.if_icmp .ge 85, 3) := by decide +kernel
theorem dX3_mostUrgent_28 : decode cX3_mostUrgent 28 = .ok (.aload_n 0, 1) := by decide +kernel
theorem dX3_mostUrgent_29 : decode cX3_mostUrgent 29 = .ok (.getfield 10, 3) := by decide +kernel
theorem dX3_mostUrgent_32 : decode cX3_mostUrgent 32 = .ok (.iload 4, 2) := by decide +kernel
theorem dX3_mostUrgent_34 : decode cX3_mostUrgent 34 = .ok (.invokevirtual 236, 3) := by decide +kernel
theorem dX3_mostUrgent_37 : decode cX3_mostUrgent 37 = .ok (.istore 5, 2) := by decide +kernel
theorem dX3_mostUrgent_39 : decode cX3_mostUrgent 39 = .ok (.aload_n 0, 1) := by decide +kernel
theorem dX3_mostUrgent_40 : decode cX3_mostUrgent 40 = .ok (.getfield 10, 3) := by decide +kernel
theorem dX3_mostUrgent_43 : decode cX3_mostUrgent 43 = .ok (.getfield 65, 3) := by decide +kernel
theorem dX3_mostUrgent_46 : decode cX3_mostUrgent 46 = .ok (.iload 4, 2) := by decide +kernel
theorem dX3_mostUrgent_48 : decode cX3_mostUrgent 48 = .ok (.aaload, 1) := by decide +kernel
theorem dX3_mostUrgent_49 : decode cX3_mostUrgent 49 = .ok (.invokevirtual 164, 3) := by decide +kernel
theorem dX3_mostUrgent_52 : decode cX3_mostUrgent 52 = .ok (.istore 6, 2) := by decide +kernel
theorem dX3_mostUrgent_54 : decode cX3_mostUrgent 54 = .ok (.iload_n 1, 1) := by decide +kernel
theorem dX3_mostUrgent_55 : decode cX3_mostUrgent 55 = .ok (.iconst (-1), 1) := by decide +kernel
theorem dX3_mostUrgent_56 : decode cX3_mostUrgent 56 = .ok (.if_icmp .eq 21, 3) := by decide +kernel
theorem dX3_mostUrgent_59 : decode cX3_mostUrgent 59 = .ok (.iload 5, 2) := by decide +kernel
theorem dX3_mostUrgent_61 : decode cX3_mostUrgent 61 = .ok (.iload_n 2, 1) := by decide +kernel
theorem dX3_mostUrgent_62 : decode cX3_mostUrgent 62 = .ok (.if_icmp .lt 15, 3) := by decide +kernel
theorem dX3_mostUrgent_65 : decode cX3_mostUrgent 65 = .ok (.iload 5, 2) := by decide +kernel
theorem dX3_mostUrgent_67 : decode cX3_mostUrgent 67 = .ok (.iload_n 2, 1) := by decide +kernel
theorem dX3_mostUrgent_68 : decode cX3_mostUrgent 68 = .ok (.if_icmp .ne 13, 3) := by decide +kernel
theorem dX3_mostUrgent_71 : decode cX3_mostUrgent 71 = .ok (.iload 6, 2) := by decide +kernel
theorem dX3_mostUrgent_73 : decode cX3_mostUrgent 73 = .ok (.iload_n 3, 1) := by decide +kernel
theorem dX3_mostUrgent_74 : decode cX3_mostUrgent 74 = .ok (.if_icmp .le 7, 3) := by decide +kernel
theorem dX3_mostUrgent_77 : decode cX3_mostUrgent 77 = .ok (.iconst 1, 1) := by decide +kernel
theorem dX3_mostUrgent_78 : decode cX3_mostUrgent 78 = .ok (.goto 4, 3) := by decide +kernel
theorem dX3_mostUrgent_81 : decode cX3_mostUrgent 81 = .ok (.iconst 0, 1) := by decide +kernel
theorem dX3_mostUrgent_82 : decode cX3_mostUrgent 82 = .ok (.istore 7, 2) := by decide +kernel
theorem dX3_mostUrgent_84 : decode cX3_mostUrgent 84 = .ok (.iload 5, 2) := by decide +kernel
theorem dX3_mostUrgent_86 : decode cX3_mostUrgent 86 = .ok (.iconst (-1), 1) := by decide +kernel
theorem dX3_mostUrgent_87 : decode cX3_mostUrgent 87 = .ok (.if_icmp .eq 17, 3) := by decide +kernel
theorem dX3_mostUrgent_90 : decode cX3_mostUrgent 90 = .ok (.iload 7, 2) := by decide +kernel
theorem dX3_mostUrgent_92 : decode cX3_mostUrgent 92 = .ok (.ifCond .eq 12, 3) := by decide +kernel
theorem dX3_mostUrgent_95 : decode cX3_mostUrgent 95 = .ok (.iload 4, 2) := by decide +kernel
theorem dX3_mostUrgent_97 : decode cX3_mostUrgent 97 = .ok (.istore_n 1, 1) := by decide +kernel
theorem dX3_mostUrgent_98 : decode cX3_mostUrgent 98 = .ok (.iload 5, 2) := by decide +kernel
theorem dX3_mostUrgent_100 : decode cX3_mostUrgent 100 = .ok (.istore_n 2, 1) := by decide +kernel
theorem dX3_mostUrgent_101 : decode cX3_mostUrgent 101 = .ok (.iload 6, 2) := by decide +kernel
theorem dX3_mostUrgent_103 : decode cX3_mostUrgent 103 = .ok (.istore_n 3, 1) := by decide +kernel
theorem dX3_mostUrgent_104 : decode cX3_mostUrgent 104 = .ok (.iinc 4 1, 3) := by decide +kernel
theorem dX3_mostUrgent_107 : decode cX3_mostUrgent 107 = .ok (.goto (-98), 3) := by decide +kernel
theorem dX3_mostUrgent_110 : decode cX3_mostUrgent 110 = .ok (.iload_n 1, 1) := by decide +kernel
theorem dX3_mostUrgent_111 : decode cX3_mostUrgent 111 = .ok (.ireturn, 1) := by decide +kernel
theorem dX3_dueIn_0 : decode cX3_dueIn 0 = .ok (.aload_n 0, 1) := by decide +kernel
theorem dX3_dueIn_1 : decode cX3_dueIn 1 = .ok (.iload_n 1, 1) := by decide +kernel
theorem dX3_dueIn_2 : decode cX3_dueIn 2 = .ok (.invokevirtual 51, 3) := by decide +kernel
theorem dX3_dueIn_5 : decode cX3_dueIn 5 = .ok (.iload_n 2, 1) := by decide +kernel
theorem dX3_dueIn_6 : decode cX3_dueIn 6 = .ok (.iconst 0, 1) := by decide +kernel
theorem dX3_dueIn_7 : decode cX3_dueIn 7 = .ok (.sipush 500, 3) := by decide +kernel
theorem dX3_dueIn_10 : decode cX3_dueIn 10 = .ok (.invokestatic 58, 3) := by decide +kernel
theorem dX3_dueIn_13 : decode cX3_dueIn 13 = .ok (.aload_n 0, 1) := by decide +kernel
theorem dX3_dueIn_14 : decode cX3_dueIn 14 = .ok (.getfield 10, 3) := by decide +kernel
theorem dX3_dueIn_17 : decode cX3_dueIn 17 = .ok (.iload_n 1, 1) := by decide +kernel
theorem dX3_dueIn_18 : decode cX3_dueIn 18 = .ok (.iload_n 2, 1) := by decide +kernel
theorem dX3_dueIn_19 : decode cX3_dueIn 19 = .ok (.invokevirtual 242, 3) := by decide +kernel
theorem dX3_dueIn_22 : decode cX3_dueIn 22 = .ok (.ifCond .eq 26, 3) := by decide +kernel
theorem dX3_dueIn_25 : decode cX3_dueIn 25 = .ok (.aload_n 0, 1) := by decide +kernel
theorem dX3_dueIn_26 : decode cX3_dueIn 26 = .ok (.getfield 10, 3) := by decide +kernel
theorem dX3_dueIn_29 : decode cX3_dueIn 29 = .ok (.getfield 65, 3) := by decide +kernel
theorem dX3_dueIn_32 : decode cX3_dueIn 32 = .ok (.iload_n 1, 1) := by decide +kernel
theorem dX3_dueIn_33 : decode cX3_dueIn 33 = .ok (.aaload, 1) := by decide +kernel
theorem dX3_dueIn_34 : decode cX3_dueIn 34 = .ok (.invokevirtual 164, 3) := by decide +kernel
theorem dX3_dueIn_37 : decode cX3_dueIn 37 = .ok (.aload_n 0, 1) := by decide +kernel
theorem dX3_dueIn_38 : decode cX3_dueIn 38 = .ok (.getfield 10, 3) := by decide +kernel
theorem dX3_dueIn_41 : decode cX3_dueIn 41 = .ok (.iload_n 1, 1) := by decide +kernel
theorem dX3_dueIn_42 : decode cX3_dueIn 42 = .ok (.iload_n 2, 1) := by decide +kernel
theorem dX3_dueIn_43 : decode cX3_dueIn 43 = .ok (.invokevirtual 239, 3) := by decide +kernel
theorem dX3_dueIn_46 : decode cX3_dueIn 46 = .ok (.iadd, 1) := by decide +kernel
theorem dX3_dueIn_47 : decode cX3_dueIn 47 = .ok (.ireturn, 1) := by decide +kernel
theorem dX3_dueIn_48 : decode cX3_dueIn 48 = .ok (.aload_n 0, 1) := by decide +kernel
theorem dX3_dueIn_49 : decode cX3_dueIn 49 = .ok (.getfield 10, 3) := by decide +kernel
theorem dX3_dueIn_52 : decode cX3_dueIn 52 = .ok (.getfield 65, 3) := by decide +kernel
theorem dX3_dueIn_55 : decode cX3_dueIn 55 = .ok (.iload_n 1, 1) := by decide +kernel
theorem dX3_dueIn_56 : decode cX3_dueIn 56 = .ok (.aaload, 1) := by decide +kernel
theorem dX3_dueIn_57 : decode cX3_dueIn 57 = .ok (.aload_n 0, 1) := by decide +kernel
theorem dX3_dueIn_58 : decode cX3_dueIn 58 = .ok (.getfield 10, 3) := by decide +kernel
theorem dX3_dueIn_61 : decode cX3_dueIn 61 = .ok (.getfield 167, 3) := by decide +kernel
theorem dX3_dueIn_64 : decode cX3_dueIn 64 = .ok (.iload_n 2, 1) := by decide +kernel
theorem dX3_dueIn_65 : decode cX3_dueIn 65 = .ok (.iadd, 1) := by decide +kernel
theorem dX3_dueIn_66 : decode cX3_dueIn 66 = .ok (.invokevirtual 170, 3) := by decide +kernel
theorem dX3_dueIn_69 : decode cX3_dueIn 69 = .ok (.ireturn, 1) := by decide +kernel
theorem dX3_settledShare_0 : decode cX3_settledShare 0 = .ok (.aload_n 0, 1) := by decide +kernel
theorem dX3_settledShare_1 : decode cX3_settledShare 1 = .ok (.getfield 10, 3) := by decide +kernel
theorem dX3_settledShare_4 : decode cX3_settledShare 4 = .ok (.bipush 6, 2) := by decide +kernel
theorem dX3_settledShare_6 : decode cX3_settledShare 6 = .ok (.invokevirtual 223, 3) := by decide +kernel
theorem dX3_settledShare_9 : decode cX3_settledShare 9 = .ok (.aload_n 0, 1) := by decide +kernel
theorem dX3_settledShare_10 : decode cX3_settledShare 10 = .ok (.getfield 10, 3) := by decide +kernel
theorem dX3_settledShare_13 : decode cX3_settledShare 13 = .ok (.bipush 7, 2) := by decide +kernel
theorem dX3_settledShare_15 : decode cX3_settledShare 15 = .ok (.invokevirtual 223, 3) := by decide +kernel
theorem dX3_settledShare_18 : decode cX3_settledShare 18 = .ok (.iadd, 1) := by decide +kernel
theorem dX3_settledShare_19 : decode cX3_settledShare 19 = .ok (.istore_n 1, 1) := by decide +kernel
theorem dX3_settledShare_20 : decode cX3_settledShare 20 = .ok (.iload_n 1, 1) := by decide +kernel
theorem dX3_settledShare_21 : decode cX3_settledShare 21 = .ok (.aload_n 0, 1) := by decide +kernel
theorem dX3_settledShare_22 : decode cX3_settledShare 22 = .ok (.getfield 10, 3) := by decide +kernel
theorem dX3_settledShare_25 : decode cX3_settledShare 25 = .ok (.bipush 9, 2) := by decide +kernel
theorem dX3_settledShare_27 : decode cX3_settledShare 27 = .ok (.invokevirtual 223, 3) := by decide +kernel
theorem dX3_settledShare_30 : decode cX3_settledShare 30 = .ok (.iadd, 1) := by decide +kernel
theorem dX3_settledShare_31 : decode cX3_settledShare 31 = .ok (.istore_n 2, 1) := by decide +kernel
theorem dX3_settledShare_32 : decode cX3_settledShare 32 = .ok (.iload_n 2, 1) := by decide +kernel
theorem dX3_settledShare_33 : decode cX3_settledShare 33 = .ok (.ifCond .ne 7, 3) := by decide +kernel
theorem dX3_settledShare_36 : decode cX3_settledShare 36 = .ok (.dconst 1, 1) := by decide +kernel
theorem dX3_settledShare_37 : decode cX3_settledShare 37 = .ok (.goto 8, 3) := by decide +kernel
theorem dX3_settledShare_40 : decode cX3_settledShare 40 = .ok (.iload_n 1, 1) := by decide +kernel
theorem dX3_settledShare_41 : decode cX3_settledShare 41 = .ok (.i2d, 1) := by decide +kernel
theorem dX3_settledShare_42 : decode cX3_settledShare 42 = .ok (.iload_n 2, 1) := by decide +kernel
theorem dX3_settledShare_43 : decode cX3_settledShare 43 = .ok (.i2d, 1) := by decide +kernel
theorem dX3_settledShare_44 : decode cX3_settledShare 44 = .ok (.ddiv, 1) := by decide +kernel
theorem dX3_settledShare_45 : decode cX3_settledShare 45 = .ok (.dreturn, 1) := by decide +kernel
theorem dX3_digest_0 : decode cX3_digest 0 = .ok (.ldc2_w 246, 3) := by decide +kernel
theorem dX3_digest_3 : decode cX3_digest 3 = .ok (.lstore_n 1, 1) := by decide +kernel
theorem dX3_digest_4 : decode cX3_digest 4 = .ok (.iconst 0, 1) := by decide +kernel
theorem dX3_digest_5 : decode cX3_digest 5 = .ok (.istore_n 3, 1) := by decide +kernel
theorem dX3_digest_6 : decode cX3_digest 6 = .ok (.iload_n 3, 1) := by decide +kernel
theorem dX3_digest_7 : decode cX3_digest 7 = .ok (.bipush 16, 2) := by decide +kernel
theorem dX3_digest_9 : decode cX3_digest 9 = .ok (.if_icmp .ge 22, 3) := by decide +kernel
theorem dX3_digest_12 : decode cX3_digest 12 = .ok (.ldc2_w 248, 3) := by decide +kernel
theorem dX3_digest_15 : decode cX3_digest 15 = .ok (.lload_n 1, 1) := by decide +kernel
theorem dX3_digest_16 : decode cX3_digest 16 = .ok (.lmul, 1) := by decide +kernel
theorem dX3_digest_17 : decode cX3_digest 17 = .ok (.aload_n 0, 1) := by decide +kernel
theorem dX3_digest_18 : decode cX3_digest 18 = .ok (.iload_n 3, 1) := by decide +kernel
theorem dX3_digest_19 : decode cX3_digest 19 = .ok (.invokevirtual 250, 3) := by decide +kernel
theorem dX3_digest_22 : decode cX3_digest 22 = .ok (.i2l, 1) := by decide +kernel
theorem dX3_digest_23 : decode cX3_digest 23 = .ok (.ladd, 1) := by decide +kernel
theorem dX3_digest_24 : decode cX3_digest 24 = .ok (.lstore_n 1, 1) := by decide +kernel
theorem dX3_digest_25 : decode cX3_digest 25 = .ok (.iinc 3 1, 3) := by decide +kernel
theorem dX3_digest_28 : decode cX3_digest 28 = .ok (.goto (-22), 3) := by decide +kernel
theorem dX3_digest_31 : decode cX3_digest 31 = .ok (.iconst 0, 1) := by decide +kernel
theorem dX3_digest_32 : decode cX3_digest 32 = .ok (.istore_n 3, 1) := by decide +kernel
theorem dX3_digest_33 : decode cX3_digest 33 = .ok (.iload_n 3, 1) := by decide +kernel
theorem dX3_digest_34 : decode cX3_digest 34 = .ok (.iconst 4, 1) := by decide +kernel
theorem dX3_digest_35 : decode cX3_digest 35 = .ok (.if_icmp .ge 26, 3) := by decide +kernel
theorem dX3_digest_38 : decode cX3_digest 38 = .ok (.ldc2_w 248, 3) := by decide +kernel
theorem dX3_digest_41 : decode cX3_digest 41 = .ok (.lload_n 1, 1) := by decide +kernel
theorem dX3_digest_42 : decode cX3_digest 42 = .ok (.lmul, 1) := by decide +kernel
theorem dX3_digest_43 : decode cX3_digest 43 = .ok (.aload_n 0, 1) := by decide +kernel
theorem dX3_digest_44 : decode cX3_digest 44 = .ok (.getfield 10, 3) := by decide +kernel
theorem dX3_digest_47 : decode cX3_digest 47 = .ok (.getfield 94, 3) := by decide +kernel
theorem dX3_digest_50 : decode cX3_digest 50 = .ok (.iload_n 3, 1) := by decide +kernel
theorem dX3_digest_51 : decode cX3_digest 51 = .ok (.iaload, 1) := by decide +kernel
theorem dX3_digest_52 : decode cX3_digest 52 = .ok (.i2l, 1) := by decide +kernel
theorem dX3_digest_53 : decode cX3_digest 53 = .ok (.ladd, 1) := by decide +kernel
theorem dX3_digest_54 : decode cX3_digest 54 = .ok (.lstore_n 1, 1) := by decide +kernel
theorem dX3_digest_55 : decode cX3_digest 55 = .ok (.iinc 3 1, 3) := by decide +kernel
theorem dX3_digest_58 : decode cX3_digest 58 = .ok (.goto (-25), 3) := by decide +kernel
theorem dX3_digest_61 : decode cX3_digest 61 = .ok (.iconst 0, 1) := by decide +kernel
theorem dX3_digest_62 : decode cX3_digest 62 = .ok (.istore_n 3, 1) := by decide +kernel
theorem dX3_digest_63 : decode cX3_digest 63 = .ok (.iload_n 3, 1) := by decide +kernel
theorem dX3_digest_64 : decode cX3_digest 64 = .ok (.aload_n 0, 1) := by decide +kernel
theorem dX3_digest_65 : decode cX3_digest 65 = .ok (.getfield 10, 3) := by decide +kernel
theorem dX3_digest_68 : decode cX3_digest 68 = .ok (.getfield 34, 3) := by decide +kernel
theorem dX3_digest_71 : decode cX3_digest 71 = .ok (.if_icmp .ge 22, 3) := by decide +kernel
theorem dX3_digest_74 : decode cX3_digest 74 = .ok (.iload_n 3, 1) := by decide +kernel
theorem dX3_digest_75 : decode cX3_digest 75 = .ok (.bipush 6, 2) := by decide +kernel
theorem dX3_digest_77 : decode cX3_digest 77 = .ok (.if_icmp .ge 16, 3) := by decide +kernel
theorem dX3_digest_80 : decode cX3_digest 80 = .ok (.aload_n 0, 1) := by decide +kernel
theorem dX3_digest_81 : decode cX3_digest 81 = .ok (.lload_n 1, 1) := by decide +kernel
theorem dX3_digest_82 : decode cX3_digest 82 = .ok (.iload_n 3, 1) := by decide +kernel
theorem dX3_digest_83 : decode cX3_digest 83 = .ok (.invokevirtual 253, 3) := by decide +kernel
theorem dX3_digest_86 : decode cX3_digest 86 = .ok (.lstore_n 1, 1) := by decide +kernel
theorem dX3_digest_87 : decode cX3_digest 87 = .ok (.iinc 3 1, 3) := by decide +kernel
theorem dX3_digest_90 : decode cX3_digest 90 = .ok (.goto (-27), 3) := by decide +kernel
theorem dX3_digest_93 : decode cX3_digest 93 = .ok (.ldc2_w 248, 3) := by decide +kernel
theorem dX3_digest_96 : decode cX3_digest 96 = .ok (.lload_n 1, 1) := by decide +kernel
theorem dX3_digest_97 : decode cX3_digest 97 = .ok (.lmul, 1) := by decide +kernel
theorem dX3_digest_98 : decode cX3_digest 98 = .ok (.aload_n 0, 1) := by decide +kernel
theorem dX3_digest_99 : decode cX3_digest 99 = .ok (.sipush 200, 3) := by decide +kernel
theorem dX3_digest_102 : decode cX3_digest 102 = .ok (.invokevirtual 257, 3) := by decide +kernel
theorem dX3_digest_105 : decode cX3_digest 105 = .ok (.i2l, 1) := by decide +kernel
theorem dX3_digest_106 : decode cX3_digest 106 = .ok (.ladd, 1) := by decide +kernel
theorem dX3_digest_107 : decode cX3_digest 107 = .ok (.lstore_n 1, 1) := by decide +kernel
theorem dX3_digest_108 : decode cX3_digest 108 = .ok (.ldc2_w 248, 3) := by decide +kernel
theorem dX3_digest_111 : decode cX3_digest 111 = .ok (.lload_n 1, 1) := by decide +kernel
theorem dX3_digest_112 : decode cX3_digest 112 = .ok (.lmul, 1) := by decide +kernel
theorem dX3_digest_113 : decode cX3_digest 113 = .ok (.aload_n 0, 1) := by decide +kernel
theorem dX3_digest_114 : decode cX3_digest 114 = .ok (.invokevirtual 260, 3) := by decide +kernel
theorem dX3_digest_117 : decode cX3_digest 117 = .ok (.i2l, 1) := by decide +kernel
theorem dX3_digest_118 : decode cX3_digest 118 = .ok (.ladd, 1) := by decide +kernel
theorem dX3_digest_119 : decode cX3_digest 119 = .ok (.lstore_n 1, 1) := by decide +kernel
theorem dX3_digest_120 : decode cX3_digest 120 = .ok (.ldc2_w 248, 3) := by decide +kernel
theorem dX3_digest_123 : decode cX3_digest 123 = .ok (.lload_n 1, 1) := by decide +kernel
theorem dX3_digest_124 : decode cX3_digest 124 = .ok (.lmul, 1) := by decide +kernel
theorem dX3_digest_125 : decode cX3_digest 125 = .ok (.aload_n 0, 1) := by decide +kernel
theorem dX3_digest_126 : decode cX3_digest 126 = .ok (.invokevirtual 263, 3) := by decide +kernel
theorem dX3_digest_129 : decode cX3_digest 129 = .ok (.invokestatic 267, 3) := by decide +kernel
theorem dX3_digest_132 : decode cX3_digest 132 = .ok (.ladd, 1) := by decide +kernel
theorem dX3_digest_133 : decode cX3_digest 133 = .ok (.lstore_n 1, 1) := by decide +kernel
theorem dX3_digest_134 : decode cX3_digest 134 = .ok (.ldc2_w 248, 3) := by decide +kernel
theorem dX3_digest_137 : decode cX3_digest 137 = .ok (.lload_n 1, 1) := by decide +kernel
theorem dX3_digest_138 : decode cX3_digest 138 = .ok (.lmul, 1) := by decide +kernel
theorem dX3_digest_139 : decode cX3_digest 139 = .ok (.aload_n 0, 1) := by decide +kernel
theorem dX3_digest_140 : decode cX3_digest 140 = .ok (.getfield 30, 3) := by decide +kernel
theorem dX3_digest_143 : decode cX3_digest 143 = .ok (.getfield 120, 3) := by decide +kernel
theorem dX3_digest_146 : decode cX3_digest 146 = .ok (.i2l, 1) := by decide +kernel
theorem dX3_digest_147 : decode cX3_digest 147 = .ok (.ladd, 1) := by decide +kernel
theorem dX3_digest_148 : decode cX3_digest 148 = .ok (.lstore_n 1, 1) := by decide +kernel
theorem dX3_digest_149 : decode cX3_digest 149 = .ok (.iconst 0, 1) := by decide +kernel
theorem dX3_digest_150 : decode cX3_digest 150 = .ok (.istore_n 3, 1) := by decide +kernel
theorem dX3_digest_151 : decode cX3_digest 151 = .ok (.iload_n 3, 1) := by decide +kernel
theorem dX3_digest_152 : decode cX3_digest 152 = .ok (.aload_n 0, 1) := by decide +kernel
theorem dX3_digest_153 : decode cX3_digest 153 = .ok (.getfield 30, 3) := by decide +kernel
theorem dX3_digest_156 : decode cX3_digest 156 = .ok (.getfield 120, 3) := by decide +kernel
theorem dX3_digest_159 : decode cX3_digest 159 = .ok (.if_icmp .ge 32, 3) := by decide +kernel
theorem dX3_digest_162 : decode cX3_digest 162 = .ok (.iload_n 3, 1) := by decide +kernel
theorem dX3_digest_163 : decode cX3_digest 163 = .ok (.bipush 60, 2) := by decide +kernel
theorem dX3_digest_165 : decode cX3_digest 165 = .ok (.if_icmp .ge 26, 3) := by decide +kernel
theorem dX3_digest_168 : decode cX3_digest 168 = .ok (.ldc2_w 248, 3) := by decide +kernel
theorem dX3_digest_171 : decode cX3_digest 171 = .ok (.lload_n 1, 1) := by decide +kernel
theorem dX3_digest_172 : decode cX3_digest 172 = .ok (.lmul, 1) := by decide +kernel
theorem dX3_digest_173 : decode cX3_digest 173 = .ok (.aload_n 0, 1) := by decide +kernel
theorem dX3_digest_174 : decode cX3_digest 174 = .ok (.getfield 30, 3) := by decide +kernel
theorem dX3_digest_177 : decode cX3_digest 177 = .ok (.getfield 271, 3) := by decide +kernel
theorem dX3_digest_180 : decode cX3_digest 180 = .ok (.iload_n 3, 1) := by decide +kernel
theorem dX3_digest_181 : decode cX3_digest 181 = .ok (.iaload, 1) := by decide +kernel
theorem dX3_digest_182 : decode cX3_digest 182 = .ok (.i2l, 1) := by decide +kernel
theorem dX3_digest_183 : decode cX3_digest 183 = .ok (.ladd, 1) := by decide +kernel
theorem dX3_digest_184 : decode cX3_digest 184 = .ok (.lstore_n 1, 1) := by decide +kernel
theorem dX3_digest_185 : decode cX3_digest 185 = .ok (.iinc 3 1, 3) := by decide +kernel
theorem dX3_digest_188 : decode cX3_digest 188 = .ok (.goto (-37), 3) := by decide +kernel
theorem dX3_digest_191 : decode cX3_digest 191 = .ok (.lload_n 1, 1) := by decide +kernel
theorem dX3_digest_192 : decode cX3_digest 192 = .ok (.lreturn, 1) := by decide +kernel
theorem dX3_hashOfPhase_0 : decode cX3_hashOfPhase 0 = .ok (.lload_n 1, 1) := by decide +kernel
theorem dX3_hashOfPhase_1 : decode cX3_hashOfPhase 1 = .ok (.lstore 4, 2) := by decide +kernel
theorem dX3_hashOfPhase_3 : decode cX3_hashOfPhase 3 = .ok (.iconst 0, 1) := by decide +kernel
theorem dX3_hashOfPhase_4 : decode cX3_hashOfPhase 4 = .ok (.istore 6, 2) := by decide +kernel
theorem dX3_hashOfPhase_6 : decode cX3_hashOfPhase 6 = .ok (.iload 6, 2) := by decide +kernel
theorem dX3_hashOfPhase_8 : decode cX3_hashOfPhase 8 = .ok (.bipush 14, 2) := by decide +kernel
theorem dX3_hashOfPhase_10 : decode cX3_hashOfPhase 10 = .ok (.if_icmp .ge 26, 3) := by decide +kernel
theorem dX3_hashOfPhase_13 : decode cX3_hashOfPhase 13 = .ok (.ldc2_w 248, 3) := by decide +kernel
theorem dX3_hashOfPhase_16 : decode cX3_hashOfPhase 16 = .ok (.lload 4, 2) := by decide +kernel
theorem dX3_hashOfPhase_18 : decode cX3_hashOfPhase 18 = .ok (.lmul, 1) := by decide +kernel
theorem dX3_hashOfPhase_19 : decode cX3_hashOfPhase 19 = .ok (.aload_n 0, 1) := by decide +kernel
theorem dX3_hashOfPhase_20 : decode cX3_hashOfPhase 20 = .ok (.iload_n 3, 1) := by decide +kernel
theorem dX3_hashOfPhase_21 : decode cX3_hashOfPhase 21 = .ok (.iload 6, 2) := by decide +kernel
theorem dX3_hashOfPhase_23 : decode cX3_hashOfPhase 23 = .ok (.invokevirtual 274, 3) := by decide +kernel
theorem dX3_hashOfPhase_26 : decode cX3_hashOfPhase 26 = .ok (.i2l, 1) := by decide +kernel
theorem dX3_hashOfPhase_27 : decode cX3_hashOfPhase 27 = .ok (.ladd, 1) := by decide +kernel
theorem dX3_hashOfPhase_28 : decode cX3_hashOfPhase 28 = .ok (.lstore 4, 2) := by decide +kernel
theorem dX3_hashOfPhase_30 : decode cX3_hashOfPhase 30 = .ok (.iinc 6 1, 3) := by decide +kernel
theorem dX3_hashOfPhase_33 : decode cX3_hashOfPhase 33 = .ok (.goto (-27), 3) := by decide +kernel
theorem dX3_hashOfPhase_36 : decode cX3_hashOfPhase 36 = .ok (.iconst 0, 1) := by decide +kernel
theorem dX3_hashOfPhase_37 : decode cX3_hashOfPhase 37 = .ok (.istore 6, 2) := by decide +kernel
theorem dX3_hashOfPhase_39 : decode cX3_hashOfPhase 39 = .ok (.iload 6, 2) := by decide +kernel
theorem dX3_hashOfPhase_41 : decode cX3_hashOfPhase 41 = .ok (.iconst 4, 1) := by decide +kernel
theorem dX3_hashOfPhase_42 : decode cX3_hashOfPhase 42 = .ok (.if_icmp .ge 61, 3) := by decide +kernel
theorem dX3_hashOfPhase_45 : decode cX3_hashOfPhase 45 = .ok (.iconst 0, 1) := by decide +kernel
theorem dX3_hashOfPhase_46 : decode cX3_hashOfPhase 46 = .ok (.istore 7, 2) := by decide +kernel
theorem dX3_hashOfPhase_48 : decode cX3_hashOfPhase 48 = .ok (.iload 7, 2) := by decide +kernel
theorem dX3_hashOfPhase_50 : decode cX3_hashOfPhase 50 = .ok (.iconst 5, 1) := by decide +kernel
theorem dX3_hashOfPhase_51 : decode cX3_hashOfPhase 51 = .ok (.if_icmp .ge 28, 3) := by decide +kernel
theorem dX3_hashOfPhase_54 : decode cX3_hashOfPhase 54 = .ok (.ldc2_w 248, 3) := by decide +kernel
theorem dX3_hashOfPhase_57 : decode cX3_hashOfPhase 57 = .ok (.lload 4, 2) := by decide +kernel
theorem dX3_hashOfPhase_59 : decode cX3_hashOfPhase 59 = .ok (.lmul, 1) := by decide +kernel
theorem dX3_hashOfPhase_60 : decode cX3_hashOfPhase 60 = .ok (.aload_n 0, 1) := by decide +kernel
theorem dX3_hashOfPhase_61 : decode cX3_hashOfPhase 61 = .ok (.iload_n 3, 1) := by decide +kernel
theorem dX3_hashOfPhase_62 : decode cX3_hashOfPhase 62 = .ok (.iload 6, 2) := by decide +kernel
theorem dX3_hashOfPhase_64 : decode cX3_hashOfPhase 64 = .ok (.iload 7, 2) := by decide +kernel
theorem dX3_hashOfPhase_66 : decode cX3_hashOfPhase 66 = .ok (.invokevirtual 277, 3) := by decide +kernel
theorem dX3_hashOfPhase_69 : decode cX3_hashOfPhase 69 = .ok (.i2l, 1) := by decide +kernel
theorem dX3_hashOfPhase_70 : decode cX3_hashOfPhase 70 = .ok (.ladd, 1) := by decide +kernel
theorem dX3_hashOfPhase_71 : decode cX3_hashOfPhase 71 = .ok (.lstore 4, 2) := by decide +kernel
theorem dX3_hashOfPhase_73 : decode cX3_hashOfPhase 73 = .ok (.iinc 7 1, 3) := by decide +kernel
theorem dX3_hashOfPhase_76 : decode cX3_hashOfPhase 76 = .ok (.goto (-28), 3) := by decide +kernel
theorem dX3_hashOfPhase_79 : decode cX3_hashOfPhase 79 = .ok (.ldc2_w 248, 3) := by decide +kernel
theorem dX3_hashOfPhase_82 : decode cX3_hashOfPhase 82 = .ok (.lload 4, 2) := by decide +kernel
theorem dX3_hashOfPhase_84 : decode cX3_hashOfPhase 84 = .ok (.lmul, 1) := by decide +kernel
theorem dX3_hashOfPhase_85 : decode cX3_hashOfPhase 85 = .ok (.aload_n 0, 1) := by decide +kernel
theorem dX3_hashOfPhase_86 : decode cX3_hashOfPhase 86 = .ok (.iconst 4, 1) := by decide +kernel
theorem dX3_hashOfPhase_87 : decode cX3_hashOfPhase 87 = .ok (.iload_n 3, 1) := by decide +kernel
theorem dX3_hashOfPhase_88 : decode cX3_hashOfPhase 88 = .ok (.iload 6, 2) := by decide +kernel
theorem dX3_hashOfPhase_90 : decode cX3_hashOfPhase 90 = .ok (.invokevirtual 280, 3) := by decide +kernel
theorem dX3_hashOfPhase_93 : decode cX3_hashOfPhase 93 = .ok (.i2l, 1) := by decide +kernel
theorem dX3_hashOfPhase_94 : decode cX3_hashOfPhase 94 = .ok (.ladd, 1) := by decide +kernel
theorem dX3_hashOfPhase_95 : decode cX3_hashOfPhase 95 = .ok (.lstore 4, 2) := by decide +kernel
theorem dX3_hashOfPhase_97 : decode cX3_hashOfPhase 97 = .ok (.iinc 6 1, 3) := by decide +kernel
theorem dX3_hashOfPhase_100 : decode cX3_hashOfPhase 100 = .ok (.goto (-61), 3) := by decide +kernel
theorem dX3_hashOfPhase_103 : decode cX3_hashOfPhase 103 = .ok (.iconst 0, 1) := by decide +kernel
theorem dX3_hashOfPhase_104 : decode cX3_hashOfPhase 104 = .ok (.istore 6, 2) := by decide +kernel
theorem dX3_hashOfPhase_106 : decode cX3_hashOfPhase 106 = .ok (.iload 6, 2) := by decide +kernel
theorem dX3_hashOfPhase_108 : decode cX3_hashOfPhase 108 = .ok (.iconst 4, 1) := by decide +kernel
theorem dX3_hashOfPhase_109 : decode cX3_hashOfPhase 109 = .ok (.if_icmp .ge 43, 3) := by decide +kernel
theorem dX3_hashOfPhase_112 : decode cX3_hashOfPhase 112 = .ok (.iconst 0, 1) := by decide +kernel
theorem dX3_hashOfPhase_113 : decode cX3_hashOfPhase 113 = .ok (.istore 7, 2) := by decide +kernel
theorem dX3_hashOfPhase_115 : decode cX3_hashOfPhase 115 = .ok (.iload 7, 2) := by decide +kernel
theorem dX3_hashOfPhase_117 : decode cX3_hashOfPhase 117 = .ok (.iconst 3, 1) := by decide +kernel
theorem dX3_hashOfPhase_118 : decode cX3_hashOfPhase 118 = .ok (.if_icmp .ge 28, 3) := by decide +kernel
theorem dX3_hashOfPhase_121 : decode cX3_hashOfPhase 121 = .ok (.ldc2_w 248, 3) := by decide +kernel
theorem dX3_hashOfPhase_124 : decode cX3_hashOfPhase 124 = .ok (.lload 4, 2) := by decide +kernel
theorem dX3_hashOfPhase_126 : decode cX3_hashOfPhase 126 = .ok (.lmul, 1) := by decide +kernel
theorem dX3_hashOfPhase_127 : decode cX3_hashOfPhase 127 = .ok (.aload_n 0, 1) := by decide +kernel
theorem dX3_hashOfPhase_128 : decode cX3_hashOfPhase 128 = .ok (.iload_n 3, 1) := by decide +kernel
theorem dX3_hashOfPhase_129 : decode cX3_hashOfPhase 129 = .ok (.iload 6, 2) := by decide +kernel
theorem dX3_hashOfPhase_131 : decode cX3_hashOfPhase 131 = .ok (.iload 7, 2) := by decide +kernel
theorem dX3_hashOfPhase_133 : decode cX3_hashOfPhase 133 = .ok (.invokevirtual 283, 3) := by decide +kernel
theorem dX3_hashOfPhase_136 : decode cX3_hashOfPhase 136 = .ok (.i2l, 1) := by decide +kernel
theorem dX3_hashOfPhase_137 : decode cX3_hashOfPhase 137 = .ok (.ladd, 1) := by decide +kernel
theorem dX3_hashOfPhase_138 : decode cX3_hashOfPhase 138 = .ok (.lstore 4, 2) := by decide +kernel
theorem dX3_hashOfPhase_140 : decode cX3_hashOfPhase 140 = .ok (.iinc 7 1, 3) := by decide +kernel
theorem dX3_hashOfPhase_143 : decode cX3_hashOfPhase 143 = .ok (.goto (-28), 3) := by decide +kernel
theorem dX3_hashOfPhase_146 : decode cX3_hashOfPhase 146 = .ok (.iinc 6 1, 3) := by decide +kernel
theorem dX3_hashOfPhase_149 : decode cX3_hashOfPhase 149 = .ok (.goto (-43), 3) := by decide +kernel
theorem dX3_hashOfPhase_152 : decode cX3_hashOfPhase 152 = .ok (.iconst 0, 1) := by decide +kernel
theorem dX3_hashOfPhase_153 : decode cX3_hashOfPhase 153 = .ok (.istore 6, 2) := by decide +kernel
theorem dX3_hashOfPhase_155 : decode cX3_hashOfPhase 155 = .ok (.iload 6, 2) := by decide +kernel
theorem dX3_hashOfPhase_157 : decode cX3_hashOfPhase 157 = .ok (.iconst 3, 1) := by decide +kernel
theorem dX3_hashOfPhase_158 : decode cX3_hashOfPhase 158 = .ok (.if_icmp .gt 27, 3) := by decide +kernel
theorem dX3_hashOfPhase_161 : decode cX3_hashOfPhase 161 = .ok (.ldc2_w 248, 3) := by decide +kernel
theorem dX3_hashOfPhase_164 : decode cX3_hashOfPhase 164 = .ok (.lload 4, 2) := by decide +kernel
theorem dX3_hashOfPhase_166 : decode cX3_hashOfPhase 166 = .ok (.lmul, 1) := by decide +kernel
theorem dX3_hashOfPhase_167 : decode cX3_hashOfPhase 167 = .ok (.aload_n 0, 1) := by decide +kernel
theorem dX3_hashOfPhase_168 : decode cX3_hashOfPhase 168 = .ok (.iload 6, 2) := by decide +kernel
theorem dX3_hashOfPhase_170 : decode cX3_hashOfPhase 170 = .ok (.iload_n 3, 1) := by decide +kernel
theorem dX3_hashOfPhase_171 : decode cX3_hashOfPhase 171 = .ok (.iconst 0, 1) := by decide +kernel
theorem dX3_hashOfPhase_172 : decode cX3_hashOfPhase 172 = .ok (.invokevirtual 280, 3) := by decide +kernel
theorem dX3_hashOfPhase_175 : decode cX3_hashOfPhase 175 = .ok (.i2l, 1) := by decide +kernel
theorem dX3_hashOfPhase_176 : decode cX3_hashOfPhase 176 = .ok (.ladd, 1) := by decide +kernel
theorem dX3_hashOfPhase_177 : decode cX3_hashOfPhase 177 = .ok (.lstore 4, 2) := by decide +kernel
theorem dX3_hashOfPhase_179 : decode cX3_hashOfPhase 179 = .ok (.iinc 6 1, 3) := by decide +kernel
theorem dX3_hashOfPhase_182 : decode cX3_hashOfPhase 182 = .ok (.goto (-27), 3) := by decide +kernel
theorem dX3_hashOfPhase_185 : decode cX3_hashOfPhase 185 = .ok (.iconst 0, 1) := by decide +kernel
theorem dX3_hashOfPhase_186 : decode cX3_hashOfPhase 186 = .ok (.istore 6, 2) := by decide +kernel
theorem dX3_hashOfPhase_188 : decode cX3_hashOfPhase 188 = .ok (.iload 6, 2) := by decide +kernel
theorem dX3_hashOfPhase_190 : decode cX3_hashOfPhase 190 = .ok (.iconst 3, 1) := by decide +kernel
theorem dX3_hashOfPhase_191 : decode cX3_hashOfPhase 191 = .ok (.if_icmp .ge 26, 3) := by decide +kernel
theorem dX3_hashOfPhase_194 : decode cX3_hashOfPhase 194 = .ok (.ldc2_w 248, 3) := by decide +kernel
theorem dX3_hashOfPhase_197 : decode cX3_hashOfPhase 197 = .ok (.lload 4, 2) := by decide +kernel
theorem dX3_hashOfPhase_199 : decode cX3_hashOfPhase 199 = .ok (.lmul, 1) := by decide +kernel
theorem dX3_hashOfPhase_200 : decode cX3_hashOfPhase 200 = .ok (.aload_n 0, 1) := by decide +kernel
theorem dX3_hashOfPhase_201 : decode cX3_hashOfPhase 201 = .ok (.iload_n 3, 1) := by decide +kernel
theorem dX3_hashOfPhase_202 : decode cX3_hashOfPhase 202 = .ok (.iload 6, 2) := by decide +kernel
theorem dX3_hashOfPhase_204 : decode cX3_hashOfPhase 204 = .ok (.invokevirtual 286, 3) := by decide +kernel
theorem dX3_hashOfPhase_207 : decode cX3_hashOfPhase 207 = .ok (.i2l, 1) := by decide +kernel
theorem dX3_hashOfPhase_208 : decode cX3_hashOfPhase 208 = .ok (.ladd, 1) := by decide +kernel
theorem dX3_hashOfPhase_209 : decode cX3_hashOfPhase 209 = .ok (.lstore 4, 2) := by decide +kernel
theorem dX3_hashOfPhase_211 : decode cX3_hashOfPhase 211 = .ok (.iinc 6 1, 3) := by decide +kernel
theorem dX3_hashOfPhase_214 : decode cX3_hashOfPhase 214 = .ok (.goto (-26), 3) := by decide +kernel
theorem dX3_hashOfPhase_217 : decode cX3_hashOfPhase 217 = .ok (.ldc2_w 248, 3) := by decide +kernel
theorem dX3_hashOfPhase_220 : decode cX3_hashOfPhase 220 = .ok (.lload 4, 2) := by decide +kernel
theorem dX3_hashOfPhase_222 : decode cX3_hashOfPhase 222 = .ok (.lmul, 1) := by decide +kernel
theorem dX3_hashOfPhase_223 : decode cX3_hashOfPhase 223 = .ok (.aload_n 0, 1) := by decide +kernel
theorem dX3_hashOfPhase_224 : decode cX3_hashOfPhase 224 = .ok (.iload_n 3, 1) := by decide +kernel
theorem dX3_hashOfPhase_225 : decode cX3_hashOfPhase 225 = .ok (.invokevirtual 289, 3) := by decide +kernel
theorem dX3_hashOfPhase_228 : decode cX3_hashOfPhase 228 = .ok (.i2l, 1) := by decide +kernel
theorem dX3_hashOfPhase_229 : decode cX3_hashOfPhase 229 = .ok (.ladd, 1) := by decide +kernel
theorem dX3_hashOfPhase_230 : decode cX3_hashOfPhase 230 = .ok (.lstore 4, 2) := by decide +kernel
theorem dX3_hashOfPhase_232 : decode cX3_hashOfPhase 232 = .ok (.ldc2_w 248, 3) := by decide +kernel
theorem dX3_hashOfPhase_235 : decode cX3_hashOfPhase 235 = .ok (.lload 4, 2) := by decide +kernel
theorem dX3_hashOfPhase_237 : decode cX3_hashOfPhase 237 = .ok (.lmul, 1) := by decide +kernel
theorem dX3_hashOfPhase_238 : decode cX3_hashOfPhase 238 = .ok (.aload_n 0, 1) := by decide +kernel
theorem dX3_hashOfPhase_239 : decode cX3_hashOfPhase 239 = .ok (.iload_n 3, 1) := by decide +kernel
theorem dX3_hashOfPhase_240 : decode cX3_hashOfPhase 240 = .ok (.bipush 100, 2) := by decide +kernel
theorem dX3_hashOfPhase_242 : decode cX3_hashOfPhase 242 = .ok (.invokevirtual 292, 3) := by decide +kernel
theorem dX3_hashOfPhase_245 : decode cX3_hashOfPhase 245 = .ok (.i2l, 1) := by decide +kernel
theorem dX3_hashOfPhase_246 : decode cX3_hashOfPhase 246 = .ok (.ladd, 1) := by decide +kernel
theorem dX3_hashOfPhase_247 : decode cX3_hashOfPhase 247 = .ok (.lreturn, 1) := by decide +kernel
theorem dX3_bitsOfShare_0 : decode cX3_bitsOfShare 0 = .ok (.dload_n 0, 1) := by decide +kernel
theorem dX3_bitsOfShare_1 : decode cX3_bitsOfShare 1 = .ok (.dconst 0, 1) := by decide +kernel
theorem dX3_bitsOfShare_2 : decode cX3_bitsOfShare 2 = .ok (.dcmp .g, 1) := by decide +kernel
theorem dX3_bitsOfShare_3 : decode cX3_bitsOfShare 3 = .ok (.ifCond .gt 5, 3) := by decide +kernel
theorem dX3_bitsOfShare_6 : decode cX3_bitsOfShare 6 = .ok (.lconst 0, 1) := by decide +kernel
theorem dX3_bitsOfShare_7 : decode cX3_bitsOfShare 7 = .ok (.lreturn, 1) := by decide +kernel
theorem dX3_bitsOfShare_8 : decode cX3_bitsOfShare 8 = .ok (.dload_n 0, 1) := by decide +kernel
theorem dX3_bitsOfShare_9 : decode cX3_bitsOfShare 9 = .ok (.dstore_n 2, 1) := by decide +kernel
theorem dX3_bitsOfShare_10 : decode cX3_bitsOfShare 10 = .ok (.ldc2_w 295, 3) := by decide +kernel
theorem dX3_bitsOfShare_13 : decode cX3_bitsOfShare 13 = .ok (.lstore 4, 2) := by decide +kernel
theorem dX3_bitsOfShare_15 : decode cX3_bitsOfShare 15 = .ok (.dload_n 2, 1) := by decide +kernel
theorem dX3_bitsOfShare_16 : decode cX3_bitsOfShare 16 = .ok (.dconst 1, 1) := by decide +kernel
theorem dX3_bitsOfShare_17 : decode cX3_bitsOfShare 17 = .ok (.dcmp .g, 1) := by decide +kernel
theorem dX3_bitsOfShare_18 : decode cX3_bitsOfShare 18 = .ok (.ifCond .ge 25, 3) := by decide +kernel
theorem dX3_bitsOfShare_21 : decode cX3_bitsOfShare 21 = .ok (.lload 4, 2) := by decide +kernel
theorem dX3_bitsOfShare_23 : decode cX3_bitsOfShare 23 = .ok (.lconst 1, 1) := by decide +kernel
theorem dX3_bitsOfShare_24 : decode cX3_bitsOfShare 24 = .ok (.lcmp, 1) := by decide +kernel
theorem dX3_bitsOfShare_25 : decode cX3_bitsOfShare 25 = .ok (.ifCond .le 18, 3) := by decide +kernel
theorem dX3_bitsOfShare_28 : decode cX3_bitsOfShare 28 = .ok (.dload_n 2, 1) := by decide +kernel
theorem dX3_bitsOfShare_29 : decode cX3_bitsOfShare 29 = .ok (.ldc2_w 297, 3) := by decide +kernel
theorem dX3_bitsOfShare_32 : decode cX3_bitsOfShare 32 = .ok (.dmul, 1) := by decide +kernel
theorem dX3_bitsOfShare_33 : decode cX3_bitsOfShare 33 = .ok (.dstore_n 2, 1) := by decide +kernel
theorem dX3_bitsOfShare_34 : decode cX3_bitsOfShare 34 = .ok (.lload 4, 2) := by decide +kernel
theorem dX3_bitsOfShare_36 : decode cX3_bitsOfShare 36 = .ok (.lconst 1, 1) := by decide +kernel
theorem dX3_bitsOfShare_37 : decode cX3_bitsOfShare 37 = .ok (.lsub, 1) := by decide +kernel
theorem dX3_bitsOfShare_38 : decode cX3_bitsOfShare 38 = .ok (.lstore 4, 2) := by decide +kernel
theorem dX3_bitsOfShare_40 : decode cX3_bitsOfShare 40 = .ok (.goto (-25), 3) := by decide +kernel
theorem dX3_bitsOfShare_43 : decode cX3_bitsOfShare 43 = .ok (.dload_n 2, 1) := by decide +kernel
theorem dX3_bitsOfShare_44 : decode cX3_bitsOfShare 44 = .ok (.dconst 1, 1) := by decide +kernel
theorem dX3_bitsOfShare_45 : decode cX3_bitsOfShare 45 = .ok (.dsub, 1) := by decide +kernel
theorem dX3_bitsOfShare_46 : decode cX3_bitsOfShare 46 = .ok (.ldc2_w 299, 3) := by decide +kernel
theorem dX3_bitsOfShare_49 : decode cX3_bitsOfShare 49 = .ok (.dmul, 1) := by decide +kernel
theorem dX3_bitsOfShare_50 : decode cX3_bitsOfShare 50 = .ok (.d2l, 1) := by decide +kernel
theorem dX3_bitsOfShare_51 : decode cX3_bitsOfShare 51 = .ok (.lstore 6, 2) := by decide +kernel
theorem dX3_bitsOfShare_53 : decode cX3_bitsOfShare 53 = .ok (.lload 4, 2) := by decide +kernel
theorem dX3_bitsOfShare_55 : decode cX3_bitsOfShare 55 = .ok (.bipush 52, 2) := by decide +kernel
theorem dX3_bitsOfShare_57 : decode cX3_bitsOfShare 57 = .ok (.lshl, 1) := by decide +kernel
theorem dX3_bitsOfShare_58 : decode cX3_bitsOfShare 58 = .ok (.lload 6, 2) := by decide +kernel
theorem dX3_bitsOfShare_60 : decode cX3_bitsOfShare 60 = .ok (.lor, 1) := by decide +kernel
theorem dX3_bitsOfShare_61 : decode cX3_bitsOfShare 61 = .ok (.lreturn, 1) := by decide +kernel
theorem dX3_saveState_0 : decode cX3_saveState 0 = .ok (.aload_n 0, 1) := by decide +kernel
theorem dX3_saveState_1 : decode cX3_saveState 1 = .ok (.getfield 24, 3) := by decide +kernel
theorem dX3_saveState_4 : decode cX3_saveState 4 = .ok (.ifCond .lt 12, 3) := by decide +kernel
theorem dX3_saveState_7 : decode cX3_saveState 7 = .ok (.aload_n 0, 1) := by decide +kernel
theorem dX3_saveState_8 : decode cX3_saveState 8 = .ok (.getfield 24, 3) := by decide +kernel
theorem dX3_saveState_11 : decode cX3_saveState 11 = .ok (.bipush 6, 2) := by decide +kernel
theorem dX3_saveState_13 : decode cX3_saveState 13 = .ok (.if_icmp .lt 8, 3) := by decide +kernel
theorem dX3_saveState_16 : decode cX3_saveState 16 = .ok (.aload_n 0, 1) := by decide +kernel
theorem dX3_saveState_17 : decode cX3_saveState 17 = .ok (.iconst 0, 1) := by decide +kernel
theorem dX3_saveState_18 : decode cX3_saveState 18 = .ok (.putfield 24, 3) := by decide +kernel
theorem dX3_saveState_21 : decode cX3_saveState 21 = .ok (.aload_n 0, 1) := by decide +kernel
theorem dX3_saveState_22 : decode cX3_saveState 22 = .ok (.getfield 16, 3) := by decide +kernel
theorem dX3_saveState_25 : decode cX3_saveState 25 = .ok (.aload_n 0, 1) := by decide +kernel
theorem dX3_saveState_26 : decode cX3_saveState 26 = .ok (.getfield 24, 3) := by decide +kernel
theorem dX3_saveState_29 : decode cX3_saveState 29 = .ok (.aaload, 1) := by decide +kernel
theorem dX3_saveState_30 : decode cX3_saveState 30 = .ok (.aload_n 0, 1) := by decide +kernel
theorem dX3_saveState_31 : decode cX3_saveState 31 = .ok (.getfield 10, 3) := by decide +kernel
theorem dX3_saveState_34 : decode cX3_saveState 34 = .ok (.invokevirtual 151, 3) := by decide +kernel
theorem dX3_saveState_37 : decode cX3_saveState 37 = .ok (.aload_n 0, 1) := by decide +kernel
theorem dX3_saveState_38 : decode cX3_saveState 38 = .ok (.dup, 1) := by decide +kernel
theorem dX3_saveState_39 : decode cX3_saveState 39 = .ok (.getfield 24, 3) := by decide +kernel
theorem dX3_saveState_42 : decode cX3_saveState 42 = .ok (.iconst 1, 1) := by decide +kernel
theorem dX3_saveState_43 : decode cX3_saveState 43 = .ok (.iadd, 1) := by decide +kernel
theorem dX3_saveState_44 : decode cX3_saveState 44 = .ok (.putfield 24, 3) := by decide +kernel
theorem dX3_saveState_47 : decode cX3_saveState 47 = .ok (.aload_n 0, 1) := by decide +kernel
theorem dX3_saveState_48 : decode cX3_saveState 48 = .ok (.getfield 20, 3) := by decide +kernel
theorem dX3_saveState_51 : decode cX3_saveState 51 = .ok (.bipush 6, 2) := by decide +kernel
theorem dX3_saveState_53 : decode cX3_saveState 53 = .ok (.if_icmp .ge 13, 3) := by decide +kernel
theorem dX3_saveState_56 : decode cX3_saveState 56 = .ok (.aload_n 0, 1) := by decide +kernel
theorem dX3_saveState_57 : decode cX3_saveState 57 = .ok (.dup, 1) := by decide +kernel
theorem dX3_saveState_58 : decode cX3_saveState 58 = .ok (.getfield 20, 3) := by decide +kernel
theorem dX3_saveState_61 : decode cX3_saveState 61 = .ok (.iconst 1, 1) := by decide +kernel
theorem dX3_saveState_62 : decode cX3_saveState 62 = .ok (.iadd, 1) := by decide +kernel
theorem dX3_saveState_63 : decode cX3_saveState 63 = .ok (.putfield 20, 3) := by decide +kernel
theorem dX3_saveState_66 : decode cX3_saveState 66 = .ok (.return_, 1) := by decide +kernel
theorem dX3_carryOutOrder_0 : decode cX3_carryOutOrder 0 = .ok (.aload_n 0, 1) := by decide +kernel
theorem dX3_carryOutOrder_1 : decode cX3_carryOutOrder 1 = .ok (.getfield 30, 3) := by decide +kernel
theorem dX3_carryOutOrder_4 : decode cX3_carryOutOrder 4 = .ok (.getfield 301, 3) := by decide +kernel
theorem dX3_carryOutOrder_7 : decode cX3_carryOutOrder 7 = .ok (.istore_n 1, 1) := by decide +kernel
theorem dX3_carryOutOrder_8 : decode cX3_carryOutOrder 8 = .ok (.aload_n 0, 1) := by decide +kernel
theorem dX3_carryOutOrder_9 : decode cX3_carryOutOrder 9 = .ok (.getfield 30, 3) := by decide +kernel
theorem dX3_carryOutOrder_12 : decode cX3_carryOutOrder 12 = .ok (.getfield 303, 3) := by decide +kernel
theorem dX3_carryOutOrder_15 : decode cX3_carryOutOrder 15 = .ok (.lookupswitch 137 #[(97, 33), (98, 76), (112, 101)], 33) := by decide +kernel
theorem dX3_carryOutOrder_48 : decode cX3_carryOutOrder 48 = .ok (.aload_n 0, 1) := by decide +kernel
theorem dX3_carryOutOrder_49 : decode cX3_carryOutOrder 49 = .ok (.getfield 10, 3) := by decide +kernel
theorem dX3_carryOutOrder_52 : decode cX3_carryOutOrder 52 = .ok (.iconst 0, 1) := by decide +kernel
theorem dX3_carryOutOrder_53 : decode cX3_carryOutOrder 53 = .ok (.iload_n 1, 1) := by decide +kernel
theorem dX3_carryOutOrder_54 : decode cX3_carryOutOrder 54 = .ok (.invokevirtual 306, 3) := by decide +kernel
theorem dX3_carryOutOrder_57 : decode cX3_carryOutOrder 57 = .ok (.ifCond .ne 5, 3) := by decide +kernel
theorem dX3_carryOutOrder_60 : decode cX3_carryOutOrder 60 = .ok (.iconst 0, 1) := by decide +kernel
theorem dX3_carryOutOrder_61 : decode cX3_carryOutOrder 61 = .ok (.ireturn, 1) := by decide +kernel
theorem dX3_carryOutOrder_62 : decode cX3_carryOutOrder 62 = .ok (.aload_n 0, 1) := by decide +kernel
theorem dX3_carryOutOrder_63 : decode cX3_carryOutOrder 63 = .ok (.getfield 10, 3) := by decide +kernel
theorem dX3_carryOutOrder_66 : decode cX3_carryOutOrder 66 = .ok (.getfield 65, 3) := by decide +kernel
theorem dX3_carryOutOrder_69 : decode cX3_carryOutOrder 69 = .ok (.iload_n 1, 1) := by decide +kernel
theorem dX3_carryOutOrder_70 : decode cX3_carryOutOrder 70 = .ok (.aaload, 1) := by decide +kernel
theorem dX3_carryOutOrder_71 : decode cX3_carryOutOrder 71 = .ok (.aload_n 0, 1) := by decide +kernel
theorem dX3_carryOutOrder_72 : decode cX3_carryOutOrder 72 = .ok (.getfield 30, 3) := by decide +kernel
theorem dX3_carryOutOrder_75 : decode cX3_carryOutOrder 75 = .ok (.getfield 309, 3) := by decide +kernel
theorem dX3_carryOutOrder_78 : decode cX3_carryOutOrder 78 = .ok (.aload_n 0, 1) := by decide +kernel
theorem dX3_carryOutOrder_79 : decode cX3_carryOutOrder 79 = .ok (.getfield 30, 3) := by decide +kernel
theorem dX3_carryOutOrder_82 : decode cX3_carryOutOrder 82 = .ok (.getfield 311, 3) := by decide +kernel
theorem dX3_carryOutOrder_85 : decode cX3_carryOutOrder 85 = .ok (.invokevirtual 69, 3) := by decide +kernel
theorem dX3_carryOutOrder_88 : decode cX3_carryOutOrder 88 = .ok (.pop, 1) := by decide +kernel
theorem dX3_carryOutOrder_89 : decode cX3_carryOutOrder 89 = .ok (.iconst 1, 1) := by decide +kernel
theorem dX3_carryOutOrder_90 : decode cX3_carryOutOrder 90 = .ok (.ireturn, 1) := by decide +kernel
theorem dX3_carryOutOrder_91 : decode cX3_carryOutOrder 91 = .ok (.aload_n 0, 1) := by decide +kernel
theorem dX3_carryOutOrder_92 : decode cX3_carryOutOrder 92 = .ok (.getfield 10, 3) := by decide +kernel
theorem dX3_carryOutOrder_95 : decode cX3_carryOutOrder 95 = .ok (.iconst 1, 1) := by decide +kernel
theorem dX3_carryOutOrder_96 : decode cX3_carryOutOrder 96 = .ok (.iload_n 1, 1) := by decide +kernel
theorem dX3_carryOutOrder_97 : decode cX3_carryOutOrder 97 = .ok (.invokevirtual 306, 3) := by decide +kernel
theorem dX3_carryOutOrder_100 : decode cX3_carryOutOrder 100 = .ok (.ifCond .ne 5, 3) := by decide +kernel
theorem dX3_carryOutOrder_103 : decode cX3_carryOutOrder 103 = .ok (.iconst 0, 1) := by decide +kernel
theorem dX3_carryOutOrder_104 : decode cX3_carryOutOrder 104 = .ok (.ireturn, 1) := by decide +kernel
theorem dX3_carryOutOrder_105 : decode cX3_carryOutOrder 105 = .ok (.aload_n 0, 1) := by decide +kernel
theorem dX3_carryOutOrder_106 : decode cX3_carryOutOrder 106 = .ok (.getfield 10, 3) := by decide +kernel
theorem dX3_carryOutOrder_109 : decode cX3_carryOutOrder 109 = .ok (.iload_n 1, 1) := by decide +kernel
theorem dX3_carryOutOrder_110 : decode cX3_carryOutOrder 110 = .ok (.invokevirtual 97, 3) := by decide +kernel
theorem dX3_carryOutOrder_113 : decode cX3_carryOutOrder 113 = .ok (.pop, 1) := by decide +kernel
theorem dX3_carryOutOrder_114 : decode cX3_carryOutOrder 114 = .ok (.iconst 1, 1) := by decide +kernel
theorem dX3_carryOutOrder_115 : decode cX3_carryOutOrder 115 = .ok (.ireturn, 1) := by decide +kernel
theorem dX3_carryOutOrder_116 : decode cX3_carryOutOrder 116 = .ok (.aload_n 0, 1) := by decide +kernel
theorem dX3_carryOutOrder_117 : decode cX3_carryOutOrder 117 = .ok (.getfield 10, 3) := by decide +kernel
theorem dX3_carryOutOrder_120 : decode cX3_carryOutOrder 120 = .ok (.iconst 2, 1) := by decide +kernel
theorem dX3_carryOutOrder_121 : decode cX3_carryOutOrder 121 = .ok (.iload_n 1, 1) := by decide +kernel
theorem dX3_carryOutOrder_122 : decode cX3_carryOutOrder 122 = .ok (.invokevirtual 306, 3) := by decide +kernel
theorem dX3_carryOutOrder_125 : decode cX3_carryOutOrder 125 = .ok (.ifCond .ne 5, 3) := by decide +kernel
theorem dX3_carryOutOrder_128 : decode cX3_carryOutOrder 128 = .ok (.iconst 0, 1) := by decide +kernel
theorem dX3_carryOutOrder_129 : decode cX3_carryOutOrder 129 = .ok (.ireturn, 1) := by decide +kernel
theorem dX3_carryOutOrder_130 : decode cX3_carryOutOrder 130 = .ok (.aload_n 0, 1) := by decide +kernel
theorem dX3_carryOutOrder_131 : decode cX3_carryOutOrder 131 = .ok (.getfield 10, 3) := by decide +kernel
theorem dX3_carryOutOrder_134 : decode cX3_carryOutOrder 134 = .ok (.getfield 65, 3) := by decide +kernel
theorem dX3_carryOutOrder_137 : decode cX3_carryOutOrder 137 = .ok (.iload_n 1, 1) := by decide +kernel
theorem dX3_carryOutOrder_138 : decode cX3_carryOutOrder 138 = .ok (.aaload, 1) := by decide +kernel
theorem dX3_carryOutOrder_139 : decode cX3_carryOutOrder 139 = .ok (.aload_n 0, 1) := by decide +kernel
theorem dX3_carryOutOrder_140 : decode cX3_carryOutOrder 140 = .ok (.getfield 30, 3) := by decide +kernel
theorem dX3_carryOutOrder_143 : decode cX3_carryOutOrder 143 = .ok (.getfield 311, 3) := by decide +kernel
theorem dX3_carryOutOrder_146 : decode cX3_carryOutOrder 146 = .ok (.invokevirtual 102, 3) := by decide +kernel
theorem dX3_carryOutOrder_149 : decode cX3_carryOutOrder 149 = .ok (.pop, 1) := by decide +kernel
theorem dX3_carryOutOrder_150 : decode cX3_carryOutOrder 150 = .ok (.iconst 1, 1) := by decide +kernel
theorem dX3_carryOutOrder_151 : decode cX3_carryOutOrder 151 = .ok (.ireturn, 1) := by decide +kernel
theorem dX3_carryOutOrder_152 : decode cX3_carryOutOrder 152 = .ok (.aload_n 0, 1) := by decide +kernel
theorem dX3_carryOutOrder_153 : decode cX3_carryOutOrder 153 = .ok (.getfield 10, 3) := by decide +kernel
theorem dX3_carryOutOrder_156 : decode cX3_carryOutOrder 156 = .ok (.aload_n 0, 1) := by decide +kernel
theorem dX3_carryOutOrder_157 : decode cX3_carryOutOrder 157 = .ok (.getfield 30, 3) := by decide +kernel
theorem dX3_carryOutOrder_160 : decode cX3_carryOutOrder 160 = .ok (.getfield 311, 3) := by decide +kernel
theorem dX3_carryOutOrder_163 : decode cX3_carryOutOrder 163 = .ok (.invokevirtual 111, 3) := by decide +kernel
theorem dX3_carryOutOrder_166 : decode cX3_carryOutOrder 166 = .ok (.ifCond .ne 5, 3) := by decide +kernel
theorem dX3_carryOutOrder_169 : decode cX3_carryOutOrder 169 = .ok (.iconst 0, 1) := by decide +kernel
theorem dX3_carryOutOrder_170 : decode cX3_carryOutOrder 170 = .ok (.ireturn, 1) := by decide +kernel
theorem dX3_carryOutOrder_171 : decode cX3_carryOutOrder 171 = .ok (.aload_n 0, 1) := by decide +kernel
theorem dX3_carryOutOrder_172 : decode cX3_carryOutOrder 172 = .ok (.getfield 10, 3) := by decide +kernel
theorem dX3_carryOutOrder_175 : decode cX3_carryOutOrder 175 = .ok (.aload_n 0, 1) := by decide +kernel
theorem dX3_carryOutOrder_176 : decode cX3_carryOutOrder 176 = .ok (.getfield 30, 3) := by decide +kernel
theorem dX3_carryOutOrder_179 : decode cX3_carryOutOrder 179 = .ok (.getfield 311, 3) := by decide +kernel
theorem dX3_carryOutOrder_182 : decode cX3_carryOutOrder 182 = .ok (.invokevirtual 117, 3) := by decide +kernel
theorem dX3_carryOutOrder_185 : decode cX3_carryOutOrder 185 = .ok (.pop, 1) := by decide +kernel
theorem dX3_carryOutOrder_186 : decode cX3_carryOutOrder 186 = .ok (.iconst 1, 1) := by decide +kernel
theorem dX3_carryOutOrder_187 : decode cX3_carryOutOrder 187 = .ok (.ireturn, 1) := by decide +kernel
theorem dX3_demandPhase_0 : decode cX3_demandPhase 0 = .ok (.aload_n 0, 1) := by decide +kernel
theorem dX3_demandPhase_1 : decode cX3_demandPhase 1 = .ok (.getfield 10, 3) := by decide +kernel
theorem dX3_demandPhase_4 : decode cX3_demandPhase 4 = .ok (.iload_n 1, 1) := by decide +kernel
theorem dX3_demandPhase_5 : decode cX3_demandPhase 5 = .ok (.invokevirtual 314, 3) := by decide +kernel
theorem dX3_demandPhase_8 : decode cX3_demandPhase 8 = .ok (.ifCond .ne 14, 3) := by decide +kernel
theorem dX3_demandPhase_11 : decode cX3_demandPhase 11 = .ok (.new 317, 3) := by decide +kernel
theorem dX3_demandPhase_14 : decode cX3_demandPhase 14 = .ok (.dup, 1) := by decide +kernel
theorem dX3_demandPhase_15 : decode cX3_demandPhase 15 = .ok (.ldc_w 319, 3) := by decide +kernel
theorem dX3_demandPhase_18 : decode cX3_demandPhase 18 = .ok (.invokespecial 321, 3) := by decide +kernel
theorem dX3_demandPhase_21 : decode cX3_demandPhase 21 = .ok (.athrow, 1) := by decide +kernel
theorem dX3_demandPhase_22 : decode cX3_demandPhase 22 = .ok (.return_, 1) := by decide +kernel
theorem dX3_demandNoReason_0 : decode cX3_demandNoReason 0 = .ok (.aload_n 0, 1) := by decide +kernel
theorem dX3_demandNoReason_1 : decode cX3_demandNoReason 1 = .ok (.getfield 10, 3) := by decide +kernel
theorem dX3_demandNoReason_4 : decode cX3_demandNoReason 4 = .ok (.iload_n 1, 1) := by decide +kernel
theorem dX3_demandNoReason_5 : decode cX3_demandNoReason 5 = .ok (.iload_n 2, 1) := by decide +kernel
theorem dX3_demandNoReason_6 : decode cX3_demandNoReason 6 = .ok (.iload_n 3, 1) := by decide +kernel
theorem dX3_demandNoReason_7 : decode cX3_demandNoReason 7 = .ok (.invokevirtual 226, 3) := by decide +kernel
theorem dX3_demandNoReason_10 : decode cX3_demandNoReason 10 = .ok (.ifCond .eq 14, 3) := by decide +kernel
theorem dX3_demandNoReason_13 : decode cX3_demandNoReason 13 = .ok (.new 37, 3) := by decide +kernel
theorem dX3_demandNoReason_16 : decode cX3_demandNoReason 16 = .ok (.dup, 1) := by decide +kernel
theorem dX3_demandNoReason_17 : decode cX3_demandNoReason 17 = .ok (.ldc_w 322, 3) := by decide +kernel
theorem dX3_demandNoReason_20 : decode cX3_demandNoReason 20 = .ok (.invokespecial 41, 3) := by decide +kernel
theorem dX3_demandNoReason_23 : decode cX3_demandNoReason 23 = .ok (.athrow, 1) := by decide +kernel
theorem dX3_demandNoReason_24 : decode cX3_demandNoReason 24 = .ok (.return_, 1) := by decide +kernel
theorem dX3_demandUse_0 : decode cX3_demandUse 0 = .ok (.iload_n 0, 1) := by decide +kernel
theorem dX3_demandUse_1 : decode cX3_demandUse 1 = .ok (.ifCond .lt 8, 3) := by decide +kernel
theorem dX3_demandUse_4 : decode cX3_demandUse 4 = .ok (.iload_n 0, 1) := by decide +kernel
theorem dX3_demandUse_5 : decode cX3_demandUse 5 = .ok (.iconst 4, 1) := by decide +kernel
theorem dX3_demandUse_6 : decode cX3_demandUse 6 = .ok (.if_icmp .lt 14, 3) := by decide +kernel
theorem dX3_demandUse_9 : decode cX3_demandUse 9 = .ok (.new 317, 3) := by decide +kernel
theorem dX3_demandUse_12 : decode cX3_demandUse 12 = .ok (.dup, 1) := by decide +kernel
theorem dX3_demandUse_13 : decode cX3_demandUse 13 = .ok (.ldc_w 324, 3) := by decide +kernel
theorem dX3_demandUse_16 : decode cX3_demandUse 16 = .ok (.invokespecial 321, 3) := by decide +kernel
theorem dX3_demandUse_19 : decode cX3_demandUse 19 = .ok (.athrow, 1) := by decide +kernel
theorem dX3_demandUse_20 : decode cX3_demandUse 20 = .ok (.return_, 1) := by decide +kernel
theorem dX3_demandSetting_0 : decode cX3_demandSetting 0 = .ok (.iload_n 0, 1) := by decide +kernel
theorem dX3_demandSetting_1 : decode cX3_demandSetting 1 = .ok (.ifCond .lt 8, 3) := by decide +kernel
theorem dX3_demandSetting_4 : decode cX3_demandSetting 4 = .ok (.iload_n 0, 1) := by decide +kernel
theorem dX3_demandSetting_5 : decode cX3_demandSetting 5 = .ok (.iconst 4, 1) := by decide +kernel
theorem dX3_demandSetting_6 : decode cX3_demandSetting 6 = .ok (.if_icmp .lt 14, 3) := by decide +kernel
theorem dX3_demandSetting_9 : decode cX3_demandSetting 9 = .ok (.new 317, 3) := by decide +kernel
theorem dX3_demandSetting_12 : decode cX3_demandSetting 12 = .ok (.dup, 1) := by decide +kernel
theorem dX3_demandSetting_13 : decode cX3_demandSetting 13 = .ok (.ldc_w 326, 3) := by decide +kernel
theorem dX3_demandSetting_16 : decode cX3_demandSetting 16 = .ok (.invokespecial 321, 3) := by decide +kernel
theorem dX3_demandSetting_19 : decode cX3_demandSetting 19 = .ok (.athrow, 1) := by decide +kernel
theorem dX3_demandSetting_20 : decode cX3_demandSetting 20 = .ok (.return_, 1) := by decide +kernel
theorem dX3_demandRange_0 : decode cX3_demandRange 0 = .ok (.iload_n 0, 1) := by decide +kernel
theorem dX3_demandRange_1 : decode cX3_demandRange 1 = .ok (.iload_n 1, 1) := by decide +kernel
theorem dX3_demandRange_2 : decode cX3_demandRange 2 = .ok (.if_icmp .lt 8, 3) := by decide +kernel
theorem dX3_demandRange_5 : decode cX3_demandRange 5 = .ok (.iload_n 0, 1) := by decide +kernel
theorem dX3_demandRange_6 : decode cX3_demandRange 6 = .ok (.iload_n 2, 1) := by decide +kernel
theorem dX3_demandRange_7 : decode cX3_demandRange 7 = .ok (.if_icmp .le 14, 3) := by decide +kernel
theorem dX3_demandRange_10 : decode cX3_demandRange 10 = .ok (.new 135, 3) := by decide +kernel
theorem dX3_demandRange_13 : decode cX3_demandRange 13 = .ok (.dup, 1) := by decide +kernel
theorem dX3_demandRange_14 : decode cX3_demandRange 14 = .ok (.ldc_w 328, 3) := by decide +kernel
theorem dX3_demandRange_17 : decode cX3_demandRange 17 = .ok (.invokespecial 139, 3) := by decide +kernel
theorem dX3_demandRange_20 : decode cX3_demandRange 20 = .ok (.athrow, 1) := by decide +kernel
theorem dX3_demandRange_21 : decode cX3_demandRange 21 = .ok (.return_, 1) := by decide +kernel
theorem dX3_instalmentsFor_0 : decode cX3_instalmentsFor 0 = .ok (.iload_n 0, 1) := by decide +kernel
theorem dX3_instalmentsFor_1 : decode cX3_instalmentsFor 1 = .ok (.sipush 1000, 3) := by decide +kernel
theorem dX3_instalmentsFor_4 : decode cX3_instalmentsFor 4 = .ok (.if_icmp .ge 5, 3) := by decide +kernel
theorem dX3_instalmentsFor_7 : decode cX3_instalmentsFor 7 = .ok (.iconst 1, 1) := by decide +kernel
theorem dX3_instalmentsFor_8 : decode cX3_instalmentsFor 8 = .ok (.ireturn, 1) := by decide +kernel
theorem dX3_instalmentsFor_9 : decode cX3_instalmentsFor 9 = .ok (.iload_n 0, 1) := by decide +kernel
theorem dX3_instalmentsFor_10 : decode cX3_instalmentsFor 10 = .ok (.sipush 5000, 3) := by decide +kernel
theorem dX3_instalmentsFor_13 : decode cX3_instalmentsFor 13 = .ok (.if_icmp .ge 5, 3) := by decide +kernel
theorem dX3_instalmentsFor_16 : decode cX3_instalmentsFor 16 = .ok (.iconst 2, 1) := by decide +kernel
theorem dX3_instalmentsFor_17 : decode cX3_instalmentsFor 17 = .ok (.ireturn, 1) := by decide +kernel
theorem dX3_instalmentsFor_18 : decode cX3_instalmentsFor 18 = .ok (.iload_n 0, 1) := by decide +kernel
theorem dX3_instalmentsFor_19 : decode cX3_instalmentsFor 19 = .ok (.sipush 20000, 3) := by decide +kernel
theorem dX3_instalmentsFor_22 : decode cX3_instalmentsFor 22 = .ok (.if_icmp .ge 7, 3) := by decide +kernel
theorem dX3_instalmentsFor_25 : decode cX3_instalmentsFor 25 = .ok (.iconst 3, 1) := by decide +kernel
theorem dX3_instalmentsFor_26 : decode cX3_instalmentsFor 26 = .ok (.goto 4, 3) := by decide +kernel
theorem dX3_instalmentsFor_29 : decode cX3_instalmentsFor 29 = .ok (.iconst 4, 1) := by decide +kernel
theorem dX3_instalmentsFor_30 : decode cX3_instalmentsFor 30 = .ok (.ireturn, 1) := by decide +kernel
theorem dX3_partOf_0 : decode cX3_partOf 0 = .ok (.iload_n 2, 1) := by decide +kernel
theorem dX3_partOf_1 : decode cX3_partOf 1 = .ok (.ifCond .lt 8, 3) := by decide +kernel
theorem dX3_partOf_4 : decode cX3_partOf 4 = .ok (.iload_n 2, 1) := by decide +kernel
theorem dX3_partOf_5 : decode cX3_partOf 5 = .ok (.iload_n 1, 1) := by decide +kernel
theorem dX3_partOf_6 : decode cX3_partOf 6 = .ok (.if_icmp .lt 5, 3) := by decide +kernel
theorem dX3_partOf_9 : decode cX3_partOf 9 = .ok (.iconst 0, 1) := by decide +kernel
theorem dX3_partOf_10 : decode cX3_partOf 10 = .ok (.ireturn, 1) := by decide +kernel
theorem dX3_partOf_11 : decode cX3_partOf 11 = .ok (.iload_n 0, 1) := by decide +kernel
theorem dX3_partOf_12 : decode cX3_partOf 12 = .ok (.iload_n 1, 1) := by decide +kernel
theorem dX3_partOf_13 : decode cX3_partOf 13 = .ok (.idiv, 1) := by decide +kernel
theorem dX3_partOf_14 : decode cX3_partOf 14 = .ok (.istore_n 3, 1) := by decide +kernel
theorem dX3_partOf_15 : decode cX3_partOf 15 = .ok (.iload_n 2, 1) := by decide +kernel
theorem dX3_partOf_16 : decode cX3_partOf 16 = .ok (.iload_n 1, 1) := by decide +kernel
theorem dX3_partOf_17 : decode cX3_partOf 17 = .ok (.iconst 1, 1) := by decide +kernel
theorem dX3_partOf_18 : decode cX3_partOf 18 = .ok (.isub, 1) := by decide +kernel
theorem dX3_partOf_19 : decode cX3_partOf 19 = .ok (.if_icmp .ne 11, 3) := by decide +kernel
theorem dX3_partOf_22 : decode cX3_partOf 22 = .ok (.iload_n 0, 1) := by decide +kernel
theorem dX3_partOf_23 : decode cX3_partOf 23 = .ok (.iload_n 2, 1) := by decide +kernel
theorem dX3_partOf_24 : decode cX3_partOf 24 = .ok (.iload_n 3, 1) := by decide +kernel
theorem dX3_partOf_25 : decode cX3_partOf 25 = .ok (.imul, 1) := by decide +kernel
theorem dX3_partOf_26 : decode cX3_partOf 26 = .ok (.isub, 1) := by decide +kernel
theorem dX3_partOf_27 : decode cX3_partOf 27 = .ok (.goto 4, 3) := by decide +kernel
theorem dX3_partOf_30 : decode cX3_partOf 30 = .ok (.iload_n 3, 1) := by decide +kernel
theorem dX3_partOf_31 : decode cX3_partOf 31 = .ok (.ireturn, 1) := by decide +kernel
theorem dX3_percentOf_0 : decode cX3_percentOf 0 = .ok (.iload_n 1, 1) := by decide +kernel
theorem dX3_percentOf_1 : decode cX3_percentOf 1 = .ok (.iload_n 0, 1) := by decide +kernel
theorem dX3_percentOf_2 : decode cX3_percentOf 2 = .ok (.imul, 1) := by decide +kernel
theorem dX3_percentOf_3 : decode cX3_percentOf 3 = .ok (.bipush 100, 2) := by decide +kernel
theorem dX3_percentOf_5 : decode cX3_percentOf 5 = .ok (.idiv, 1) := by decide +kernel
theorem dX3_percentOf_6 : decode cX3_percentOf 6 = .ok (.ireturn, 1) := by decide +kernel
