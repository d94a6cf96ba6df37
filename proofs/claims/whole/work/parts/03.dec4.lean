theorem dL_addPhase_0 : decode cL_addPhase 0 = .ok (.aload_n 1, 1) := by decide +kernel
theorem dL_addPhase_1 : decode cL_addPhase 1 = .ok (.iconst 0, 1) := by decide +kernel
theorem dL_addPhase_2 : decode cL_addPhase 2 = .ok (.aload_n 0, 1) := by decide +kernel
theorem dL_addPhase_3 : decode cL_addPhase 3 = .ok (.invokevirtual 7, 3) := by decide +kernel
theorem dL_addPhase_6 : decode cL_addPhase 6 = .ok (.i2l, 1) := by decide +kernel
theorem dL_addPhase_7 : decode cL_addPhase 7 = .ok (.lastore, 1) := by decide +kernel
theorem dL_addPhase_8 : decode cL_addPhase 8 = .ok (.goto 6, 3) := by decide +kernel
theorem dL_addPhase_11 : decode cL_addPhase 11 = .ok (.astore_n 2, 1) := by decide +kernel
theorem dL_addPhase_12 : decode cL_addPhase 12 = .ok (.iconst 1, 1) := by decide +kernel
theorem dL_addPhase_13 : decode cL_addPhase 13 = .ok (.ireturn, 1) := by decide +kernel
theorem dL_addPhase_14 : decode cL_addPhase 14 = .ok (.iconst 0, 1) := by decide +kernel
theorem dL_addPhase_15 : decode cL_addPhase 15 = .ok (.ireturn, 1) := by decide +kernel
theorem dL_area_0 : decode cL_area 0 = .ok (.aload 4, 2) := by decide +kernel
theorem dL_area_2 : decode cL_area 2 = .ok (.iconst 0, 1) := by decide +kernel
theorem dL_area_3 : decode cL_area 3 = .ok (.aload_n 0, 1) := by decide +kernel
theorem dL_area_4 : decode cL_area 4 = .ok (.iload_n 1, 1) := by decide +kernel
theorem dL_area_5 : decode cL_area 5 = .ok (.iload_n 2, 1) := by decide +kernel
theorem dL_area_6 : decode cL_area 6 = .ok (.iload_n 3, 1) := by decide +kernel
theorem dL_area_7 : decode cL_area 7 = .ok (.invokevirtual 15, 3) := by decide +kernel
theorem dL_area_10 : decode cL_area 10 = .ok (.i2l, 1) := by decide +kernel
theorem dL_area_11 : decode cL_area 11 = .ok (.lastore, 1) := by decide +kernel
theorem dL_area_12 : decode cL_area 12 = .ok (.goto 15, 3) := by decide +kernel
theorem dL_area_15 : decode cL_area 15 = .ok (.astore 5, 2) := by decide +kernel
theorem dL_area_17 : decode cL_area 17 = .ok (.iconst 1, 1) := by decide +kernel
theorem dL_area_18 : decode cL_area 18 = .ok (.ireturn, 1) := by decide +kernel
theorem dL_area_19 : decode cL_area 19 = .ok (.astore 5, 2) := by decide +kernel
theorem dL_area_21 : decode cL_area 21 = .ok (.iconst 2, 1) := by decide +kernel
theorem dL_area_22 : decode cL_area 22 = .ok (.ireturn, 1) := by decide +kernel
theorem dL_area_23 : decode cL_area 23 = .ok (.astore 5, 2) := by decide +kernel
theorem dL_area_25 : decode cL_area 25 = .ok (.iconst 3, 1) := by decide +kernel
theorem dL_area_26 : decode cL_area 26 = .ok (.ireturn, 1) := by decide +kernel
theorem dL_area_27 : decode cL_area 27 = .ok (.iconst 0, 1) := by decide +kernel
theorem dL_area_28 : decode cL_area 28 = .ok (.ireturn, 1) := by decide +kernel
theorem dL_exempt_0 : decode cL_exempt 0 = .ok (.aload 4, 2) := by decide +kernel
theorem dL_exempt_2 : decode cL_exempt 2 = .ok (.iconst 0, 1) := by decide +kernel
theorem dL_exempt_3 : decode cL_exempt 3 = .ok (.aload_n 0, 1) := by decide +kernel
theorem dL_exempt_4 : decode cL_exempt 4 = .ok (.iload_n 1, 1) := by decide +kernel
theorem dL_exempt_5 : decode cL_exempt 5 = .ok (.iload_n 2, 1) := by decide +kernel
theorem dL_exempt_6 : decode cL_exempt 6 = .ok (.iload_n 3, 1) := by decide +kernel
theorem dL_exempt_7 : decode cL_exempt 7 = .ok (.invokevirtual 23, 3) := by decide +kernel
theorem dL_exempt_10 : decode cL_exempt 10 = .ok (.i2l, 1) := by decide +kernel
theorem dL_exempt_11 : decode cL_exempt 11 = .ok (.lastore, 1) := by decide +kernel
theorem dL_exempt_12 : decode cL_exempt 12 = .ok (.goto 15, 3) := by decide +kernel
theorem dL_exempt_15 : decode cL_exempt 15 = .ok (.astore 5, 2) := by decide +kernel
theorem dL_exempt_17 : decode cL_exempt 17 = .ok (.iconst 1, 1) := by decide +kernel
theorem dL_exempt_18 : decode cL_exempt 18 = .ok (.ireturn, 1) := by decide +kernel
theorem dL_exempt_19 : decode cL_exempt 19 = .ok (.astore 5, 2) := by decide +kernel
theorem dL_exempt_21 : decode cL_exempt 21 = .ok (.iconst 2, 1) := by decide +kernel
theorem dL_exempt_22 : decode cL_exempt 22 = .ok (.ireturn, 1) := by decide +kernel
theorem dL_exempt_23 : decode cL_exempt 23 = .ok (.astore 5, 2) := by decide +kernel
theorem dL_exempt_25 : decode cL_exempt 25 = .ok (.iconst 3, 1) := by decide +kernel
theorem dL_exempt_26 : decode cL_exempt 26 = .ok (.ireturn, 1) := by decide +kernel
theorem dL_exempt_27 : decode cL_exempt 27 = .ok (.iconst 0, 1) := by decide +kernel
theorem dL_exempt_28 : decode cL_exempt 28 = .ok (.ireturn, 1) := by decide +kernel
theorem dL_rate_0 : decode cL_rate 0 = .ok (.aload_n 3, 1) := by decide +kernel
theorem dL_rate_1 : decode cL_rate 1 = .ok (.iconst 0, 1) := by decide +kernel
theorem dL_rate_2 : decode cL_rate 2 = .ok (.aload_n 0, 1) := by decide +kernel
theorem dL_rate_3 : decode cL_rate 3 = .ok (.iload_n 1, 1) := by decide +kernel
theorem dL_rate_4 : decode cL_rate 4 = .ok (.iload_n 2, 1) := by decide +kernel
theorem dL_rate_5 : decode cL_rate 5 = .ok (.invokevirtual 26, 3) := by decide +kernel
theorem dL_rate_8 : decode cL_rate 8 = .ok (.i2l, 1) := by decide +kernel
theorem dL_rate_9 : decode cL_rate 9 = .ok (.lastore, 1) := by decide +kernel
theorem dL_rate_10 : decode cL_rate 10 = .ok (.goto 11, 3) := by decide +kernel
theorem dL_rate_13 : decode cL_rate 13 = .ok (.astore 4, 2) := by decide +kernel
theorem dL_rate_15 : decode cL_rate 15 = .ok (.iconst 1, 1) := by decide +kernel
theorem dL_rate_16 : decode cL_rate 16 = .ok (.ireturn, 1) := by decide +kernel
theorem dL_rate_17 : decode cL_rate 17 = .ok (.astore 4, 2) := by decide +kernel
theorem dL_rate_19 : decode cL_rate 19 = .ok (.iconst 2, 1) := by decide +kernel
theorem dL_rate_20 : decode cL_rate 20 = .ok (.ireturn, 1) := by decide +kernel
theorem dL_rate_21 : decode cL_rate 21 = .ok (.iconst 0, 1) := by decide +kernel
theorem dL_rate_22 : decode cL_rate 22 = .ok (.ireturn, 1) := by decide +kernel
theorem dL_set_0 : decode cL_set 0 = .ok (.aload_n 3, 1) := by decide +kernel
theorem dL_set_1 : decode cL_set 1 = .ok (.iconst 0, 1) := by decide +kernel
theorem dL_set_2 : decode cL_set 2 = .ok (.aload_n 0, 1) := by decide +kernel
theorem dL_set_3 : decode cL_set 3 = .ok (.iload_n 1, 1) := by decide +kernel
theorem dL_set_4 : decode cL_set 4 = .ok (.iload_n 2, 1) := by decide +kernel
theorem dL_set_5 : decode cL_set 5 = .ok (.invokevirtual 30, 3) := by decide +kernel
theorem dL_set_8 : decode cL_set 8 = .ok (.i2l, 1) := by decide +kernel
theorem dL_set_9 : decode cL_set 9 = .ok (.lastore, 1) := by decide +kernel
theorem dL_set_10 : decode cL_set 10 = .ok (.goto 11, 3) := by decide +kernel
theorem dL_set_13 : decode cL_set 13 = .ok (.astore 4, 2) := by decide +kernel
theorem dL_set_15 : decode cL_set 15 = .ok (.iconst 1, 1) := by decide +kernel
theorem dL_set_16 : decode cL_set 16 = .ok (.ireturn, 1) := by decide +kernel
theorem dL_set_17 : decode cL_set 17 = .ok (.astore 4, 2) := by decide +kernel
theorem dL_set_19 : decode cL_set 19 = .ok (.iconst 2, 1) := by decide +kernel
theorem dL_set_20 : decode cL_set 20 = .ok (.ireturn, 1) := by decide +kernel
theorem dL_set_21 : decode cL_set 21 = .ok (.iconst 0, 1) := by decide +kernel
theorem dL_set_22 : decode cL_set 22 = .ok (.ireturn, 1) := by decide +kernel
theorem dL_begin_0 : decode cL_begin 0 = .ok (.aload_n 2, 1) := by decide +kernel
theorem dL_begin_1 : decode cL_begin 1 = .ok (.iconst 0, 1) := by decide +kernel
theorem dL_begin_2 : decode cL_begin 2 = .ok (.aload_n 0, 1) := by decide +kernel
theorem dL_begin_3 : decode cL_begin 3 = .ok (.iload_n 1, 1) := by decide +kernel
theorem dL_begin_4 : decode cL_begin 4 = .ok (.invokevirtual 33, 3) := by decide +kernel
theorem dL_begin_7 : decode cL_begin 7 = .ok (.i2l, 1) := by decide +kernel
theorem dL_begin_8 : decode cL_begin 8 = .ok (.lastore, 1) := by decide +kernel
theorem dL_begin_9 : decode cL_begin 9 = .ok (.goto 9, 3) := by decide +kernel
theorem dL_begin_12 : decode cL_begin 12 = .ok (.astore_n 3, 1) := by decide +kernel
theorem dL_begin_13 : decode cL_begin 13 = .ok (.iconst 1, 1) := by decide +kernel
theorem dL_begin_14 : decode cL_begin 14 = .ok (.ireturn, 1) := by decide +kernel
theorem dL_begin_15 : decode cL_begin 15 = .ok (.astore_n 3, 1) := by decide +kernel
theorem dL_begin_16 : decode cL_begin 16 = .ok (.iconst 2, 1) := by decide +kernel
theorem dL_begin_17 : decode cL_begin 17 = .ok (.ireturn, 1) := by decide +kernel
theorem dL_begin_18 : decode cL_begin 18 = .ok (.iconst 0, 1) := by decide +kernel
theorem dL_begin_19 : decode cL_begin 19 = .ok (.ireturn, 1) := by decide +kernel
theorem dL_pay_0 : decode cL_pay 0 = .ok (.aload_n 3, 1) := by decide +kernel
theorem dL_pay_1 : decode cL_pay 1 = .ok (.iconst 0, 1) := by decide +kernel
theorem dL_pay_2 : decode cL_pay 2 = .ok (.aload_n 0, 1) := by decide +kernel
theorem dL_pay_3 : decode cL_pay 3 = .ok (.iload_n 1, 1) := by decide +kernel
theorem dL_pay_4 : decode cL_pay 4 = .ok (.iload_n 2, 1) := by decide +kernel
theorem dL_pay_5 : decode cL_pay 5 = .ok (.invokevirtual 37, 3) := by decide +kernel
theorem dL_pay_8 : decode cL_pay 8 = .ok (.i2l, 1) := by decide +kernel
theorem dL_pay_9 : decode cL_pay 9 = .ok (.lastore, 1) := by decide +kernel
theorem dL_pay_10 : decode cL_pay 10 = .ok (.goto 15, 3) := by decide +kernel
theorem dL_pay_13 : decode cL_pay 13 = .ok (.astore 4, 2) := by decide +kernel
theorem dL_pay_15 : decode cL_pay 15 = .ok (.iconst 1, 1) := by decide +kernel
theorem dL_pay_16 : decode cL_pay 16 = .ok (.ireturn, 1) := by decide +kernel
theorem dL_pay_17 : decode cL_pay 17 = .ok (.astore 4, 2) := by decide +kernel
theorem dL_pay_19 : decode cL_pay 19 = .ok (.iconst 2, 1) := by decide +kernel
theorem dL_pay_20 : decode cL_pay 20 = .ok (.ireturn, 1) := by decide +kernel
theorem dL_pay_21 : decode cL_pay 21 = .ok (.astore 4, 2) := by decide +kernel
theorem dL_pay_23 : decode cL_pay 23 = .ok (.iconst 3, 1) := by decide +kernel
theorem dL_pay_24 : decode cL_pay 24 = .ok (.ireturn, 1) := by decide +kernel
theorem dL_pay_25 : decode cL_pay 25 = .ok (.iconst 0, 1) := by decide +kernel
theorem dL_pay_26 : decode cL_pay 26 = .ok (.ireturn, 1) := by decide +kernel
theorem dL_land_0 : decode cL_land 0 = .ok (.aload_n 3, 1) := by decide +kernel
theorem dL_land_1 : decode cL_land 1 = .ok (.iconst 0, 1) := by decide +kernel
theorem dL_land_2 : decode cL_land 2 = .ok (.aload_n 0, 1) := by decide +kernel
theorem dL_land_3 : decode cL_land 3 = .ok (.iload_n 1, 1) := by decide +kernel
theorem dL_land_4 : decode cL_land 4 = .ok (.iload_n 2, 1) := by decide +kernel
theorem dL_land_5 : decode cL_land 5 = .ok (.invokevirtual 40, 3) := by decide +kernel
theorem dL_land_8 : decode cL_land 8 = .ok (.i2l, 1) := by decide +kernel
theorem dL_land_9 : decode cL_land 9 = .ok (.lastore, 1) := by decide +kernel
theorem dL_land_10 : decode cL_land 10 = .ok (.goto 15, 3) := by decide +kernel
theorem dL_land_13 : decode cL_land 13 = .ok (.astore 4, 2) := by decide +kernel
theorem dL_land_15 : decode cL_land 15 = .ok (.iconst 1, 1) := by decide +kernel
theorem dL_land_16 : decode cL_land 16 = .ok (.ireturn, 1) := by decide +kernel
theorem dL_land_17 : decode cL_land 17 = .ok (.astore 4, 2) := by decide +kernel
theorem dL_land_19 : decode cL_land 19 = .ok (.iconst 2, 1) := by decide +kernel
theorem dL_land_20 : decode cL_land 20 = .ok (.ireturn, 1) := by decide +kernel
theorem dL_land_21 : decode cL_land 21 = .ok (.astore 4, 2) := by decide +kernel
theorem dL_land_23 : decode cL_land 23 = .ok (.iconst 3, 1) := by decide +kernel
theorem dL_land_24 : decode cL_land 24 = .ok (.ireturn, 1) := by decide +kernel
theorem dL_land_25 : decode cL_land 25 = .ok (.iconst 0, 1) := by decide +kernel
theorem dL_land_26 : decode cL_land 26 = .ok (.ireturn, 1) := by decide +kernel
theorem dL_lapse_0 : decode cL_lapse 0 = .ok (.aload_n 3, 1) := by decide +kernel
theorem dL_lapse_1 : decode cL_lapse 1 = .ok (.iconst 0, 1) := by decide +kernel
theorem dL_lapse_2 : decode cL_lapse 2 = .ok (.aload_n 0, 1) := by decide +kernel
theorem dL_lapse_3 : decode cL_lapse 3 = .ok (.iload_n 1, 1) := by decide +kernel
theorem dL_lapse_4 : decode cL_lapse 4 = .ok (.iload_n 2, 1) := by decide +kernel
theorem dL_lapse_5 : decode cL_lapse 5 = .ok (.invokevirtual 43, 3) := by decide +kernel
theorem dL_lapse_8 : decode cL_lapse 8 = .ok (.i2l, 1) := by decide +kernel
theorem dL_lapse_9 : decode cL_lapse 9 = .ok (.lastore, 1) := by decide +kernel
theorem dL_lapse_10 : decode cL_lapse 10 = .ok (.goto 11, 3) := by decide +kernel
theorem dL_lapse_13 : decode cL_lapse 13 = .ok (.astore 4, 2) := by decide +kernel
theorem dL_lapse_15 : decode cL_lapse 15 = .ok (.iconst 1, 1) := by decide +kernel
theorem dL_lapse_16 : decode cL_lapse 16 = .ok (.ireturn, 1) := by decide +kernel
theorem dL_lapse_17 : decode cL_lapse 17 = .ok (.astore 4, 2) := by decide +kernel
theorem dL_lapse_19 : decode cL_lapse 19 = .ok (.iconst 2, 1) := by decide +kernel
theorem dL_lapse_20 : decode cL_lapse 20 = .ok (.ireturn, 1) := by decide +kernel
theorem dL_lapse_21 : decode cL_lapse 21 = .ok (.iconst 0, 1) := by decide +kernel
theorem dL_lapse_22 : decode cL_lapse 22 = .ok (.ireturn, 1) := by decide +kernel
theorem dL_pass_0 : decode cL_pass 0 = .ok (.aload_n 2, 1) := by decide +kernel
theorem dL_pass_1 : decode cL_pass 1 = .ok (.iconst 0, 1) := by decide +kernel
theorem dL_pass_2 : decode cL_pass 2 = .ok (.aload_n 0, 1) := by decide +kernel
theorem dL_pass_3 : decode cL_pass 3 = .ok (.iload_n 1, 1) := by decide +kernel
theorem dL_pass_4 : decode cL_pass 4 = .ok (.invokevirtual 46, 3) := by decide +kernel
theorem dL_pass_7 : decode cL_pass 7 = .ok (.i2l, 1) := by decide +kernel
theorem dL_pass_8 : decode cL_pass 8 = .ok (.lastore, 1) := by decide +kernel
theorem dL_pass_9 : decode cL_pass 9 = .ok (.goto 9, 3) := by decide +kernel
theorem dL_pass_12 : decode cL_pass 12 = .ok (.astore_n 3, 1) := by decide +kernel
theorem dL_pass_13 : decode cL_pass 13 = .ok (.iconst 1, 1) := by decide +kernel
theorem dL_pass_14 : decode cL_pass 14 = .ok (.ireturn, 1) := by decide +kernel
theorem dL_pass_15 : decode cL_pass 15 = .ok (.astore_n 3, 1) := by decide +kernel
theorem dL_pass_16 : decode cL_pass 16 = .ok (.iconst 2, 1) := by decide +kernel
theorem dL_pass_17 : decode cL_pass 17 = .ok (.ireturn, 1) := by decide +kernel
theorem dL_pass_18 : decode cL_pass 18 = .ok (.iconst 0, 1) := by decide +kernel
theorem dL_pass_19 : decode cL_pass 19 = .ok (.ireturn, 1) := by decide +kernel
theorem dL_append_0 : decode cL_append 0 = .ok (.aload_n 2, 1) := by decide +kernel
theorem dL_append_1 : decode cL_append 1 = .ok (.iconst 0, 1) := by decide +kernel
theorem dL_append_2 : decode cL_append 2 = .ok (.aload_n 0, 1) := by decide +kernel
theorem dL_append_3 : decode cL_append 3 = .ok (.iload_n 1, 1) := by decide +kernel
theorem dL_append_4 : decode cL_append 4 = .ok (.invokevirtual 49, 3) := by decide +kernel
theorem dL_append_7 : decode cL_append 7 = .ok (.i2l, 1) := by decide +kernel
theorem dL_append_8 : decode cL_append 8 = .ok (.lastore, 1) := by decide +kernel
theorem dL_append_9 : decode cL_append 9 = .ok (.goto 9, 3) := by decide +kernel
theorem dL_append_12 : decode cL_append 12 = .ok (.astore_n 3, 1) := by decide +kernel
theorem dL_append_13 : decode cL_append 13 = .ok (.iconst 1, 1) := by decide +kernel
theorem dL_append_14 : decode cL_append 14 = .ok (.ireturn, 1) := by decide +kernel
theorem dL_append_15 : decode cL_append 15 = .ok (.astore_n 3, 1) := by decide +kernel
theorem dL_append_16 : decode cL_append 16 = .ok (.iconst 2, 1) := by decide +kernel
theorem dL_append_17 : decode cL_append 17 = .ok (.ireturn, 1) := by decide +kernel
theorem dL_append_18 : decode cL_append 18 = .ok (.iconst 0, 1) := by decide +kernel
theorem dL_append_19 : decode cL_append 19 = .ok (.ireturn, 1) := by decide +kernel
theorem dL_run_0 : decode cL_run 0 = .ok (.aload_n 1, 1) := by decide +kernel
theorem dL_run_1 : decode cL_run 1 = .ok (.iconst 0, 1) := by decide +kernel
theorem dL_run_2 : decode cL_run 2 = .ok (.aload_n 0, 1) := by decide +kernel
theorem dL_run_3 : decode cL_run 3 = .ok (.invokevirtual 52, 3) := by decide +kernel
theorem dL_run_6 : decode cL_run 6 = .ok (.i2l, 1) := by decide +kernel
theorem dL_run_7 : decode cL_run 7 = .ok (.lastore, 1) := by decide +kernel
theorem dL_run_8 : decode cL_run 8 = .ok (.goto 6, 3) := by decide +kernel
theorem dL_run_11 : decode cL_run 11 = .ok (.astore_n 2, 1) := by decide +kernel
theorem dL_run_12 : decode cL_run 12 = .ok (.iconst 1, 1) := by decide +kernel
theorem dL_run_13 : decode cL_run 13 = .ok (.ireturn, 1) := by decide +kernel
theorem dL_run_14 : decode cL_run 14 = .ok (.iconst 0, 1) := by decide +kernel
theorem dL_run_15 : decode cL_run 15 = .ok (.ireturn, 1) := by decide +kernel
theorem dL_undo_0 : decode cL_undo 0 = .ok (.aload_n 1, 1) := by decide +kernel
theorem dL_undo_1 : decode cL_undo 1 = .ok (.iconst 0, 1) := by decide +kernel
theorem dL_undo_2 : decode cL_undo 2 = .ok (.aload_n 0, 1) := by decide +kernel
theorem dL_undo_3 : decode cL_undo 3 = .ok (.invokevirtual 55, 3) := by decide +kernel
theorem dL_undo_6 : decode cL_undo 6 = .ok (.i2l, 1) := by decide +kernel
theorem dL_undo_7 : decode cL_undo 7 = .ok (.lastore, 1) := by decide +kernel
theorem dL_undo_8 : decode cL_undo 8 = .ok (.goto 6, 3) := by decide +kernel
theorem dL_undo_11 : decode cL_undo 11 = .ok (.astore_n 2, 1) := by decide +kernel
theorem dL_undo_12 : decode cL_undo 12 = .ok (.iconst 1, 1) := by decide +kernel
theorem dL_undo_13 : decode cL_undo 13 = .ok (.ireturn, 1) := by decide +kernel
theorem dL_undo_14 : decode cL_undo 14 = .ok (.iconst 0, 1) := by decide +kernel
theorem dL_undo_15 : decode cL_undo 15 = .ok (.ireturn, 1) := by decide +kernel
theorem dL_phase_0 : decode cL_phase 0 = .ok (.aload_n 3, 1) := by decide +kernel
theorem dL_phase_1 : decode cL_phase 1 = .ok (.iconst 0, 1) := by decide +kernel
theorem dL_phase_2 : decode cL_phase 2 = .ok (.aload_n 0, 1) := by decide +kernel
theorem dL_phase_3 : decode cL_phase 3 = .ok (.iload_n 1, 1) := by decide +kernel
theorem dL_phase_4 : decode cL_phase 4 = .ok (.iload_n 2, 1) := by decide +kernel
theorem dL_phase_5 : decode cL_phase 5 = .ok (.invokevirtual 58, 3) := by decide +kernel
theorem dL_phase_8 : decode cL_phase 8 = .ok (.i2l, 1) := by decide +kernel
theorem dL_phase_9 : decode cL_phase 9 = .ok (.lastore, 1) := by decide +kernel
theorem dL_phase_10 : decode cL_phase 10 = .ok (.goto 11, 3) := by decide +kernel
theorem dL_phase_13 : decode cL_phase 13 = .ok (.astore 4, 2) := by decide +kernel
theorem dL_phase_15 : decode cL_phase 15 = .ok (.iconst 1, 1) := by decide +kernel
theorem dL_phase_16 : decode cL_phase 16 = .ok (.ireturn, 1) := by decide +kernel
theorem dL_phase_17 : decode cL_phase 17 = .ok (.astore 4, 2) := by decide +kernel
theorem dL_phase_19 : decode cL_phase 19 = .ok (.iconst 2, 1) := by decide +kernel
theorem dL_phase_20 : decode cL_phase 20 = .ok (.ireturn, 1) := by decide +kernel
theorem dL_phase_21 : decode cL_phase 21 = .ok (.iconst 0, 1) := by decide +kernel
theorem dL_phase_22 : decode cL_phase 22 = .ok (.ireturn, 1) := by decide +kernel
theorem dL_use_0 : decode cL_use 0 = .ok (.aload 4, 2) := by decide +kernel
theorem dL_use_2 : decode cL_use 2 = .ok (.iconst 0, 1) := by decide +kernel
theorem dL_use_3 : decode cL_use 3 = .ok (.aload_n 0, 1) := by decide +kernel
theorem dL_use_4 : decode cL_use 4 = .ok (.iload_n 1, 1) := by decide +kernel
theorem dL_use_5 : decode cL_use 5 = .ok (.iload_n 2, 1) := by decide +kernel
theorem dL_use_6 : decode cL_use 6 = .ok (.iload_n 3, 1) := by decide +kernel
theorem dL_use_7 : decode cL_use 7 = .ok (.invokevirtual 61, 3) := by decide +kernel
theorem dL_use_10 : decode cL_use 10 = .ok (.i2l, 1) := by decide +kernel
theorem dL_use_11 : decode cL_use 11 = .ok (.lastore, 1) := by decide +kernel
theorem dL_use_12 : decode cL_use 12 = .ok (.goto 11, 3) := by decide +kernel
theorem dL_use_15 : decode cL_use 15 = .ok (.astore 5, 2) := by decide +kernel
theorem dL_use_17 : decode cL_use 17 = .ok (.iconst 1, 1) := by decide +kernel
theorem dL_use_18 : decode cL_use 18 = .ok (.ireturn, 1) := by decide +kernel
theorem dL_use_19 : decode cL_use 19 = .ok (.astore 5, 2) := by decide +kernel
theorem dL_use_21 : decode cL_use 21 = .ok (.iconst 2, 1) := by decide +kernel
theorem dL_use_22 : decode cL_use 22 = .ok (.ireturn, 1) := by decide +kernel
theorem dL_use_23 : decode cL_use 23 = .ok (.iconst 0, 1) := by decide +kernel
theorem dL_use_24 : decode cL_use 24 = .ok (.ireturn, 1) := by decide +kernel
theorem dL_instalment_0 : decode cL_instalment 0 = .ok (.aload 4, 2) := by decide +kernel
theorem dL_instalment_2 : decode cL_instalment 2 = .ok (.iconst 0, 1) := by decide +kernel
theorem dL_instalment_3 : decode cL_instalment 3 = .ok (.aload_n 0, 1) := by decide +kernel
theorem dL_instalment_4 : decode cL_instalment 4 = .ok (.iload_n 1, 1) := by decide +kernel
theorem dL_instalment_5 : decode cL_instalment 5 = .ok (.iload_n 2, 1) := by decide +kernel
theorem dL_instalment_6 : decode cL_instalment 6 = .ok (.iload_n 3, 1) := by decide +kernel
theorem dL_instalment_7 : decode cL_instalment 7 = .ok (.invokevirtual 64, 3) := by decide +kernel
theorem dL_instalment_10 : decode cL_instalment 10 = .ok (.i2l, 1) := by decide +kernel
theorem dL_instalment_11 : decode cL_instalment 11 = .ok (.lastore, 1) := by decide +kernel
theorem dL_instalment_12 : decode cL_instalment 12 = .ok (.goto 11, 3) := by decide +kernel
theorem dL_instalment_15 : decode cL_instalment 15 = .ok (.astore 5, 2) := by decide +kernel
theorem dL_instalment_17 : decode cL_instalment 17 = .ok (.iconst 1, 1) := by decide +kernel
theorem dL_instalment_18 : decode cL_instalment 18 = .ok (.ireturn, 1) := by decide +kernel
theorem dL_instalment_19 : decode cL_instalment 19 = .ok (.astore 5, 2) := by decide +kernel
theorem dL_instalment_21 : decode cL_instalment 21 = .ok (.iconst 2, 1) := by decide +kernel
theorem dL_instalment_22 : decode cL_instalment 22 = .ok (.ireturn, 1) := by decide +kernel
theorem dL_instalment_23 : decode cL_instalment 23 = .ok (.iconst 0, 1) := by decide +kernel
theorem dL_instalment_24 : decode cL_instalment 24 = .ok (.ireturn, 1) := by decide +kernel
theorem dL_count_0 : decode cL_count 0 = .ok (.aload_n 2, 1) := by decide +kernel
theorem dL_count_1 : decode cL_count 1 = .ok (.iconst 0, 1) := by decide +kernel
theorem dL_count_2 : decode cL_count 2 = .ok (.aload_n 0, 1) := by decide +kernel
theorem dL_count_3 : decode cL_count 3 = .ok (.iload_n 1, 1) := by decide +kernel
theorem dL_count_4 : decode cL_count 4 = .ok (.invokevirtual 67, 3) := by decide +kernel
theorem dL_count_7 : decode cL_count 7 = .ok (.i2l, 1) := by decide +kernel
theorem dL_count_8 : decode cL_count 8 = .ok (.lastore, 1) := by decide +kernel
theorem dL_count_9 : decode cL_count 9 = .ok (.goto 6, 3) := by decide +kernel
theorem dL_count_12 : decode cL_count 12 = .ok (.astore_n 3, 1) := by decide +kernel
theorem dL_count_13 : decode cL_count 13 = .ok (.iconst 1, 1) := by decide +kernel
theorem dL_count_14 : decode cL_count 14 = .ok (.ireturn, 1) := by decide +kernel
theorem dL_count_15 : decode cL_count 15 = .ok (.iconst 0, 1) := by decide +kernel
theorem dL_count_16 : decode cL_count 16 = .ok (.ireturn, 1) := by decide +kernel
theorem dL_setting_0 : decode cL_setting 0 = .ok (.aload_n 2, 1) := by decide +kernel
theorem dL_setting_1 : decode cL_setting 1 = .ok (.iconst 0, 1) := by decide +kernel
theorem dL_setting_2 : decode cL_setting 2 = .ok (.aload_n 0, 1) := by decide +kernel
theorem dL_setting_3 : decode cL_setting 3 = .ok (.iload_n 1, 1) := by decide +kernel
theorem dL_setting_4 : decode cL_setting 4 = .ok (.invokevirtual 70, 3) := by decide +kernel
theorem dL_setting_7 : decode cL_setting 7 = .ok (.i2l, 1) := by decide +kernel
theorem dL_setting_8 : decode cL_setting 8 = .ok (.lastore, 1) := by decide +kernel
theorem dL_setting_9 : decode cL_setting 9 = .ok (.goto 6, 3) := by decide +kernel
theorem dL_setting_12 : decode cL_setting 12 = .ok (.astore_n 3, 1) := by decide +kernel
theorem dL_setting_13 : decode cL_setting 13 = .ok (.iconst 1, 1) := by decide +kernel
theorem dL_setting_14 : decode cL_setting 14 = .ok (.ireturn, 1) := by decide +kernel
theorem dL_setting_15 : decode cL_setting 15 = .ok (.iconst 0, 1) := by decide +kernel
theorem dL_setting_16 : decode cL_setting 16 = .ok (.ireturn, 1) := by decide +kernel
theorem dL_whyNot_0 : decode cL_whyNot 0 = .ok (.aload 4, 2) := by decide +kernel
theorem dL_whyNot_2 : decode cL_whyNot 2 = .ok (.iconst 0, 1) := by decide +kernel
theorem dL_whyNot_3 : decode cL_whyNot 3 = .ok (.aload_n 0, 1) := by decide +kernel
theorem dL_whyNot_4 : decode cL_whyNot 4 = .ok (.iload_n 1, 1) := by decide +kernel
theorem dL_whyNot_5 : decode cL_whyNot 5 = .ok (.iload_n 2, 1) := by decide +kernel
theorem dL_whyNot_6 : decode cL_whyNot 6 = .ok (.iload_n 3, 1) := by decide +kernel
theorem dL_whyNot_7 : decode cL_whyNot 7 = .ok (.invokevirtual 73, 3) := by decide +kernel
theorem dL_whyNot_10 : decode cL_whyNot 10 = .ok (.i2l, 1) := by decide +kernel
theorem dL_whyNot_11 : decode cL_whyNot 11 = .ok (.lastore, 1) := by decide +kernel
theorem dL_whyNot_12 : decode cL_whyNot 12 = .ok (.goto 11, 3) := by decide +kernel
theorem dL_whyNot_15 : decode cL_whyNot 15 = .ok (.astore 5, 2) := by decide +kernel
theorem dL_whyNot_17 : decode cL_whyNot 17 = .ok (.iconst 1, 1) := by decide +kernel
theorem dL_whyNot_18 : decode cL_whyNot 18 = .ok (.ireturn, 1) := by decide +kernel
theorem dL_whyNot_19 : decode cL_whyNot 19 = .ok (.astore 5, 2) := by decide +kernel
theorem dL_whyNot_21 : decode cL_whyNot 21 = .ok (.iconst 2, 1) := by decide +kernel
theorem dL_whyNot_22 : decode cL_whyNot 22 = .ok (.ireturn, 1) := by decide +kernel
theorem dL_whyNot_23 : decode cL_whyNot 23 = .ok (.iconst 0, 1) := by decide +kernel
theorem dL_whyNot_24 : decode cL_whyNot 24 = .ok (.ireturn, 1) := by decide +kernel
theorem dL_ifBegun_0 : decode cL_ifBegun 0 = .ok (.aload_n 3, 1) := by decide +kernel
theorem dL_ifBegun_1 : decode cL_ifBegun 1 = .ok (.iconst 0, 1) := by decide +kernel
theorem dL_ifBegun_2 : decode cL_ifBegun 2 = .ok (.aload_n 0, 1) := by decide +kernel
theorem dL_ifBegun_3 : decode cL_ifBegun 3 = .ok (.iload_n 1, 1) := by decide +kernel
theorem dL_ifBegun_4 : decode cL_ifBegun 4 = .ok (.iload_n 2, 1) := by decide +kernel
theorem dL_ifBegun_5 : decode cL_ifBegun 5 = .ok (.invokevirtual 76, 3) := by decide +kernel
theorem dL_ifBegun_8 : decode cL_ifBegun 8 = .ok (.i2l, 1) := by decide +kernel
theorem dL_ifBegun_9 : decode cL_ifBegun 9 = .ok (.lastore, 1) := by decide +kernel
theorem dL_ifBegun_10 : decode cL_ifBegun 10 = .ok (.goto 11, 3) := by decide +kernel
theorem dL_ifBegun_13 : decode cL_ifBegun 13 = .ok (.astore 4, 2) := by decide +kernel
theorem dL_ifBegun_15 : decode cL_ifBegun 15 = .ok (.iconst 1, 1) := by decide +kernel
theorem dL_ifBegun_16 : decode cL_ifBegun 16 = .ok (.ireturn, 1) := by decide +kernel
theorem dL_ifBegun_17 : decode cL_ifBegun 17 = .ok (.astore 4, 2) := by decide +kernel
theorem dL_ifBegun_19 : decode cL_ifBegun 19 = .ok (.iconst 2, 1) := by decide +kernel
theorem dL_ifBegun_20 : decode cL_ifBegun 20 = .ok (.ireturn, 1) := by decide +kernel
theorem dL_ifBegun_21 : decode cL_ifBegun 21 = .ok (.iconst 0, 1) := by decide +kernel
theorem dL_ifBegun_22 : decode cL_ifBegun 22 = .ok (.ireturn, 1) := by decide +kernel
theorem dL_breaksIn_0 : decode cL_breaksIn 0 = .ok (.aload_n 2, 1) := by decide +kernel
theorem dL_breaksIn_1 : decode cL_breaksIn 1 = .ok (.iconst 0, 1) := by decide +kernel
theorem dL_breaksIn_2 : decode cL_breaksIn 2 = .ok (.aload_n 0, 1) := by decide +kernel
theorem dL_breaksIn_3 : decode cL_breaksIn 3 = .ok (.iload_n 1, 1) := by decide +kernel
theorem dL_breaksIn_4 : decode cL_breaksIn 4 = .ok (.invokevirtual 79, 3) := by decide +kernel
theorem dL_breaksIn_7 : decode cL_breaksIn 7 = .ok (.i2l, 1) := by decide +kernel
theorem dL_breaksIn_8 : decode cL_breaksIn 8 = .ok (.lastore, 1) := by decide +kernel
theorem dL_breaksIn_9 : decode cL_breaksIn 9 = .ok (.goto 6, 3) := by decide +kernel
theorem dL_breaksIn_12 : decode cL_breaksIn 12 = .ok (.astore_n 3, 1) := by decide +kernel
theorem dL_breaksIn_13 : decode cL_breaksIn 13 = .ok (.iconst 1, 1) := by decide +kernel
theorem dL_breaksIn_14 : decode cL_breaksIn 14 = .ok (.ireturn, 1) := by decide +kernel
theorem dL_breaksIn_15 : decode cL_breaksIn 15 = .ok (.iconst 0, 1) := by decide +kernel
theorem dL_breaksIn_16 : decode cL_breaksIn 16 = .ok (.ireturn, 1) := by decide +kernel
theorem dL_surchargesIn_0 : decode cL_surchargesIn 0 = .ok (.aload_n 2, 1) := by decide +kernel
theorem dL_surchargesIn_1 : decode cL_surchargesIn 1 = .ok (.iconst 0, 1) := by decide +kernel
theorem dL_surchargesIn_2 : decode cL_surchargesIn 2 = .ok (.aload_n 0, 1) := by decide +kernel
theorem dL_surchargesIn_3 : decode cL_surchargesIn 3 = .ok (.iload_n 1, 1) := by decide +kernel
theorem dL_surchargesIn_4 : decode cL_surchargesIn 4 = .ok (.invokevirtual 82, 3) := by decide +kernel
theorem dL_surchargesIn_7 : decode cL_surchargesIn 7 = .ok (.i2l, 1) := by decide +kernel
theorem dL_surchargesIn_8 : decode cL_surchargesIn 8 = .ok (.lastore, 1) := by decide +kernel
theorem dL_surchargesIn_9 : decode cL_surchargesIn 9 = .ok (.goto 6, 3) := by decide +kernel
theorem dL_surchargesIn_12 : decode cL_surchargesIn 12 = .ok (.astore_n 3, 1) := by decide +kernel
theorem dL_surchargesIn_13 : decode cL_surchargesIn 13 = .ok (.iconst 1, 1) := by decide +kernel
theorem dL_surchargesIn_14 : decode cL_surchargesIn 14 = .ok (.ireturn, 1) := by decide +kernel
theorem dL_surchargesIn_15 : decode cL_surchargesIn 15 = .ok (.iconst 0, 1) := by decide +kernel
theorem dL_surchargesIn_16 : decode cL_surchargesIn 16 = .ok (.ireturn, 1) := by decide +kernel
theorem dL_dueIn_0 : decode cL_dueIn 0 = .ok (.aload_n 3, 1) := by decide +kernel
theorem dL_dueIn_1 : decode cL_dueIn 1 = .ok (.iconst 0, 1) := by decide +kernel
theorem dL_dueIn_2 : decode cL_dueIn 2 = .ok (.aload_n 0, 1) := by decide +kernel
theorem dL_dueIn_3 : decode cL_dueIn 3 = .ok (.iload_n 1, 1) := by decide +kernel
theorem dL_dueIn_4 : decode cL_dueIn 4 = .ok (.iload_n 2, 1) := by decide +kernel
theorem dL_dueIn_5 : decode cL_dueIn 5 = .ok (.invokevirtual 85, 3) := by decide +kernel
theorem dL_dueIn_8 : decode cL_dueIn 8 = .ok (.i2l, 1) := by decide +kernel
theorem dL_dueIn_9 : decode cL_dueIn 9 = .ok (.lastore, 1) := by decide +kernel
theorem dL_dueIn_10 : decode cL_dueIn 10 = .ok (.goto 11, 3) := by decide +kernel
theorem dL_dueIn_13 : decode cL_dueIn 13 = .ok (.astore 4, 2) := by decide +kernel
theorem dL_dueIn_15 : decode cL_dueIn 15 = .ok (.iconst 1, 1) := by decide +kernel
theorem dL_dueIn_16 : decode cL_dueIn 16 = .ok (.ireturn, 1) := by decide +kernel
theorem dL_dueIn_17 : decode cL_dueIn 17 = .ok (.astore 4, 2) := by decide +kernel
theorem dL_dueIn_19 : decode cL_dueIn 19 = .ok (.iconst 2, 1) := by decide +kernel
theorem dL_dueIn_20 : decode cL_dueIn 20 = .ok (.ireturn, 1) := by decide +kernel
theorem dL_dueIn_21 : decode cL_dueIn 21 = .ok (.iconst 0, 1) := by decide +kernel
theorem dL_dueIn_22 : decode cL_dueIn 22 = .ok (.ireturn, 1) := by decide +kernel
