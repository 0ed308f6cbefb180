theorem d_L_part_0 : decode method_3_code 0 = .ok (.aload_n 2, 1) := by decide +kernel
theorem d_L_part_1 : decode method_3_code 1 = .ok (.iconst 0, 1) := by decide +kernel
theorem d_L_part_2 : decode method_3_code 2 = .ok (.aload_n 0, 1) := by decide +kernel
theorem d_L_part_3 : decode method_3_code 3 = .ok (.iload_n 1, 1) := by decide +kernel
theorem d_L_part_4 : decode method_3_code 4 = .ok (.invokevirtual 7, 3) := by decide +kernel
theorem d_L_part_7 : decode method_3_code 7 = .ok (.i2l, 1) := by decide +kernel
theorem d_L_part_8 : decode method_3_code 8 = .ok (.lastore, 1) := by decide +kernel
theorem d_L_part_9 : decode method_3_code 9 = .ok (.goto 9, 3) := by decide +kernel
theorem d_L_part_12 : decode method_3_code 12 = .ok (.astore_n 3, 1) := by decide +kernel
theorem d_L_part_13 : decode method_3_code 13 = .ok (.iconst 1, 1) := by decide +kernel
theorem d_L_part_14 : decode method_3_code 14 = .ok (.ireturn, 1) := by decide +kernel
theorem d_L_part_15 : decode method_3_code 15 = .ok (.astore_n 3, 1) := by decide +kernel
theorem d_L_part_16 : decode method_3_code 16 = .ok (.iconst 2, 1) := by decide +kernel
theorem d_L_part_17 : decode method_3_code 17 = .ok (.ireturn, 1) := by decide +kernel
theorem d_L_part_18 : decode method_3_code 18 = .ok (.iconst 0, 1) := by decide +kernel
theorem d_L_part_19 : decode method_3_code 19 = .ok (.ireturn, 1) := by decide +kernel
theorem d_L_step_0 : decode method_4_code 0 = .ok (.aload 5, 2) := by decide +kernel
theorem d_L_step_2 : decode method_4_code 2 = .ok (.iconst 0, 1) := by decide +kernel
theorem d_L_step_3 : decode method_4_code 3 = .ok (.aload_n 0, 1) := by decide +kernel
theorem d_L_step_4 : decode method_4_code 4 = .ok (.iload_n 1, 1) := by decide +kernel
theorem d_L_step_5 : decode method_4_code 5 = .ok (.iload_n 2, 1) := by decide +kernel
theorem d_L_step_6 : decode method_4_code 6 = .ok (.iload_n 3, 1) := by decide +kernel
theorem d_L_step_7 : decode method_4_code 7 = .ok (.iload 4, 2) := by decide +kernel
theorem d_L_step_9 : decode method_4_code 9 = .ok (.invokevirtual 17, 3) := by decide +kernel
theorem d_L_step_12 : decode method_4_code 12 = .ok (.i2l, 1) := by decide +kernel
theorem d_L_step_13 : decode method_4_code 13 = .ok (.lastore, 1) := by decide +kernel
theorem d_L_step_14 : decode method_4_code 14 = .ok (.goto 19, 3) := by decide +kernel
theorem d_L_step_17 : decode method_4_code 17 = .ok (.astore 6, 2) := by decide +kernel
theorem d_L_step_19 : decode method_4_code 19 = .ok (.iconst 1, 1) := by decide +kernel
theorem d_L_step_20 : decode method_4_code 20 = .ok (.ireturn, 1) := by decide +kernel
theorem d_L_step_21 : decode method_4_code 21 = .ok (.astore 6, 2) := by decide +kernel
theorem d_L_step_23 : decode method_4_code 23 = .ok (.iconst 2, 1) := by decide +kernel
theorem d_L_step_24 : decode method_4_code 24 = .ok (.ireturn, 1) := by decide +kernel
theorem d_L_step_25 : decode method_4_code 25 = .ok (.astore 6, 2) := by decide +kernel
theorem d_L_step_27 : decode method_4_code 27 = .ok (.iconst 3, 1) := by decide +kernel
theorem d_L_step_28 : decode method_4_code 28 = .ok (.ireturn, 1) := by decide +kernel
theorem d_L_step_29 : decode method_4_code 29 = .ok (.astore 6, 2) := by decide +kernel
theorem d_L_step_31 : decode method_4_code 31 = .ok (.iconst 4, 1) := by decide +kernel
theorem d_L_step_32 : decode method_4_code 32 = .ok (.ireturn, 1) := by decide +kernel
theorem d_L_step_33 : decode method_4_code 33 = .ok (.iconst 0, 1) := by decide +kernel
theorem d_L_step_34 : decode method_4_code 34 = .ok (.ireturn, 1) := by decide +kernel
theorem d_L_fails_0 : decode method_5_code 0 = .ok (.aload_n 0, 1) := by decide +kernel
theorem d_L_fails_1 : decode method_5_code 1 = .ok (.iload_n 1, 1) := by decide +kernel
theorem d_L_fails_2 : decode method_5_code 2 = .ok (.iload_n 2, 1) := by decide +kernel
theorem d_L_fails_3 : decode method_5_code 3 = .ok (.iload_n 3, 1) := by decide +kernel
theorem d_L_fails_4 : decode method_5_code 4 = .ok (.invokevirtual 25, 3) := by decide +kernel
theorem d_L_fails_7 : decode method_5_code 7 = .ok (.goto 11, 3) := by decide +kernel
theorem d_L_fails_10 : decode method_5_code 10 = .ok (.astore 4, 2) := by decide +kernel
theorem d_L_fails_12 : decode method_5_code 12 = .ok (.iconst 1, 1) := by decide +kernel
theorem d_L_fails_13 : decode method_5_code 13 = .ok (.ireturn, 1) := by decide +kernel
theorem d_L_fails_14 : decode method_5_code 14 = .ok (.astore 4, 2) := by decide +kernel
theorem d_L_fails_16 : decode method_5_code 16 = .ok (.iconst 2, 1) := by decide +kernel
theorem d_L_fails_17 : decode method_5_code 17 = .ok (.ireturn, 1) := by decide +kernel
theorem d_L_fails_18 : decode method_5_code 18 = .ok (.iconst 0, 1) := by decide +kernel
theorem d_L_fails_19 : decode method_5_code 19 = .ok (.ireturn, 1) := by decide +kernel
theorem d_L_turn_0 : decode method_6_code 0 = .ok (.aload_n 2, 1) := by decide +kernel
theorem d_L_turn_1 : decode method_6_code 1 = .ok (.iconst 0, 1) := by decide +kernel
theorem d_L_turn_2 : decode method_6_code 2 = .ok (.aload_n 0, 1) := by decide +kernel
theorem d_L_turn_3 : decode method_6_code 3 = .ok (.iload_n 1, 1) := by decide +kernel
theorem d_L_turn_4 : decode method_6_code 4 = .ok (.invokevirtual 29, 3) := by decide +kernel
theorem d_L_turn_7 : decode method_6_code 7 = .ok (.i2l, 1) := by decide +kernel
theorem d_L_turn_8 : decode method_6_code 8 = .ok (.lastore, 1) := by decide +kernel
theorem d_L_turn_9 : decode method_6_code 9 = .ok (.goto 9, 3) := by decide +kernel
theorem d_L_turn_12 : decode method_6_code 12 = .ok (.astore_n 3, 1) := by decide +kernel
theorem d_L_turn_13 : decode method_6_code 13 = .ok (.iconst 1, 1) := by decide +kernel
theorem d_L_turn_14 : decode method_6_code 14 = .ok (.ireturn, 1) := by decide +kernel
theorem d_L_turn_15 : decode method_6_code 15 = .ok (.astore_n 3, 1) := by decide +kernel
theorem d_L_turn_16 : decode method_6_code 16 = .ok (.iconst 2, 1) := by decide +kernel
theorem d_L_turn_17 : decode method_6_code 17 = .ok (.ireturn, 1) := by decide +kernel
theorem d_L_turn_18 : decode method_6_code 18 = .ok (.iconst 0, 1) := by decide +kernel
theorem d_L_turn_19 : decode method_6_code 19 = .ok (.ireturn, 1) := by decide +kernel
theorem d_L_run_0 : decode method_7_code 0 = .ok (.aload_n 2, 1) := by decide +kernel
theorem d_L_run_1 : decode method_7_code 1 = .ok (.iconst 0, 1) := by decide +kernel
theorem d_L_run_2 : decode method_7_code 2 = .ok (.aload_n 0, 1) := by decide +kernel
theorem d_L_run_3 : decode method_7_code 3 = .ok (.iload_n 1, 1) := by decide +kernel
theorem d_L_run_4 : decode method_7_code 4 = .ok (.invokevirtual 32, 3) := by decide +kernel
theorem d_L_run_7 : decode method_7_code 7 = .ok (.i2l, 1) := by decide +kernel
theorem d_L_run_8 : decode method_7_code 8 = .ok (.lastore, 1) := by decide +kernel
theorem d_L_run_9 : decode method_7_code 9 = .ok (.goto 6, 3) := by decide +kernel
theorem d_L_run_12 : decode method_7_code 12 = .ok (.astore_n 3, 1) := by decide +kernel
theorem d_L_run_13 : decode method_7_code 13 = .ok (.iconst 1, 1) := by decide +kernel
theorem d_L_run_14 : decode method_7_code 14 = .ok (.ireturn, 1) := by decide +kernel
theorem d_L_run_15 : decode method_7_code 15 = .ok (.iconst 0, 1) := by decide +kernel
theorem d_L_run_16 : decode method_7_code 16 = .ok (.ireturn, 1) := by decide +kernel
theorem d_L_again_0 : decode method_8_code 0 = .ok (.aload_n 2, 1) := by decide +kernel
theorem d_L_again_1 : decode method_8_code 1 = .ok (.iconst 0, 1) := by decide +kernel
theorem d_L_again_2 : decode method_8_code 2 = .ok (.aload_n 0, 1) := by decide +kernel
theorem d_L_again_3 : decode method_8_code 3 = .ok (.iload_n 1, 1) := by decide +kernel
theorem d_L_again_4 : decode method_8_code 4 = .ok (.invokevirtual 35, 3) := by decide +kernel
theorem d_L_again_7 : decode method_8_code 7 = .ok (.i2l, 1) := by decide +kernel
theorem d_L_again_8 : decode method_8_code 8 = .ok (.lastore, 1) := by decide +kernel
theorem d_L_again_9 : decode method_8_code 9 = .ok (.goto 9, 3) := by decide +kernel
theorem d_L_again_12 : decode method_8_code 12 = .ok (.astore_n 3, 1) := by decide +kernel
theorem d_L_again_13 : decode method_8_code 13 = .ok (.iconst 1, 1) := by decide +kernel
theorem d_L_again_14 : decode method_8_code 14 = .ok (.ireturn, 1) := by decide +kernel
theorem d_L_again_15 : decode method_8_code 15 = .ok (.astore_n 3, 1) := by decide +kernel
theorem d_L_again_16 : decode method_8_code 16 = .ok (.iconst 2, 1) := by decide +kernel
theorem d_L_again_17 : decode method_8_code 17 = .ok (.ireturn, 1) := by decide +kernel
theorem d_L_again_18 : decode method_8_code 18 = .ok (.iconst 0, 1) := by decide +kernel
theorem d_L_again_19 : decode method_8_code 19 = .ok (.ireturn, 1) := by decide +kernel
theorem d_L_interrupt_0 : decode method_9_code 0 = .ok (.aload_n 2, 1) := by decide +kernel
theorem d_L_interrupt_1 : decode method_9_code 1 = .ok (.iconst 0, 1) := by decide +kernel
theorem d_L_interrupt_2 : decode method_9_code 2 = .ok (.aload_n 0, 1) := by decide +kernel
theorem d_L_interrupt_3 : decode method_9_code 3 = .ok (.iload_n 1, 1) := by decide +kernel
theorem d_L_interrupt_4 : decode method_9_code 4 = .ok (.invokevirtual 38, 3) := by decide +kernel
theorem d_L_interrupt_7 : decode method_9_code 7 = .ok (.i2l, 1) := by decide +kernel
theorem d_L_interrupt_8 : decode method_9_code 8 = .ok (.lastore, 1) := by decide +kernel
theorem d_L_interrupt_9 : decode method_9_code 9 = .ok (.goto 9, 3) := by decide +kernel
theorem d_L_interrupt_12 : decode method_9_code 12 = .ok (.astore_n 3, 1) := by decide +kernel
theorem d_L_interrupt_13 : decode method_9_code 13 = .ok (.iconst 1, 1) := by decide +kernel
theorem d_L_interrupt_14 : decode method_9_code 14 = .ok (.ireturn, 1) := by decide +kernel
theorem d_L_interrupt_15 : decode method_9_code 15 = .ok (.astore_n 3, 1) := by decide +kernel
theorem d_L_interrupt_16 : decode method_9_code 16 = .ok (.iconst 2, 1) := by decide +kernel
theorem d_L_interrupt_17 : decode method_9_code 17 = .ok (.ireturn, 1) := by decide +kernel
theorem d_L_interrupt_18 : decode method_9_code 18 = .ok (.iconst 0, 1) := by decide +kernel
theorem d_L_interrupt_19 : decode method_9_code 19 = .ok (.ireturn, 1) := by decide +kernel
theorem d_L_restart_0 : decode method_10_code 0 = .ok (.aload_n 0, 1) := by decide +kernel
theorem d_L_restart_1 : decode method_10_code 1 = .ok (.iload_n 1, 1) := by decide +kernel
theorem d_L_restart_2 : decode method_10_code 2 = .ok (.invokevirtual 41, 3) := by decide +kernel
theorem d_L_restart_5 : decode method_10_code 5 = .ok (.goto 9, 3) := by decide +kernel
theorem d_L_restart_8 : decode method_10_code 8 = .ok (.astore_n 2, 1) := by decide +kernel
theorem d_L_restart_9 : decode method_10_code 9 = .ok (.iconst 1, 1) := by decide +kernel
theorem d_L_restart_10 : decode method_10_code 10 = .ok (.ireturn, 1) := by decide +kernel
theorem d_L_restart_11 : decode method_10_code 11 = .ok (.astore_n 2, 1) := by decide +kernel
theorem d_L_restart_12 : decode method_10_code 12 = .ok (.iconst 2, 1) := by decide +kernel
theorem d_L_restart_13 : decode method_10_code 13 = .ok (.ireturn, 1) := by decide +kernel
theorem d_L_restart_14 : decode method_10_code 14 = .ok (.iconst 0, 1) := by decide +kernel
theorem d_L_restart_15 : decode method_10_code 15 = .ok (.ireturn, 1) := by decide +kernel
theorem d_L_log_0 : decode method_11_code 0 = .ok (.aload_n 2, 1) := by decide +kernel
theorem d_L_log_1 : decode method_11_code 1 = .ok (.iconst 0, 1) := by decide +kernel
theorem d_L_log_2 : decode method_11_code 2 = .ok (.aload_n 0, 1) := by decide +kernel
theorem d_L_log_3 : decode method_11_code 3 = .ok (.iload_n 1, 1) := by decide +kernel
theorem d_L_log_4 : decode method_11_code 4 = .ok (.invokevirtual 45, 3) := by decide +kernel
theorem d_L_log_7 : decode method_11_code 7 = .ok (.i2l, 1) := by decide +kernel
theorem d_L_log_8 : decode method_11_code 8 = .ok (.lastore, 1) := by decide +kernel
theorem d_L_log_9 : decode method_11_code 9 = .ok (.goto 6, 3) := by decide +kernel
theorem d_L_log_12 : decode method_11_code 12 = .ok (.astore_n 3, 1) := by decide +kernel
theorem d_L_log_13 : decode method_11_code 13 = .ok (.iconst 1, 1) := by decide +kernel
theorem d_L_log_14 : decode method_11_code 14 = .ok (.ireturn, 1) := by decide +kernel
theorem d_L_log_15 : decode method_11_code 15 = .ok (.iconst 0, 1) := by decide +kernel
theorem d_L_log_16 : decode method_11_code 16 = .ok (.ireturn, 1) := by decide +kernel
theorem d_L_place_0 : decode method_12_code 0 = .ok (.aload_n 3, 1) := by decide +kernel
theorem d_L_place_1 : decode method_12_code 1 = .ok (.iconst 0, 1) := by decide +kernel
theorem d_L_place_2 : decode method_12_code 2 = .ok (.aload_n 0, 1) := by decide +kernel
theorem d_L_place_3 : decode method_12_code 3 = .ok (.iload_n 1, 1) := by decide +kernel
theorem d_L_place_4 : decode method_12_code 4 = .ok (.iload_n 2, 1) := by decide +kernel
theorem d_L_place_5 : decode method_12_code 5 = .ok (.invokevirtual 48, 3) := by decide +kernel
theorem d_L_place_8 : decode method_12_code 8 = .ok (.i2l, 1) := by decide +kernel
theorem d_L_place_9 : decode method_12_code 9 = .ok (.lastore, 1) := by decide +kernel
theorem d_L_place_10 : decode method_12_code 10 = .ok (.goto 7, 3) := by decide +kernel
theorem d_L_place_13 : decode method_12_code 13 = .ok (.astore 4, 2) := by decide +kernel
theorem d_L_place_15 : decode method_12_code 15 = .ok (.iconst 1, 1) := by decide +kernel
theorem d_L_place_16 : decode method_12_code 16 = .ok (.ireturn, 1) := by decide +kernel
theorem d_L_place_17 : decode method_12_code 17 = .ok (.iconst 0, 1) := by decide +kernel
theorem d_L_place_18 : decode method_12_code 18 = .ok (.ireturn, 1) := by decide +kernel
theorem d_L_message_0 : decode method_13_code 0 = .ok (.aload_n 3, 1) := by decide +kernel
theorem d_L_message_1 : decode method_13_code 1 = .ok (.iconst 0, 1) := by decide +kernel
theorem d_L_message_2 : decode method_13_code 2 = .ok (.aload_n 0, 1) := by decide +kernel
theorem d_L_message_3 : decode method_13_code 3 = .ok (.iload_n 1, 1) := by decide +kernel
theorem d_L_message_4 : decode method_13_code 4 = .ok (.iload_n 2, 1) := by decide +kernel
theorem d_L_message_5 : decode method_13_code 5 = .ok (.invokevirtual 52, 3) := by decide +kernel
theorem d_L_message_8 : decode method_13_code 8 = .ok (.i2l, 1) := by decide +kernel
theorem d_L_message_9 : decode method_13_code 9 = .ok (.lastore, 1) := by decide +kernel
theorem d_L_message_10 : decode method_13_code 10 = .ok (.goto 11, 3) := by decide +kernel
theorem d_L_message_13 : decode method_13_code 13 = .ok (.astore 4, 2) := by decide +kernel
theorem d_L_message_15 : decode method_13_code 15 = .ok (.iconst 1, 1) := by decide +kernel
theorem d_L_message_16 : decode method_13_code 16 = .ok (.ireturn, 1) := by decide +kernel
theorem d_L_message_17 : decode method_13_code 17 = .ok (.astore 4, 2) := by decide +kernel
theorem d_L_message_19 : decode method_13_code 19 = .ok (.iconst 2, 1) := by decide +kernel
theorem d_L_message_20 : decode method_13_code 20 = .ok (.ireturn, 1) := by decide +kernel
theorem d_L_message_21 : decode method_13_code 21 = .ok (.iconst 0, 1) := by decide +kernel
theorem d_L_message_22 : decode method_13_code 22 = .ok (.ireturn, 1) := by decide +kernel
theorem d_L_told_0 : decode method_14_code 0 = .ok (.aload_n 3, 1) := by decide +kernel
theorem d_L_told_1 : decode method_14_code 1 = .ok (.iconst 0, 1) := by decide +kernel
theorem d_L_told_2 : decode method_14_code 2 = .ok (.aload_n 0, 1) := by decide +kernel
theorem d_L_told_3 : decode method_14_code 3 = .ok (.iload_n 1, 1) := by decide +kernel
theorem d_L_told_4 : decode method_14_code 4 = .ok (.iload_n 2, 1) := by decide +kernel
theorem d_L_told_5 : decode method_14_code 5 = .ok (.invokevirtual 55, 3) := by decide +kernel
theorem d_L_told_8 : decode method_14_code 8 = .ok (.i2l, 1) := by decide +kernel
theorem d_L_told_9 : decode method_14_code 9 = .ok (.lastore, 1) := by decide +kernel
theorem d_L_told_10 : decode method_14_code 10 = .ok (.goto 11, 3) := by decide +kernel
theorem d_L_told_13 : decode method_14_code 13 = .ok (.astore 4, 2) := by decide +kernel
theorem d_L_told_15 : decode method_14_code 15 = .ok (.iconst 1, 1) := by decide +kernel
theorem d_L_told_16 : decode method_14_code 16 = .ok (.ireturn, 1) := by decide +kernel
theorem d_L_told_17 : decode method_14_code 17 = .ok (.astore 4, 2) := by decide +kernel
theorem d_L_told_19 : decode method_14_code 19 = .ok (.iconst 2, 1) := by decide +kernel
theorem d_L_told_20 : decode method_14_code 20 = .ok (.ireturn, 1) := by decide +kernel
theorem d_L_told_21 : decode method_14_code 21 = .ok (.iconst 0, 1) := by decide +kernel
theorem d_L_told_22 : decode method_14_code 22 = .ok (.ireturn, 1) := by decide +kernel
theorem d_L_law_0 : decode code 0 = .ok (.new 8, 3) := by decide +kernel
theorem d_L_law_3 : decode code 3 = .ok (.dup, 1) := by decide +kernel
theorem d_L_law_4 : decode code 4 = .ok (.invokespecial 58, 3) := by decide +kernel
theorem d_L_law_7 : decode code 7 = .ok (.astore_n 1, 1) := by decide +kernel
theorem d_L_law_8 : decode code 8 = .ok (.new 59, 3) := by decide +kernel
theorem d_L_law_11 : decode code 11 = .ok (.dup, 1) := by decide +kernel
theorem d_L_law_12 : decode code 12 = .ok (.invokespecial 61, 3) := by decide +kernel
theorem d_L_law_15 : decode code 15 = .ok (.astore_n 2, 1) := by decide +kernel
theorem d_L_law_16 : decode code 16 = .ok (.iconst 1, 1) := by decide +kernel
theorem d_L_law_17 : decode code 17 = .ok (.newarray .long, 2) := by decide +kernel
theorem d_L_law_19 : decode code 19 = .ok (.astore_n 3, 1) := by decide +kernel
theorem d_L_law_20 : decode code 20 = .ok (.iconst 0, 1) := by decide +kernel
theorem d_L_law_21 : decode code 21 = .ok (.istore 4, 2) := by decide +kernel
theorem d_L_law_23 : decode code 23 = .ok (.iload 4, 2) := by decide +kernel
theorem d_L_law_25 : decode code 25 = .ok (.aload_n 0, 1) := by decide +kernel
theorem d_L_law_26 : decode code 26 = .ok (.arraylength, 1) := by decide +kernel
theorem d_L_law_27 : decode code 27 = .ok (.iconst 5, 1) := by decide +kernel
theorem d_L_law_28 : decode code 28 = .ok (.isub, 1) := by decide +kernel
theorem d_L_law_29 : decode code 29 = .ok (.if_icmp .gt 910, 3) := by decide +kernel
theorem d_L_law_32 : decode code 32 = .ok (.aload_n 0, 1) := by decide +kernel
theorem d_L_law_33 : decode code 33 = .ok (.iload 4, 2) := by decide +kernel
theorem d_L_law_35 : decode code 35 = .ok (.iaload, 1) := by decide +kernel
theorem d_L_law_36 : decode code 36 = .ok (.bipush 15, 2) := by decide +kernel
theorem d_L_law_38 : decode code 38 = .ok (.iand, 1) := by decide +kernel
theorem d_L_law_39 : decode code 39 = .ok (.tableswitch 894 0 14 #[73, 129, 221, 297, 336, 392, 448, 504, 560, 596, 609, 665, 733, 801, 869], 73) := by decide +kernel
theorem d_L_law_112 : decode code 112 = .ok (.aload_n 1, 1) := by decide +kernel
theorem d_L_law_113 : decode code 113 = .ok (.aload_n 0, 1) := by decide +kernel
theorem d_L_law_114 : decode code 114 = .ok (.iload 4, 2) := by decide +kernel
theorem d_L_law_116 : decode code 116 = .ok (.iconst 1, 1) := by decide +kernel
theorem d_L_law_117 : decode code 117 = .ok (.iadd, 1) := by decide +kernel
theorem d_L_law_118 : decode code 118 = .ok (.iaload, 1) := by decide +kernel
theorem d_L_law_119 : decode code 119 = .ok (.aload_n 3, 1) := by decide +kernel
theorem d_L_law_120 : decode code 120 = .ok (.invokestatic 62, 3) := by decide +kernel
theorem d_L_law_123 : decode code 123 = .ok (.istore 5, 2) := by decide +kernel
theorem d_L_law_125 : decode code 125 = .ok (.aload_n 2, 1) := by decide +kernel
theorem d_L_law_126 : decode code 126 = .ok (.aload_n 0, 1) := by decide +kernel
theorem d_L_law_127 : decode code 127 = .ok (.iload 4, 2) := by decide +kernel
theorem d_L_law_129 : decode code 129 = .ok (.iconst 1, 1) := by decide +kernel
theorem d_L_law_130 : decode code 130 = .ok (.iadd, 1) := by decide +kernel
theorem d_L_law_131 : decode code 131 = .ok (.iaload, 1) := by decide +kernel
theorem d_L_law_132 : decode code 132 = .ok (.invokevirtual 67, 3) := by decide +kernel
theorem d_L_law_135 : decode code 135 = .ok (.istore 6, 2) := by decide +kernel
theorem d_L_law_137 : decode code 137 = .ok (.aload_n 2, 1) := by decide +kernel
theorem d_L_law_138 : decode code 138 = .ok (.invokevirtual 68, 3) := by decide +kernel
theorem d_L_law_141 : decode code 141 = .ok (.iload 5, 2) := by decide +kernel
theorem d_L_law_143 : decode code 143 = .ok (.if_icmp .eq 5, 3) := by decide +kernel
theorem d_L_law_146 : decode code 146 = .ok (.iconst 0, 1) := by decide +kernel
theorem d_L_law_147 : decode code 147 = .ok (.ireturn, 1) := by decide +kernel
theorem d_L_law_148 : decode code 148 = .ok (.iload 5, 2) := by decide +kernel
theorem d_L_law_150 : decode code 150 = .ok (.ifCond .ne 15, 3) := by decide +kernel
theorem d_L_law_153 : decode code 153 = .ok (.aload_n 3, 1) := by decide +kernel
theorem d_L_law_154 : decode code 154 = .ok (.iconst 0, 1) := by decide +kernel
theorem d_L_law_155 : decode code 155 = .ok (.laload, 1) := by decide +kernel
theorem d_L_law_156 : decode code 156 = .ok (.iload 6, 2) := by decide +kernel
theorem d_L_law_158 : decode code 158 = .ok (.i2l, 1) := by decide +kernel
theorem d_L_law_159 : decode code 159 = .ok (.lcmp, 1) := by decide +kernel
theorem d_L_law_160 : decode code 160 = .ok (.ifCond .eq 5, 3) := by decide +kernel
theorem d_L_law_163 : decode code 163 = .ok (.iconst 0, 1) := by decide +kernel
theorem d_L_law_164 : decode code 164 = .ok (.ireturn, 1) := by decide +kernel
theorem d_L_law_165 : decode code 165 = .ok (.goto 768, 3) := by decide +kernel
theorem d_L_law_168 : decode code 168 = .ok (.aload_n 1, 1) := by decide +kernel
theorem d_L_law_169 : decode code 169 = .ok (.aload_n 0, 1) := by decide +kernel
theorem d_L_law_170 : decode code 170 = .ok (.iload 4, 2) := by decide +kernel
theorem d_L_law_172 : decode code 172 = .ok (.iconst 1, 1) := by decide +kernel
theorem d_L_law_173 : decode code 173 = .ok (.iadd, 1) := by decide +kernel
theorem d_L_law_174 : decode code 174 = .ok (.iaload, 1) := by decide +kernel
theorem d_L_law_175 : decode code 175 = .ok (.aload_n 0, 1) := by decide +kernel
theorem d_L_law_176 : decode code 176 = .ok (.iload 4, 2) := by decide +kernel
theorem d_L_law_178 : decode code 178 = .ok (.iconst 2, 1) := by decide +kernel
theorem d_L_law_179 : decode code 179 = .ok (.iadd, 1) := by decide +kernel
theorem d_L_law_180 : decode code 180 = .ok (.iaload, 1) := by decide +kernel
theorem d_L_law_181 : decode code 181 = .ok (.aload_n 0, 1) := by decide +kernel
theorem d_L_law_182 : decode code 182 = .ok (.iload 4, 2) := by decide +kernel
theorem d_L_law_184 : decode code 184 = .ok (.iconst 3, 1) := by decide +kernel
theorem d_L_law_185 : decode code 185 = .ok (.iadd, 1) := by decide +kernel
theorem d_L_law_186 : decode code 186 = .ok (.iaload, 1) := by decide +kernel
theorem d_L_law_187 : decode code 187 = .ok (.aload_n 0, 1) := by decide +kernel
theorem d_L_law_188 : decode code 188 = .ok (.iload 4, 2) := by decide +kernel
theorem d_L_law_190 : decode code 190 = .ok (.iconst 4, 1) := by decide +kernel
theorem d_L_law_191 : decode code 191 = .ok (.iadd, 1) := by decide +kernel
theorem d_L_law_192 : decode code 192 = .ok (.iaload, 1) := by decide +kernel
theorem d_L_law_193 : decode code 193 = .ok (.aload_n 3, 1) := by decide +kernel
theorem d_L_law_194 : decode code 194 = .ok (.invokestatic 72, 3) := by decide +kernel
theorem d_L_law_197 : decode code 197 = .ok (.istore 5, 2) := by decide +kernel
theorem d_L_law_199 : decode code 199 = .ok (.aload_n 2, 1) := by decide +kernel
theorem d_L_law_200 : decode code 200 = .ok (.aload_n 0, 1) := by decide +kernel
theorem d_L_law_201 : decode code 201 = .ok (.iload 4, 2) := by decide +kernel
theorem d_L_law_203 : decode code 203 = .ok (.iconst 1, 1) := by decide +kernel
theorem d_L_law_204 : decode code 204 = .ok (.iadd, 1) := by decide +kernel
theorem d_L_law_205 : decode code 205 = .ok (.iaload, 1) := by decide +kernel
theorem d_L_law_206 : decode code 206 = .ok (.aload_n 0, 1) := by decide +kernel
theorem d_L_law_207 : decode code 207 = .ok (.iload 4, 2) := by decide +kernel
theorem d_L_law_209 : decode code 209 = .ok (.iconst 2, 1) := by decide +kernel
theorem d_L_law_210 : decode code 210 = .ok (.iadd, 1) := by decide +kernel
theorem d_L_law_211 : decode code 211 = .ok (.iaload, 1) := by decide +kernel
theorem d_L_law_212 : decode code 212 = .ok (.aload_n 0, 1) := by decide +kernel
theorem d_L_law_213 : decode code 213 = .ok (.iload 4, 2) := by decide +kernel
theorem d_L_law_215 : decode code 215 = .ok (.iconst 3, 1) := by decide +kernel
theorem d_L_law_216 : decode code 216 = .ok (.iadd, 1) := by decide +kernel
theorem d_L_law_217 : decode code 217 = .ok (.iaload, 1) := by decide +kernel
theorem d_L_law_218 : decode code 218 = .ok (.aload_n 0, 1) := by decide +kernel
theorem d_L_law_219 : decode code 219 = .ok (.iload 4, 2) := by decide +kernel
theorem d_L_law_221 : decode code 221 = .ok (.iconst 4, 1) := by decide +kernel
theorem d_L_law_222 : decode code 222 = .ok (.iadd, 1) := by decide +kernel
theorem d_L_law_223 : decode code 223 = .ok (.iaload, 1) := by decide +kernel
theorem d_L_law_224 : decode code 224 = .ok (.invokevirtual 75, 3) := by decide +kernel
theorem d_L_law_227 : decode code 227 = .ok (.istore 6, 2) := by decide +kernel
theorem d_L_law_229 : decode code 229 = .ok (.aload_n 2, 1) := by decide +kernel
theorem d_L_law_230 : decode code 230 = .ok (.invokevirtual 68, 3) := by decide +kernel
theorem d_L_law_233 : decode code 233 = .ok (.iload 5, 2) := by decide +kernel
theorem d_L_law_235 : decode code 235 = .ok (.if_icmp .eq 5, 3) := by decide +kernel
theorem d_L_law_238 : decode code 238 = .ok (.iconst 0, 1) := by decide +kernel
theorem d_L_law_239 : decode code 239 = .ok (.ireturn, 1) := by decide +kernel
theorem d_L_law_240 : decode code 240 = .ok (.iload 5, 2) := by decide +kernel
theorem d_L_law_242 : decode code 242 = .ok (.ifCond .ne 15, 3) := by decide +kernel
theorem d_L_law_245 : decode code 245 = .ok (.aload_n 3, 1) := by decide +kernel
theorem d_L_law_246 : decode code 246 = .ok (.iconst 0, 1) := by decide +kernel
theorem d_L_law_247 : decode code 247 = .ok (.laload, 1) := by decide +kernel
theorem d_L_law_248 : decode code 248 = .ok (.iload 6, 2) := by decide +kernel
theorem d_L_law_250 : decode code 250 = .ok (.i2l, 1) := by decide +kernel
theorem d_L_law_251 : decode code 251 = .ok (.lcmp, 1) := by decide +kernel
theorem d_L_law_252 : decode code 252 = .ok (.ifCond .eq 5, 3) := by decide +kernel
theorem d_L_law_255 : decode code 255 = .ok (.iconst 0, 1) := by decide +kernel
theorem d_L_law_256 : decode code 256 = .ok (.ireturn, 1) := by decide +kernel
theorem d_L_law_257 : decode code 257 = .ok (.goto 676, 3) := by decide +kernel
theorem d_L_law_260 : decode code 260 = .ok (.aload_n 1, 1) := by decide +kernel
theorem d_L_law_261 : decode code 261 = .ok (.aload_n 0, 1) := by decide +kernel
theorem d_L_law_262 : decode code 262 = .ok (.iload 4, 2) := by decide +kernel
theorem d_L_law_264 : decode code 264 = .ok (.iconst 1, 1) := by decide +kernel
theorem d_L_law_265 : decode code 265 = .ok (.iadd, 1) := by decide +kernel
theorem d_L_law_266 : decode code 266 = .ok (.iaload, 1) := by decide +kernel
theorem d_L_law_267 : decode code 267 = .ok (.aload_n 0, 1) := by decide +kernel
theorem d_L_law_268 : decode code 268 = .ok (.iload 4, 2) := by decide +kernel
theorem d_L_law_270 : decode code 270 = .ok (.iconst 2, 1) := by decide +kernel
theorem d_L_law_271 : decode code 271 = .ok (.iadd, 1) := by decide +kernel
theorem d_L_law_272 : decode code 272 = .ok (.iaload, 1) := by decide +kernel
theorem d_L_law_273 : decode code 273 = .ok (.aload_n 0, 1) := by decide +kernel
theorem d_L_law_274 : decode code 274 = .ok (.iload 4, 2) := by decide +kernel
theorem d_L_law_276 : decode code 276 = .ok (.iconst 3, 1) := by decide +kernel
theorem d_L_law_277 : decode code 277 = .ok (.iadd, 1) := by decide +kernel
theorem d_L_law_278 : decode code 278 = .ok (.iaload, 1) := by decide +kernel
theorem d_L_law_279 : decode code 279 = .ok (.ifCond .eq 7, 3) := by decide +kernel
theorem d_L_law_282 : decode code 282 = .ok (.iconst 1, 1) := by decide +kernel
theorem d_L_law_283 : decode code 283 = .ok (.goto 4, 3) := by decide +kernel
theorem d_L_law_286 : decode code 286 = .ok (.iconst 0, 1) := by decide +kernel
theorem d_L_law_287 : decode code 287 = .ok (.invokestatic 76, 3) := by decide +kernel
theorem d_L_law_290 : decode code 290 = .ok (.istore 5, 2) := by decide +kernel
theorem d_L_law_292 : decode code 292 = .ok (.aload_n 2, 1) := by decide +kernel
theorem d_L_law_293 : decode code 293 = .ok (.aload_n 0, 1) := by decide +kernel
theorem d_L_law_294 : decode code 294 = .ok (.iload 4, 2) := by decide +kernel
theorem d_L_law_296 : decode code 296 = .ok (.iconst 1, 1) := by decide +kernel
theorem d_L_law_297 : decode code 297 = .ok (.iadd, 1) := by decide +kernel
theorem d_L_law_298 : decode code 298 = .ok (.iaload, 1) := by decide +kernel
theorem d_L_law_299 : decode code 299 = .ok (.aload_n 0, 1) := by decide +kernel
theorem d_L_law_300 : decode code 300 = .ok (.iload 4, 2) := by decide +kernel
theorem d_L_law_302 : decode code 302 = .ok (.iconst 2, 1) := by decide +kernel
theorem d_L_law_303 : decode code 303 = .ok (.iadd, 1) := by decide +kernel
theorem d_L_law_304 : decode code 304 = .ok (.iaload, 1) := by decide +kernel
theorem d_L_law_305 : decode code 305 = .ok (.aload_n 0, 1) := by decide +kernel
theorem d_L_law_306 : decode code 306 = .ok (.iload 4, 2) := by decide +kernel
theorem d_L_law_308 : decode code 308 = .ok (.iconst 3, 1) := by decide +kernel
theorem d_L_law_309 : decode code 309 = .ok (.iadd, 1) := by decide +kernel
theorem d_L_law_310 : decode code 310 = .ok (.iaload, 1) := by decide +kernel
theorem d_L_law_311 : decode code 311 = .ok (.ifCond .eq 7, 3) := by decide +kernel
theorem d_L_law_314 : decode code 314 = .ok (.iconst 1, 1) := by decide +kernel
theorem d_L_law_315 : decode code 315 = .ok (.goto 4, 3) := by decide +kernel
theorem d_L_law_318 : decode code 318 = .ok (.iconst 0, 1) := by decide +kernel
theorem d_L_law_319 : decode code 319 = .ok (.invokevirtual 79, 3) := by decide +kernel
theorem d_L_law_322 : decode code 322 = .ok (.aload_n 2, 1) := by decide +kernel
theorem d_L_law_323 : decode code 323 = .ok (.invokevirtual 68, 3) := by decide +kernel
theorem d_L_law_326 : decode code 326 = .ok (.iload 5, 2) := by decide +kernel
theorem d_L_law_328 : decode code 328 = .ok (.if_icmp .eq 5, 3) := by decide +kernel
theorem d_L_law_331 : decode code 331 = .ok (.iconst 0, 1) := by decide +kernel
theorem d_L_law_332 : decode code 332 = .ok (.ireturn, 1) := by decide +kernel
theorem d_L_law_333 : decode code 333 = .ok (.goto 600, 3) := by decide +kernel
theorem d_L_law_336 : decode code 336 = .ok (.aload_n 1, 1) := by decide +kernel
theorem d_L_law_337 : decode code 337 = .ok (.aload_n 0, 1) := by decide +kernel
theorem d_L_law_338 : decode code 338 = .ok (.iload 4, 2) := by decide +kernel
theorem d_L_law_340 : decode code 340 = .ok (.iconst 1, 1) := by decide +kernel
theorem d_L_law_341 : decode code 341 = .ok (.iadd, 1) := by decide +kernel
theorem d_L_law_342 : decode code 342 = .ok (.iaload, 1) := by decide +kernel
theorem d_L_law_343 : decode code 343 = .ok (.ifCond .eq 7, 3) := by decide +kernel
theorem d_L_law_346 : decode code 346 = .ok (.iconst 1, 1) := by decide +kernel
theorem d_L_law_347 : decode code 347 = .ok (.goto 4, 3) := by decide +kernel
theorem d_L_law_350 : decode code 350 = .ok (.iconst 0, 1) := by decide +kernel
theorem d_L_law_351 : decode code 351 = .ok (.invokevirtual 80, 3) := by decide +kernel
theorem d_L_law_354 : decode code 354 = .ok (.aload_n 2, 1) := by decide +kernel
theorem d_L_law_355 : decode code 355 = .ok (.aload_n 0, 1) := by decide +kernel
theorem d_L_law_356 : decode code 356 = .ok (.iload 4, 2) := by decide +kernel
theorem d_L_law_358 : decode code 358 = .ok (.iconst 1, 1) := by decide +kernel
theorem d_L_law_359 : decode code 359 = .ok (.iadd, 1) := by decide +kernel
theorem d_L_law_360 : decode code 360 = .ok (.iaload, 1) := by decide +kernel
theorem d_L_law_361 : decode code 361 = .ok (.ifCond .eq 7, 3) := by decide +kernel
theorem d_L_law_364 : decode code 364 = .ok (.iconst 1, 1) := by decide +kernel
theorem d_L_law_365 : decode code 365 = .ok (.goto 4, 3) := by decide +kernel
theorem d_L_law_368 : decode code 368 = .ok (.iconst 0, 1) := by decide +kernel
theorem d_L_law_369 : decode code 369 = .ok (.invokevirtual 84, 3) := by decide +kernel
theorem d_L_law_372 : decode code 372 = .ok (.goto 561, 3) := by decide +kernel
theorem d_L_law_375 : decode code 375 = .ok (.aload_n 1, 1) := by decide +kernel
theorem d_L_law_376 : decode code 376 = .ok (.aload_n 0, 1) := by decide +kernel
theorem d_L_law_377 : decode code 377 = .ok (.iload 4, 2) := by decide +kernel
theorem d_L_law_379 : decode code 379 = .ok (.iconst 1, 1) := by decide +kernel
theorem d_L_law_380 : decode code 380 = .ok (.iadd, 1) := by decide +kernel
theorem d_L_law_381 : decode code 381 = .ok (.iaload, 1) := by decide +kernel
theorem d_L_law_382 : decode code 382 = .ok (.aload_n 3, 1) := by decide +kernel
theorem d_L_law_383 : decode code 383 = .ok (.invokestatic 85, 3) := by decide +kernel
theorem d_L_law_386 : decode code 386 = .ok (.istore 5, 2) := by decide +kernel
theorem d_L_law_388 : decode code 388 = .ok (.aload_n 2, 1) := by decide +kernel
theorem d_L_law_389 : decode code 389 = .ok (.aload_n 0, 1) := by decide +kernel
theorem d_L_law_390 : decode code 390 = .ok (.iload 4, 2) := by decide +kernel
theorem d_L_law_392 : decode code 392 = .ok (.iconst 1, 1) := by decide +kernel
theorem d_L_law_393 : decode code 393 = .ok (.iadd, 1) := by decide +kernel
theorem d_L_law_394 : decode code 394 = .ok (.iaload, 1) := by decide +kernel
theorem d_L_law_395 : decode code 395 = .ok (.invokevirtual 87, 3) := by decide +kernel
theorem d_L_law_398 : decode code 398 = .ok (.istore 6, 2) := by decide +kernel
theorem d_L_law_400 : decode code 400 = .ok (.aload_n 2, 1) := by decide +kernel
theorem d_L_law_401 : decode code 401 = .ok (.invokevirtual 68, 3) := by decide +kernel
theorem d_L_law_404 : decode code 404 = .ok (.iload 5, 2) := by decide +kernel
theorem d_L_law_406 : decode code 406 = .ok (.if_icmp .eq 5, 3) := by decide +kernel
theorem d_L_law_409 : decode code 409 = .ok (.iconst 0, 1) := by decide +kernel
theorem d_L_law_410 : decode code 410 = .ok (.ireturn, 1) := by decide +kernel
theorem d_L_law_411 : decode code 411 = .ok (.iload 5, 2) := by decide +kernel
theorem d_L_law_413 : decode code 413 = .ok (.ifCond .ne 15, 3) := by decide +kernel
theorem d_L_law_416 : decode code 416 = .ok (.aload_n 3, 1) := by decide +kernel
theorem d_L_law_417 : decode code 417 = .ok (.iconst 0, 1) := by decide +kernel
theorem d_L_law_418 : decode code 418 = .ok (.laload, 1) := by decide +kernel
theorem d_L_law_419 : decode code 419 = .ok (.iload 6, 2) := by decide +kernel
theorem d_L_law_421 : decode code 421 = .ok (.i2l, 1) := by decide +kernel
theorem d_L_law_422 : decode code 422 = .ok (.lcmp, 1) := by decide +kernel
theorem d_L_law_423 : decode code 423 = .ok (.ifCond .eq 5, 3) := by decide +kernel
theorem d_L_law_426 : decode code 426 = .ok (.iconst 0, 1) := by decide +kernel
theorem d_L_law_427 : decode code 427 = .ok (.ireturn, 1) := by decide +kernel
theorem d_L_law_428 : decode code 428 = .ok (.goto 505, 3) := by decide +kernel
theorem d_L_law_431 : decode code 431 = .ok (.aload_n 1, 1) := by decide +kernel
theorem d_L_law_432 : decode code 432 = .ok (.aload_n 0, 1) := by decide +kernel
theorem d_L_law_433 : decode code 433 = .ok (.iload 4, 2) := by decide +kernel
theorem d_L_law_435 : decode code 435 = .ok (.iconst 1, 1) := by decide +kernel
theorem d_L_law_436 : decode code 436 = .ok (.iadd, 1) := by decide +kernel
theorem d_L_law_437 : decode code 437 = .ok (.iaload, 1) := by decide +kernel
theorem d_L_law_438 : decode code 438 = .ok (.aload_n 3, 1) := by decide +kernel
theorem d_L_law_439 : decode code 439 = .ok (.invokestatic 88, 3) := by decide +kernel
theorem d_L_law_442 : decode code 442 = .ok (.istore 5, 2) := by decide +kernel
theorem d_L_law_444 : decode code 444 = .ok (.aload_n 2, 1) := by decide +kernel
theorem d_L_law_445 : decode code 445 = .ok (.aload_n 0, 1) := by decide +kernel
theorem d_L_law_446 : decode code 446 = .ok (.iload 4, 2) := by decide +kernel
theorem d_L_law_448 : decode code 448 = .ok (.iconst 1, 1) := by decide +kernel
theorem d_L_law_449 : decode code 449 = .ok (.iadd, 1) := by decide +kernel
theorem d_L_law_450 : decode code 450 = .ok (.iaload, 1) := by decide +kernel
theorem d_L_law_451 : decode code 451 = .ok (.invokevirtual 90, 3) := by decide +kernel
theorem d_L_law_454 : decode code 454 = .ok (.istore 6, 2) := by decide +kernel
theorem d_L_law_456 : decode code 456 = .ok (.aload_n 2, 1) := by decide +kernel
theorem d_L_law_457 : decode code 457 = .ok (.invokevirtual 68, 3) := by decide +kernel
theorem d_L_law_460 : decode code 460 = .ok (.iload 5, 2) := by decide +kernel
theorem d_L_law_462 : decode code 462 = .ok (.if_icmp .eq 5, 3) := by decide +kernel
theorem d_L_law_465 : decode code 465 = .ok (.iconst 0, 1) := by decide +kernel
theorem d_L_law_466 : decode code 466 = .ok (.ireturn, 1) := by decide +kernel
theorem d_L_law_467 : decode code 467 = .ok (.iload 5, 2) := by decide +kernel
theorem d_L_law_469 : decode code 469 = .ok (.ifCond .ne 15, 3) := by decide +kernel
theorem d_L_law_472 : decode code 472 = .ok (.aload_n 3, 1) := by decide +kernel
theorem d_L_law_473 : decode code 473 = .ok (.iconst 0, 1) := by decide +kernel
theorem d_L_law_474 : decode code 474 = .ok (.laload, 1) := by decide +kernel
theorem d_L_law_475 : decode code 475 = .ok (.iload 6, 2) := by decide +kernel
theorem d_L_law_477 : decode code 477 = .ok (.i2l, 1) := by decide +kernel
theorem d_L_law_478 : decode code 478 = .ok (.lcmp, 1) := by decide +kernel
theorem d_L_law_479 : decode code 479 = .ok (.ifCond .eq 5, 3) := by decide +kernel
theorem d_L_law_482 : decode code 482 = .ok (.iconst 0, 1) := by decide +kernel
theorem d_L_law_483 : decode code 483 = .ok (.ireturn, 1) := by decide +kernel
theorem d_L_law_484 : decode code 484 = .ok (.goto 449, 3) := by decide +kernel
theorem d_L_law_487 : decode code 487 = .ok (.aload_n 1, 1) := by decide +kernel
theorem d_L_law_488 : decode code 488 = .ok (.aload_n 0, 1) := by decide +kernel
theorem d_L_law_489 : decode code 489 = .ok (.iload 4, 2) := by decide +kernel
theorem d_L_law_491 : decode code 491 = .ok (.iconst 1, 1) := by decide +kernel
theorem d_L_law_492 : decode code 492 = .ok (.iadd, 1) := by decide +kernel
theorem d_L_law_493 : decode code 493 = .ok (.iaload, 1) := by decide +kernel
theorem d_L_law_494 : decode code 494 = .ok (.aload_n 3, 1) := by decide +kernel
theorem d_L_law_495 : decode code 495 = .ok (.invokestatic 91, 3) := by decide +kernel
theorem d_L_law_498 : decode code 498 = .ok (.istore 5, 2) := by decide +kernel
theorem d_L_law_500 : decode code 500 = .ok (.aload_n 2, 1) := by decide +kernel
theorem d_L_law_501 : decode code 501 = .ok (.aload_n 0, 1) := by decide +kernel
theorem d_L_law_502 : decode code 502 = .ok (.iload 4, 2) := by decide +kernel
theorem d_L_law_504 : decode code 504 = .ok (.iconst 1, 1) := by decide +kernel
theorem d_L_law_505 : decode code 505 = .ok (.iadd, 1) := by decide +kernel
theorem d_L_law_506 : decode code 506 = .ok (.iaload, 1) := by decide +kernel
theorem d_L_law_507 : decode code 507 = .ok (.invokevirtual 93, 3) := by decide +kernel
theorem d_L_law_510 : decode code 510 = .ok (.istore 6, 2) := by decide +kernel
theorem d_L_law_512 : decode code 512 = .ok (.aload_n 2, 1) := by decide +kernel
theorem d_L_law_513 : decode code 513 = .ok (.invokevirtual 68, 3) := by decide +kernel
theorem d_L_law_516 : decode code 516 = .ok (.iload 5, 2) := by decide +kernel
theorem d_L_law_518 : decode code 518 = .ok (.if_icmp .eq 5, 3) := by decide +kernel
theorem d_L_law_521 : decode code 521 = .ok (.iconst 0, 1) := by decide +kernel
theorem d_L_law_522 : decode code 522 = .ok (.ireturn, 1) := by decide +kernel
theorem d_L_law_523 : decode code 523 = .ok (.iload 5, 2) := by decide +kernel
theorem d_L_law_525 : decode code 525 = .ok (.ifCond .ne 15, 3) := by decide +kernel
theorem d_L_law_528 : decode code 528 = .ok (.aload_n 3, 1) := by decide +kernel
theorem d_L_law_529 : decode code 529 = .ok (.iconst 0, 1) := by decide +kernel
theorem d_L_law_530 : decode code 530 = .ok (.laload, 1) := by decide +kernel
theorem d_L_law_531 : decode code 531 = .ok (.iload 6, 2) := by decide +kernel
theorem d_L_law_533 : decode code 533 = .ok (.i2l, 1) := by decide +kernel
theorem d_L_law_534 : decode code 534 = .ok (.lcmp, 1) := by decide +kernel
theorem d_L_law_535 : decode code 535 = .ok (.ifCond .eq 5, 3) := by decide +kernel
theorem d_L_law_538 : decode code 538 = .ok (.iconst 0, 1) := by decide +kernel
theorem d_L_law_539 : decode code 539 = .ok (.ireturn, 1) := by decide +kernel
theorem d_L_law_540 : decode code 540 = .ok (.goto 393, 3) := by decide +kernel
theorem d_L_law_543 : decode code 543 = .ok (.aload_n 1, 1) := by decide +kernel
theorem d_L_law_544 : decode code 544 = .ok (.aload_n 0, 1) := by decide +kernel
theorem d_L_law_545 : decode code 545 = .ok (.iload 4, 2) := by decide +kernel
theorem d_L_law_547 : decode code 547 = .ok (.iconst 1, 1) := by decide +kernel
theorem d_L_law_548 : decode code 548 = .ok (.iadd, 1) := by decide +kernel
theorem d_L_law_549 : decode code 549 = .ok (.iaload, 1) := by decide +kernel
theorem d_L_law_550 : decode code 550 = .ok (.aload_n 3, 1) := by decide +kernel
theorem d_L_law_551 : decode code 551 = .ok (.invokestatic 94, 3) := by decide +kernel
theorem d_L_law_554 : decode code 554 = .ok (.istore 5, 2) := by decide +kernel
theorem d_L_law_556 : decode code 556 = .ok (.aload_n 2, 1) := by decide +kernel
theorem d_L_law_557 : decode code 557 = .ok (.aload_n 0, 1) := by decide +kernel
theorem d_L_law_558 : decode code 558 = .ok (.iload 4, 2) := by decide +kernel
theorem d_L_law_560 : decode code 560 = .ok (.iconst 1, 1) := by decide +kernel
theorem d_L_law_561 : decode code 561 = .ok (.iadd, 1) := by decide +kernel
theorem d_L_law_562 : decode code 562 = .ok (.iaload, 1) := by decide +kernel
theorem d_L_law_563 : decode code 563 = .ok (.invokevirtual 96, 3) := by decide +kernel
theorem d_L_law_566 : decode code 566 = .ok (.istore 6, 2) := by decide +kernel
theorem d_L_law_568 : decode code 568 = .ok (.aload_n 2, 1) := by decide +kernel
theorem d_L_law_569 : decode code 569 = .ok (.invokevirtual 68, 3) := by decide +kernel
theorem d_L_law_572 : decode code 572 = .ok (.iload 5, 2) := by decide +kernel
theorem d_L_law_574 : decode code 574 = .ok (.if_icmp .eq 5, 3) := by decide +kernel
theorem d_L_law_577 : decode code 577 = .ok (.iconst 0, 1) := by decide +kernel
theorem d_L_law_578 : decode code 578 = .ok (.ireturn, 1) := by decide +kernel
theorem d_L_law_579 : decode code 579 = .ok (.iload 5, 2) := by decide +kernel
theorem d_L_law_581 : decode code 581 = .ok (.ifCond .ne 15, 3) := by decide +kernel
theorem d_L_law_584 : decode code 584 = .ok (.aload_n 3, 1) := by decide +kernel
theorem d_L_law_585 : decode code 585 = .ok (.iconst 0, 1) := by decide +kernel
theorem d_L_law_586 : decode code 586 = .ok (.laload, 1) := by decide +kernel
theorem d_L_law_587 : decode code 587 = .ok (.iload 6, 2) := by decide +kernel
theorem d_L_law_589 : decode code 589 = .ok (.i2l, 1) := by decide +kernel
theorem d_L_law_590 : decode code 590 = .ok (.lcmp, 1) := by decide +kernel
theorem d_L_law_591 : decode code 591 = .ok (.ifCond .eq 5, 3) := by decide +kernel
theorem d_L_law_594 : decode code 594 = .ok (.iconst 0, 1) := by decide +kernel
theorem d_L_law_595 : decode code 595 = .ok (.ireturn, 1) := by decide +kernel
theorem d_L_law_596 : decode code 596 = .ok (.goto 337, 3) := by decide +kernel
theorem d_L_law_599 : decode code 599 = .ok (.aload_n 1, 1) := by decide +kernel
theorem d_L_law_600 : decode code 600 = .ok (.aload_n 0, 1) := by decide +kernel
theorem d_L_law_601 : decode code 601 = .ok (.iload 4, 2) := by decide +kernel
theorem d_L_law_603 : decode code 603 = .ok (.iconst 1, 1) := by decide +kernel
theorem d_L_law_604 : decode code 604 = .ok (.iadd, 1) := by decide +kernel
theorem d_L_law_605 : decode code 605 = .ok (.iaload, 1) := by decide +kernel
theorem d_L_law_606 : decode code 606 = .ok (.invokestatic 97, 3) := by decide +kernel
theorem d_L_law_609 : decode code 609 = .ok (.istore 5, 2) := by decide +kernel
theorem d_L_law_611 : decode code 611 = .ok (.aload_n 2, 1) := by decide +kernel
theorem d_L_law_612 : decode code 612 = .ok (.aload_n 0, 1) := by decide +kernel
theorem d_L_law_613 : decode code 613 = .ok (.iload 4, 2) := by decide +kernel
theorem d_L_law_615 : decode code 615 = .ok (.iconst 1, 1) := by decide +kernel
theorem d_L_law_616 : decode code 616 = .ok (.iadd, 1) := by decide +kernel
theorem d_L_law_617 : decode code 617 = .ok (.iaload, 1) := by decide +kernel
theorem d_L_law_618 : decode code 618 = .ok (.invokevirtual 100, 3) := by decide +kernel
theorem d_L_law_621 : decode code 621 = .ok (.aload_n 2, 1) := by decide +kernel
theorem d_L_law_622 : decode code 622 = .ok (.invokevirtual 68, 3) := by decide +kernel
theorem d_L_law_625 : decode code 625 = .ok (.iload 5, 2) := by decide +kernel
theorem d_L_law_627 : decode code 627 = .ok (.if_icmp .eq 5, 3) := by decide +kernel
theorem d_L_law_630 : decode code 630 = .ok (.iconst 0, 1) := by decide +kernel
theorem d_L_law_631 : decode code 631 = .ok (.ireturn, 1) := by decide +kernel
theorem d_L_law_632 : decode code 632 = .ok (.goto 301, 3) := by decide +kernel
theorem d_L_law_635 : decode code 635 = .ok (.aload_n 1, 1) := by decide +kernel
theorem d_L_law_636 : decode code 636 = .ok (.invokevirtual 101, 3) := by decide +kernel
theorem d_L_law_639 : decode code 639 = .ok (.aload_n 2, 1) := by decide +kernel
theorem d_L_law_640 : decode code 640 = .ok (.invokevirtual 104, 3) := by decide +kernel
theorem d_L_law_643 : decode code 643 = .ok (.if_icmp .eq 290, 3) := by decide +kernel
theorem d_L_law_646 : decode code 646 = .ok (.iconst 0, 1) := by decide +kernel
theorem d_L_law_647 : decode code 647 = .ok (.ireturn, 1) := by decide +kernel
theorem d_L_law_648 : decode code 648 = .ok (.aload_n 1, 1) := by decide +kernel
theorem d_L_law_649 : decode code 649 = .ok (.aload_n 0, 1) := by decide +kernel
theorem d_L_law_650 : decode code 650 = .ok (.iload 4, 2) := by decide +kernel
theorem d_L_law_652 : decode code 652 = .ok (.iconst 1, 1) := by decide +kernel
theorem d_L_law_653 : decode code 653 = .ok (.iadd, 1) := by decide +kernel
theorem d_L_law_654 : decode code 654 = .ok (.iaload, 1) := by decide +kernel
theorem d_L_law_655 : decode code 655 = .ok (.aload_n 3, 1) := by decide +kernel
theorem d_L_law_656 : decode code 656 = .ok (.invokestatic 105, 3) := by decide +kernel
theorem d_L_law_659 : decode code 659 = .ok (.istore 5, 2) := by decide +kernel
theorem d_L_law_661 : decode code 661 = .ok (.aload_n 2, 1) := by decide +kernel
theorem d_L_law_662 : decode code 662 = .ok (.aload_n 0, 1) := by decide +kernel
theorem d_L_law_663 : decode code 663 = .ok (.iload 4, 2) := by decide +kernel
theorem d_L_law_665 : decode code 665 = .ok (.iconst 1, 1) := by decide +kernel
theorem d_L_law_666 : decode code 666 = .ok (.iadd, 1) := by decide +kernel
theorem d_L_law_667 : decode code 667 = .ok (.iaload, 1) := by decide +kernel
theorem d_L_law_668 : decode code 668 = .ok (.invokevirtual 107, 3) := by decide +kernel
theorem d_L_law_671 : decode code 671 = .ok (.istore 6, 2) := by decide +kernel
theorem d_L_law_673 : decode code 673 = .ok (.aload_n 2, 1) := by decide +kernel
theorem d_L_law_674 : decode code 674 = .ok (.invokevirtual 68, 3) := by decide +kernel
theorem d_L_law_677 : decode code 677 = .ok (.iload 5, 2) := by decide +kernel
theorem d_L_law_679 : decode code 679 = .ok (.if_icmp .eq 5, 3) := by decide +kernel
theorem d_L_law_682 : decode code 682 = .ok (.iconst 0, 1) := by decide +kernel
theorem d_L_law_683 : decode code 683 = .ok (.ireturn, 1) := by decide +kernel
theorem d_L_law_684 : decode code 684 = .ok (.iload 5, 2) := by decide +kernel
theorem d_L_law_686 : decode code 686 = .ok (.ifCond .ne 15, 3) := by decide +kernel
theorem d_L_law_689 : decode code 689 = .ok (.aload_n 3, 1) := by decide +kernel
theorem d_L_law_690 : decode code 690 = .ok (.iconst 0, 1) := by decide +kernel
theorem d_L_law_691 : decode code 691 = .ok (.laload, 1) := by decide +kernel
theorem d_L_law_692 : decode code 692 = .ok (.iload 6, 2) := by decide +kernel
theorem d_L_law_694 : decode code 694 = .ok (.i2l, 1) := by decide +kernel
theorem d_L_law_695 : decode code 695 = .ok (.lcmp, 1) := by decide +kernel
theorem d_L_law_696 : decode code 696 = .ok (.ifCond .eq 5, 3) := by decide +kernel
theorem d_L_law_699 : decode code 699 = .ok (.iconst 0, 1) := by decide +kernel
theorem d_L_law_700 : decode code 700 = .ok (.ireturn, 1) := by decide +kernel
theorem d_L_law_701 : decode code 701 = .ok (.goto 232, 3) := by decide +kernel
theorem d_L_law_704 : decode code 704 = .ok (.aload_n 1, 1) := by decide +kernel
theorem d_L_law_705 : decode code 705 = .ok (.aload_n 0, 1) := by decide +kernel
theorem d_L_law_706 : decode code 706 = .ok (.iload 4, 2) := by decide +kernel
theorem d_L_law_708 : decode code 708 = .ok (.iconst 1, 1) := by decide +kernel
theorem d_L_law_709 : decode code 709 = .ok (.iadd, 1) := by decide +kernel
theorem d_L_law_710 : decode code 710 = .ok (.iaload, 1) := by decide +kernel
theorem d_L_law_711 : decode code 711 = .ok (.aload_n 0, 1) := by decide +kernel
theorem d_L_law_712 : decode code 712 = .ok (.iload 4, 2) := by decide +kernel
theorem d_L_law_714 : decode code 714 = .ok (.iconst 2, 1) := by decide +kernel
theorem d_L_law_715 : decode code 715 = .ok (.iadd, 1) := by decide +kernel
theorem d_L_law_716 : decode code 716 = .ok (.iaload, 1) := by decide +kernel
theorem d_L_law_717 : decode code 717 = .ok (.aload_n 3, 1) := by decide +kernel
theorem d_L_law_718 : decode code 718 = .ok (.invokestatic 108, 3) := by decide +kernel
theorem d_L_law_721 : decode code 721 = .ok (.istore 5, 2) := by decide +kernel
theorem d_L_law_723 : decode code 723 = .ok (.aload_n 2, 1) := by decide +kernel
theorem d_L_law_724 : decode code 724 = .ok (.aload_n 0, 1) := by decide +kernel
theorem d_L_law_725 : decode code 725 = .ok (.iload 4, 2) := by decide +kernel
theorem d_L_law_727 : decode code 727 = .ok (.iconst 1, 1) := by decide +kernel
theorem d_L_law_728 : decode code 728 = .ok (.iadd, 1) := by decide +kernel
theorem d_L_law_729 : decode code 729 = .ok (.iaload, 1) := by decide +kernel
theorem d_L_law_730 : decode code 730 = .ok (.aload_n 0, 1) := by decide +kernel
theorem d_L_law_731 : decode code 731 = .ok (.iload 4, 2) := by decide +kernel
theorem d_L_law_733 : decode code 733 = .ok (.iconst 2, 1) := by decide +kernel
theorem d_L_law_734 : decode code 734 = .ok (.iadd, 1) := by decide +kernel
theorem d_L_law_735 : decode code 735 = .ok (.iaload, 1) := by decide +kernel
theorem d_L_law_736 : decode code 736 = .ok (.invokevirtual 111, 3) := by decide +kernel
theorem d_L_law_739 : decode code 739 = .ok (.istore 6, 2) := by decide +kernel
theorem d_L_law_741 : decode code 741 = .ok (.aload_n 2, 1) := by decide +kernel
theorem d_L_law_742 : decode code 742 = .ok (.invokevirtual 68, 3) := by decide +kernel
theorem d_L_law_745 : decode code 745 = .ok (.iload 5, 2) := by decide +kernel
theorem d_L_law_747 : decode code 747 = .ok (.if_icmp .eq 5, 3) := by decide +kernel
theorem d_L_law_750 : decode code 750 = .ok (.iconst 0, 1) := by decide +kernel
theorem d_L_law_751 : decode code 751 = .ok (.ireturn, 1) := by decide +kernel
theorem d_L_law_752 : decode code 752 = .ok (.iload 5, 2) := by decide +kernel
theorem d_L_law_754 : decode code 754 = .ok (.ifCond .ne 15, 3) := by decide +kernel
theorem d_L_law_757 : decode code 757 = .ok (.aload_n 3, 1) := by decide +kernel
theorem d_L_law_758 : decode code 758 = .ok (.iconst 0, 1) := by decide +kernel
theorem d_L_law_759 : decode code 759 = .ok (.laload, 1) := by decide +kernel
theorem d_L_law_760 : decode code 760 = .ok (.iload 6, 2) := by decide +kernel
theorem d_L_law_762 : decode code 762 = .ok (.i2l, 1) := by decide +kernel
theorem d_L_law_763 : decode code 763 = .ok (.lcmp, 1) := by decide +kernel
theorem d_L_law_764 : decode code 764 = .ok (.ifCond .eq 5, 3) := by decide +kernel
theorem d_L_law_767 : decode code 767 = .ok (.iconst 0, 1) := by decide +kernel
theorem d_L_law_768 : decode code 768 = .ok (.ireturn, 1) := by decide +kernel
theorem d_L_law_769 : decode code 769 = .ok (.goto 164, 3) := by decide +kernel
theorem d_L_law_772 : decode code 772 = .ok (.aload_n 1, 1) := by decide +kernel
theorem d_L_law_773 : decode code 773 = .ok (.aload_n 0, 1) := by decide +kernel
theorem d_L_law_774 : decode code 774 = .ok (.iload 4, 2) := by decide +kernel
theorem d_L_law_776 : decode code 776 = .ok (.iconst 1, 1) := by decide +kernel
theorem d_L_law_777 : decode code 777 = .ok (.iadd, 1) := by decide +kernel
theorem d_L_law_778 : decode code 778 = .ok (.iaload, 1) := by decide +kernel
theorem d_L_law_779 : decode code 779 = .ok (.aload_n 0, 1) := by decide +kernel
theorem d_L_law_780 : decode code 780 = .ok (.iload 4, 2) := by decide +kernel
theorem d_L_law_782 : decode code 782 = .ok (.iconst 2, 1) := by decide +kernel
theorem d_L_law_783 : decode code 783 = .ok (.iadd, 1) := by decide +kernel
theorem d_L_law_784 : decode code 784 = .ok (.iaload, 1) := by decide +kernel
theorem d_L_law_785 : decode code 785 = .ok (.aload_n 3, 1) := by decide +kernel
theorem d_L_law_786 : decode code 786 = .ok (.invokestatic 112, 3) := by decide +kernel
theorem d_L_law_789 : decode code 789 = .ok (.istore 5, 2) := by decide +kernel
theorem d_L_law_791 : decode code 791 = .ok (.aload_n 2, 1) := by decide +kernel
theorem d_L_law_792 : decode code 792 = .ok (.aload_n 0, 1) := by decide +kernel
theorem d_L_law_793 : decode code 793 = .ok (.iload 4, 2) := by decide +kernel
theorem d_L_law_795 : decode code 795 = .ok (.iconst 1, 1) := by decide +kernel
theorem d_L_law_796 : decode code 796 = .ok (.iadd, 1) := by decide +kernel
theorem d_L_law_797 : decode code 797 = .ok (.iaload, 1) := by decide +kernel
theorem d_L_law_798 : decode code 798 = .ok (.aload_n 0, 1) := by decide +kernel
theorem d_L_law_799 : decode code 799 = .ok (.iload 4, 2) := by decide +kernel
theorem d_L_law_801 : decode code 801 = .ok (.iconst 2, 1) := by decide +kernel
theorem d_L_law_802 : decode code 802 = .ok (.iadd, 1) := by decide +kernel
theorem d_L_law_803 : decode code 803 = .ok (.iaload, 1) := by decide +kernel
theorem d_L_law_804 : decode code 804 = .ok (.invokevirtual 114, 3) := by decide +kernel
theorem d_L_law_807 : decode code 807 = .ok (.istore 6, 2) := by decide +kernel
theorem d_L_law_809 : decode code 809 = .ok (.aload_n 2, 1) := by decide +kernel
theorem d_L_law_810 : decode code 810 = .ok (.invokevirtual 68, 3) := by decide +kernel
theorem d_L_law_813 : decode code 813 = .ok (.iload 5, 2) := by decide +kernel
theorem d_L_law_815 : decode code 815 = .ok (.if_icmp .eq 5, 3) := by decide +kernel
theorem d_L_law_818 : decode code 818 = .ok (.iconst 0, 1) := by decide +kernel
theorem d_L_law_819 : decode code 819 = .ok (.ireturn, 1) := by decide +kernel
theorem d_L_law_820 : decode code 820 = .ok (.iload 5, 2) := by decide +kernel
theorem d_L_law_822 : decode code 822 = .ok (.ifCond .ne 15, 3) := by decide +kernel
theorem d_L_law_825 : decode code 825 = .ok (.aload_n 3, 1) := by decide +kernel
theorem d_L_law_826 : decode code 826 = .ok (.iconst 0, 1) := by decide +kernel
theorem d_L_law_827 : decode code 827 = .ok (.laload, 1) := by decide +kernel
theorem d_L_law_828 : decode code 828 = .ok (.iload 6, 2) := by decide +kernel
theorem d_L_law_830 : decode code 830 = .ok (.i2l, 1) := by decide +kernel
theorem d_L_law_831 : decode code 831 = .ok (.lcmp, 1) := by decide +kernel
theorem d_L_law_832 : decode code 832 = .ok (.ifCond .eq 5, 3) := by decide +kernel
theorem d_L_law_835 : decode code 835 = .ok (.iconst 0, 1) := by decide +kernel
theorem d_L_law_836 : decode code 836 = .ok (.ireturn, 1) := by decide +kernel
theorem d_L_law_837 : decode code 837 = .ok (.goto 96, 3) := by decide +kernel
theorem d_L_law_840 : decode code 840 = .ok (.aload_n 1, 1) := by decide +kernel
theorem d_L_law_841 : decode code 841 = .ok (.aload_n 0, 1) := by decide +kernel
theorem d_L_law_842 : decode code 842 = .ok (.iload 4, 2) := by decide +kernel
theorem d_L_law_844 : decode code 844 = .ok (.iconst 1, 1) := by decide +kernel
theorem d_L_law_845 : decode code 845 = .ok (.iadd, 1) := by decide +kernel
theorem d_L_law_846 : decode code 846 = .ok (.iaload, 1) := by decide +kernel
theorem d_L_law_847 : decode code 847 = .ok (.aload_n 0, 1) := by decide +kernel
theorem d_L_law_848 : decode code 848 = .ok (.iload 4, 2) := by decide +kernel
theorem d_L_law_850 : decode code 850 = .ok (.iconst 2, 1) := by decide +kernel
theorem d_L_law_851 : decode code 851 = .ok (.iadd, 1) := by decide +kernel
theorem d_L_law_852 : decode code 852 = .ok (.iaload, 1) := by decide +kernel
theorem d_L_law_853 : decode code 853 = .ok (.aload_n 3, 1) := by decide +kernel
theorem d_L_law_854 : decode code 854 = .ok (.invokestatic 115, 3) := by decide +kernel
theorem d_L_law_857 : decode code 857 = .ok (.istore 5, 2) := by decide +kernel
theorem d_L_law_859 : decode code 859 = .ok (.aload_n 2, 1) := by decide +kernel
theorem d_L_law_860 : decode code 860 = .ok (.aload_n 0, 1) := by decide +kernel
theorem d_L_law_861 : decode code 861 = .ok (.iload 4, 2) := by decide +kernel
theorem d_L_law_863 : decode code 863 = .ok (.iconst 1, 1) := by decide +kernel
theorem d_L_law_864 : decode code 864 = .ok (.iadd, 1) := by decide +kernel
theorem d_L_law_865 : decode code 865 = .ok (.iaload, 1) := by decide +kernel
theorem d_L_law_866 : decode code 866 = .ok (.aload_n 0, 1) := by decide +kernel
theorem d_L_law_867 : decode code 867 = .ok (.iload 4, 2) := by decide +kernel
theorem d_L_law_869 : decode code 869 = .ok (.iconst 2, 1) := by decide +kernel
theorem d_L_law_870 : decode code 870 = .ok (.iadd, 1) := by decide +kernel
theorem d_L_law_871 : decode code 871 = .ok (.iaload, 1) := by decide +kernel
theorem d_L_law_872 : decode code 872 = .ok (.invokevirtual 117, 3) := by decide +kernel
theorem d_L_law_875 : decode code 875 = .ok (.istore 6, 2) := by decide +kernel
theorem d_L_law_877 : decode code 877 = .ok (.aload_n 2, 1) := by decide +kernel
theorem d_L_law_878 : decode code 878 = .ok (.invokevirtual 68, 3) := by decide +kernel
theorem d_L_law_881 : decode code 881 = .ok (.iload 5, 2) := by decide +kernel
theorem d_L_law_883 : decode code 883 = .ok (.if_icmp .eq 5, 3) := by decide +kernel
theorem d_L_law_886 : decode code 886 = .ok (.iconst 0, 1) := by decide +kernel
theorem d_L_law_887 : decode code 887 = .ok (.ireturn, 1) := by decide +kernel
theorem d_L_law_888 : decode code 888 = .ok (.iload 5, 2) := by decide +kernel
theorem d_L_law_890 : decode code 890 = .ok (.ifCond .ne 15, 3) := by decide +kernel
theorem d_L_law_893 : decode code 893 = .ok (.aload_n 3, 1) := by decide +kernel
theorem d_L_law_894 : decode code 894 = .ok (.iconst 0, 1) := by decide +kernel
theorem d_L_law_895 : decode code 895 = .ok (.laload, 1) := by decide +kernel
theorem d_L_law_896 : decode code 896 = .ok (.iload 6, 2) := by decide +kernel
theorem d_L_law_898 : decode code 898 = .ok (.i2l, 1) := by decide +kernel
theorem d_L_law_899 : decode code 899 = .ok (.lcmp, 1) := by decide +kernel
theorem d_L_law_900 : decode code 900 = .ok (.ifCond .eq 5, 3) := by decide +kernel
theorem d_L_law_903 : decode code 903 = .ok (.iconst 0, 1) := by decide +kernel
theorem d_L_law_904 : decode code 904 = .ok (.ireturn, 1) := by decide +kernel
theorem d_L_law_905 : decode code 905 = .ok (.goto 28, 3) := by decide +kernel
theorem d_L_law_908 : decode code 908 = .ok (.aload_n 1, 1) := by decide +kernel
theorem d_L_law_909 : decode code 909 = .ok (.aload_n 0, 1) := by decide +kernel
theorem d_L_law_910 : decode code 910 = .ok (.iload 4, 2) := by decide +kernel
theorem d_L_law_912 : decode code 912 = .ok (.iconst 1, 1) := by decide +kernel
theorem d_L_law_913 : decode code 913 = .ok (.iadd, 1) := by decide +kernel
theorem d_L_law_914 : decode code 914 = .ok (.iaload, 1) := by decide +kernel
theorem d_L_law_915 : decode code 915 = .ok (.invokevirtual 118, 3) := by decide +kernel
theorem d_L_law_918 : decode code 918 = .ok (.aload_n 2, 1) := by decide +kernel
theorem d_L_law_919 : decode code 919 = .ok (.aload_n 0, 1) := by decide +kernel
theorem d_L_law_920 : decode code 920 = .ok (.iload 4, 2) := by decide +kernel
theorem d_L_law_922 : decode code 922 = .ok (.iconst 1, 1) := by decide +kernel
theorem d_L_law_923 : decode code 923 = .ok (.iadd, 1) := by decide +kernel
theorem d_L_law_924 : decode code 924 = .ok (.iaload, 1) := by decide +kernel
theorem d_L_law_925 : decode code 925 = .ok (.invokevirtual 121, 3) := by decide +kernel
theorem d_L_law_928 : decode code 928 = .ok (.if_icmp .eq 5, 3) := by decide +kernel
theorem d_L_law_931 : decode code 931 = .ok (.iconst 0, 1) := by decide +kernel
theorem d_L_law_932 : decode code 932 = .ok (.ireturn, 1) := by decide +kernel
theorem d_L_law_933 : decode code 933 = .ok (.iinc 4 5, 3) := by decide +kernel
theorem d_L_law_936 : decode code 936 = .ok (.goto (-913), 3) := by decide +kernel
theorem d_L_law_939 : decode code 939 = .ok (.iconst 1, 1) := by decide +kernel
theorem d_L_law_940 : decode code 940 = .ok (.ireturn, 1) := by decide +kernel
