theorem d_H_init_0 : decode prog_1_method_1_code 0 = .ok (.aload_n 0, 1) := by decide +kernel
theorem d_H_init_1 : decode prog_1_method_1_code 1 = .ok (.invokespecial 1, 3) := by decide +kernel
theorem d_H_init_4 : decode prog_1_method_1_code 4 = .ok (.aload_n 0, 1) := by decide +kernel
theorem d_H_init_5 : decode prog_1_method_1_code 5 = .ok (.bipush 8, 2) := by decide +kernel
theorem d_H_init_7 : decode prog_1_method_1_code 7 = .ok (.newarray .int, 2) := by decide +kernel
theorem d_H_init_9 : decode prog_1_method_1_code 9 = .ok (.putfield 9, 3) := by decide +kernel
theorem d_H_init_12 : decode prog_1_method_1_code 12 = .ok (.aload_n 0, 1) := by decide +kernel
theorem d_H_init_13 : decode prog_1_method_1_code 13 = .ok (.bipush 8, 2) := by decide +kernel
theorem d_H_init_15 : decode prog_1_method_1_code 15 = .ok (.newarray .int, 2) := by decide +kernel
theorem d_H_init_17 : decode prog_1_method_1_code 17 = .ok (.putfield 13, 3) := by decide +kernel
theorem d_H_init_20 : decode prog_1_method_1_code 20 = .ok (.aload_n 0, 1) := by decide +kernel
theorem d_H_init_21 : decode prog_1_method_1_code 21 = .ok (.bipush 6, 2) := by decide +kernel
theorem d_H_init_23 : decode prog_1_method_1_code 23 = .ok (.anewarray 16, 3) := by decide +kernel
theorem d_H_init_26 : decode prog_1_method_1_code 26 = .ok (.putfield 18, 3) := by decide +kernel
theorem d_H_init_29 : decode prog_1_method_1_code 29 = .ok (.aload_n 0, 1) := by decide +kernel
theorem d_H_init_30 : decode prog_1_method_1_code 30 = .ok (.new 22, 3) := by decide +kernel
theorem d_H_init_33 : decode prog_1_method_1_code 33 = .ok (.dup, 1) := by decide +kernel
theorem d_H_init_34 : decode prog_1_method_1_code 34 = .ok (.invokespecial 24, 3) := by decide +kernel
theorem d_H_init_37 : decode prog_1_method_1_code 37 = .ok (.putfield 25, 3) := by decide +kernel
theorem d_H_init_40 : decode prog_1_method_1_code 40 = .ok (.aload_n 0, 1) := by decide +kernel
theorem d_H_init_41 : decode prog_1_method_1_code 41 = .ok (.sipush 400, 3) := by decide +kernel
theorem d_H_init_44 : decode prog_1_method_1_code 44 = .ok (.newarray .int, 2) := by decide +kernel
theorem d_H_init_46 : decode prog_1_method_1_code 46 = .ok (.putfield 29, 3) := by decide +kernel
theorem d_H_init_49 : decode prog_1_method_1_code 49 = .ok (.iconst 0, 1) := by decide +kernel
theorem d_H_init_50 : decode prog_1_method_1_code 50 = .ok (.istore_n 1, 1) := by decide +kernel
theorem d_H_init_51 : decode prog_1_method_1_code 51 = .ok (.iload_n 1, 1) := by decide +kernel
theorem d_H_init_52 : decode prog_1_method_1_code 52 = .ok (.bipush 8, 2) := by decide +kernel
theorem d_H_init_54 : decode prog_1_method_1_code 54 = .ok (.if_icmp .ge 16, 3) := by decide +kernel
theorem d_H_init_57 : decode prog_1_method_1_code 57 = .ok (.aload_n 0, 1) := by decide +kernel
theorem d_H_init_58 : decode prog_1_method_1_code 58 = .ok (.getfield 13, 3) := by decide +kernel
theorem d_H_init_61 : decode prog_1_method_1_code 61 = .ok (.iload_n 1, 1) := by decide +kernel
theorem d_H_init_62 : decode prog_1_method_1_code 62 = .ok (.iconst (-1), 1) := by decide +kernel
theorem d_H_init_63 : decode prog_1_method_1_code 63 = .ok (.iastore, 1) := by decide +kernel
theorem d_H_init_64 : decode prog_1_method_1_code 64 = .ok (.iinc 1 1, 3) := by decide +kernel
theorem d_H_init_67 : decode prog_1_method_1_code 67 = .ok (.goto (-16), 3) := by decide +kernel
theorem d_H_init_70 : decode prog_1_method_1_code 70 = .ok (.iconst 0, 1) := by decide +kernel
theorem d_H_init_71 : decode prog_1_method_1_code 71 = .ok (.istore_n 1, 1) := by decide +kernel
theorem d_H_init_72 : decode prog_1_method_1_code 72 = .ok (.iload_n 1, 1) := by decide +kernel
theorem d_H_init_73 : decode prog_1_method_1_code 73 = .ok (.bipush 6, 2) := by decide +kernel
theorem d_H_init_75 : decode prog_1_method_1_code 75 = .ok (.if_icmp .ge 23, 3) := by decide +kernel
theorem d_H_init_78 : decode prog_1_method_1_code 78 = .ok (.aload_n 0, 1) := by decide +kernel
theorem d_H_init_79 : decode prog_1_method_1_code 79 = .ok (.getfield 18, 3) := by decide +kernel
theorem d_H_init_82 : decode prog_1_method_1_code 82 = .ok (.iload_n 1, 1) := by decide +kernel
theorem d_H_init_83 : decode prog_1_method_1_code 83 = .ok (.new 16, 3) := by decide +kernel
theorem d_H_init_86 : decode prog_1_method_1_code 86 = .ok (.dup, 1) := by decide +kernel
theorem d_H_init_87 : decode prog_1_method_1_code 87 = .ok (.iload_n 1, 1) := by decide +kernel
theorem d_H_init_88 : decode prog_1_method_1_code 88 = .ok (.invokespecial 32, 3) := by decide +kernel
theorem d_H_init_91 : decode prog_1_method_1_code 91 = .ok (.aastore, 1) := by decide +kernel
theorem d_H_init_92 : decode prog_1_method_1_code 92 = .ok (.iinc 1 1, 3) := by decide +kernel
theorem d_H_init_95 : decode prog_1_method_1_code 95 = .ok (.goto (-23), 3) := by decide +kernel
theorem d_H_init_98 : decode prog_1_method_1_code 98 = .ok (.return_, 1) := by decide +kernel
theorem d_H_part_0 : decode prog_1_method_2_code 0 = .ok (.iload_n 1, 1) := by decide +kernel
theorem d_H_part_1 : decode prog_1_method_2_code 1 = .ok (.ifCond .lt 9, 3) := by decide +kernel
theorem d_H_part_4 : decode prog_1_method_2_code 4 = .ok (.iload_n 1, 1) := by decide +kernel
theorem d_H_part_5 : decode prog_1_method_2_code 5 = .ok (.bipush 9, 2) := by decide +kernel
theorem d_H_part_7 : decode prog_1_method_2_code 7 = .ok (.if_icmp .le 13, 3) := by decide +kernel
theorem d_H_part_10 : decode prog_1_method_2_code 10 = .ok (.new 35, 3) := by decide +kernel
theorem d_H_part_13 : decode prog_1_method_2_code 13 = .ok (.dup, 1) := by decide +kernel
theorem d_H_part_14 : decode prog_1_method_2_code 14 = .ok (.ldc 37, 2) := by decide +kernel
theorem d_H_part_16 : decode prog_1_method_2_code 16 = .ok (.invokespecial 39, 3) := by decide +kernel
theorem d_H_part_19 : decode prog_1_method_2_code 19 = .ok (.athrow, 1) := by decide +kernel
theorem d_H_part_20 : decode prog_1_method_2_code 20 = .ok (.aload_n 0, 1) := by decide +kernel
theorem d_H_part_21 : decode prog_1_method_2_code 21 = .ok (.getfield 42, 3) := by decide +kernel
theorem d_H_part_24 : decode prog_1_method_2_code 24 = .ok (.bipush 6, 2) := by decide +kernel
theorem d_H_part_26 : decode prog_1_method_2_code 26 = .ok (.if_icmp .lt 13, 3) := by decide +kernel
theorem d_H_part_29 : decode prog_1_method_2_code 29 = .ok (.new 46, 3) := by decide +kernel
theorem d_H_part_32 : decode prog_1_method_2_code 32 = .ok (.dup, 1) := by decide +kernel
theorem d_H_part_33 : decode prog_1_method_2_code 33 = .ok (.ldc 48, 2) := by decide +kernel
theorem d_H_part_35 : decode prog_1_method_2_code 35 = .ok (.invokespecial 50, 3) := by decide +kernel
theorem d_H_part_38 : decode prog_1_method_2_code 38 = .ok (.athrow, 1) := by decide +kernel
theorem d_H_part_39 : decode prog_1_method_2_code 39 = .ok (.aload_n 0, 1) := by decide +kernel
theorem d_H_part_40 : decode prog_1_method_2_code 40 = .ok (.getfield 18, 3) := by decide +kernel
theorem d_H_part_43 : decode prog_1_method_2_code 43 = .ok (.aload_n 0, 1) := by decide +kernel
theorem d_H_part_44 : decode prog_1_method_2_code 44 = .ok (.getfield 42, 3) := by decide +kernel
theorem d_H_part_47 : decode prog_1_method_2_code 47 = .ok (.aaload, 1) := by decide +kernel
theorem d_H_part_48 : decode prog_1_method_2_code 48 = .ok (.iload_n 1, 1) := by decide +kernel
theorem d_H_part_49 : decode prog_1_method_2_code 49 = .ok (.putfield 51, 3) := by decide +kernel
theorem d_H_part_52 : decode prog_1_method_2_code 52 = .ok (.aload_n 0, 1) := by decide +kernel
theorem d_H_part_53 : decode prog_1_method_2_code 53 = .ok (.dup, 1) := by decide +kernel
theorem d_H_part_54 : decode prog_1_method_2_code 54 = .ok (.getfield 42, 3) := by decide +kernel
theorem d_H_part_57 : decode prog_1_method_2_code 57 = .ok (.iconst 1, 1) := by decide +kernel
theorem d_H_part_58 : decode prog_1_method_2_code 58 = .ok (.iadd, 1) := by decide +kernel
theorem d_H_part_59 : decode prog_1_method_2_code 59 = .ok (.putfield 42, 3) := by decide +kernel
theorem d_H_part_62 : decode prog_1_method_2_code 62 = .ok (.aload_n 0, 1) := by decide +kernel
theorem d_H_part_63 : decode prog_1_method_2_code 63 = .ok (.getfield 42, 3) := by decide +kernel
theorem d_H_part_66 : decode prog_1_method_2_code 66 = .ok (.iconst 1, 1) := by decide +kernel
theorem d_H_part_67 : decode prog_1_method_2_code 67 = .ok (.isub, 1) := by decide +kernel
theorem d_H_part_68 : decode prog_1_method_2_code 68 = .ok (.ireturn, 1) := by decide +kernel
theorem d_H_step_0 : decode prog_1_method_3_code 0 = .ok (.aload_n 0, 1) := by decide +kernel
theorem d_H_step_1 : decode prog_1_method_3_code 1 = .ok (.iload_n 1, 1) := by decide +kernel
theorem d_H_step_2 : decode prog_1_method_3_code 2 = .ok (.invokevirtual 54, 3) := by decide +kernel
theorem d_H_step_5 : decode prog_1_method_3_code 5 = .ok (.astore 5, 2) := by decide +kernel
theorem d_H_step_7 : decode prog_1_method_3_code 7 = .ok (.aload_n 0, 1) := by decide +kernel
theorem d_H_step_8 : decode prog_1_method_3_code 8 = .ok (.iload_n 2, 1) := by decide +kernel
theorem d_H_step_9 : decode prog_1_method_3_code 9 = .ok (.iload_n 3, 1) := by decide +kernel
theorem d_H_step_10 : decode prog_1_method_3_code 10 = .ok (.iload 4, 2) := by decide +kernel
theorem d_H_step_12 : decode prog_1_method_3_code 12 = .ok (.invokevirtual 58, 3) := by decide +kernel
theorem d_H_step_15 : decode prog_1_method_3_code 15 = .ok (.ifCond .ne 13, 3) := by decide +kernel
theorem d_H_step_18 : decode prog_1_method_3_code 18 = .ok (.new 35, 3) := by decide +kernel
theorem d_H_step_21 : decode prog_1_method_3_code 21 = .ok (.dup, 1) := by decide +kernel
theorem d_H_step_22 : decode prog_1_method_3_code 22 = .ok (.ldc 62, 2) := by decide +kernel
theorem d_H_step_24 : decode prog_1_method_3_code 24 = .ok (.invokespecial 39, 3) := by decide +kernel
theorem d_H_step_27 : decode prog_1_method_3_code 27 = .ok (.athrow, 1) := by decide +kernel
theorem d_H_step_28 : decode prog_1_method_3_code 28 = .ok (.aload 5, 2) := by decide +kernel
theorem d_H_step_30 : decode prog_1_method_3_code 30 = .ok (.getfield 64, 3) := by decide +kernel
theorem d_H_step_33 : decode prog_1_method_3_code 33 = .ok (.ifCond .ne 11, 3) := by decide +kernel
theorem d_H_step_36 : decode prog_1_method_3_code 36 = .ok (.aload 5, 2) := by decide +kernel
theorem d_H_step_38 : decode prog_1_method_3_code 38 = .ok (.getfield 67, 3) := by decide +kernel
theorem d_H_step_41 : decode prog_1_method_3_code 41 = .ok (.ifCond .eq 13, 3) := by decide +kernel
theorem d_H_step_44 : decode prog_1_method_3_code 44 = .ok (.new 70, 3) := by decide +kernel
theorem d_H_step_47 : decode prog_1_method_3_code 47 = .ok (.dup, 1) := by decide +kernel
theorem d_H_step_48 : decode prog_1_method_3_code 48 = .ok (.ldc 72, 2) := by decide +kernel
theorem d_H_step_50 : decode prog_1_method_3_code 50 = .ok (.invokespecial 74, 3) := by decide +kernel
theorem d_H_step_53 : decode prog_1_method_3_code 53 = .ok (.athrow, 1) := by decide +kernel
theorem d_H_step_54 : decode prog_1_method_3_code 54 = .ok (.aload 5, 2) := by decide +kernel
theorem d_H_step_56 : decode prog_1_method_3_code 56 = .ok (.iload_n 2, 1) := by decide +kernel
theorem d_H_step_57 : decode prog_1_method_3_code 57 = .ok (.iload_n 3, 1) := by decide +kernel
theorem d_H_step_58 : decode prog_1_method_3_code 58 = .ok (.iload 4, 2) := by decide +kernel
theorem d_H_step_60 : decode prog_1_method_3_code 60 = .ok (.invokevirtual 75, 3) := by decide +kernel
theorem d_H_step_63 : decode prog_1_method_3_code 63 = .ok (.ifCond .ne 13, 3) := by decide +kernel
theorem d_H_step_66 : decode prog_1_method_3_code 66 = .ok (.new 46, 3) := by decide +kernel
theorem d_H_step_69 : decode prog_1_method_3_code 69 = .ok (.dup, 1) := by decide +kernel
theorem d_H_step_70 : decode prog_1_method_3_code 70 = .ok (.ldc 78, 2) := by decide +kernel
theorem d_H_step_72 : decode prog_1_method_3_code 72 = .ok (.invokespecial 50, 3) := by decide +kernel
theorem d_H_step_75 : decode prog_1_method_3_code 75 = .ok (.athrow, 1) := by decide +kernel
theorem d_H_step_76 : decode prog_1_method_3_code 76 = .ok (.aload 5, 2) := by decide +kernel
theorem d_H_step_78 : decode prog_1_method_3_code 78 = .ok (.getfield 80, 3) := by decide +kernel
theorem d_H_step_81 : decode prog_1_method_3_code 81 = .ok (.ireturn, 1) := by decide +kernel
theorem d_H_fails_0 : decode prog_1_method_4_code 0 = .ok (.aload_n 0, 1) := by decide +kernel
theorem d_H_fails_1 : decode prog_1_method_4_code 1 = .ok (.iload_n 1, 1) := by decide +kernel
theorem d_H_fails_2 : decode prog_1_method_4_code 2 = .ok (.invokevirtual 54, 3) := by decide +kernel
theorem d_H_fails_5 : decode prog_1_method_4_code 5 = .ok (.astore 4, 2) := by decide +kernel
theorem d_H_fails_7 : decode prog_1_method_4_code 7 = .ok (.iload_n 2, 1) := by decide +kernel
theorem d_H_fails_8 : decode prog_1_method_4_code 8 = .ok (.ifCond .lt 12, 3) := by decide +kernel
theorem d_H_fails_11 : decode prog_1_method_4_code 11 = .ok (.iload_n 2, 1) := by decide +kernel
theorem d_H_fails_12 : decode prog_1_method_4_code 12 = .ok (.aload 4, 2) := by decide +kernel
theorem d_H_fails_14 : decode prog_1_method_4_code 14 = .ok (.getfield 80, 3) := by decide +kernel
theorem d_H_fails_17 : decode prog_1_method_4_code 17 = .ok (.if_icmp .lt 13, 3) := by decide +kernel
theorem d_H_fails_20 : decode prog_1_method_4_code 20 = .ok (.new 35, 3) := by decide +kernel
theorem d_H_fails_23 : decode prog_1_method_4_code 23 = .ok (.dup, 1) := by decide +kernel
theorem d_H_fails_24 : decode prog_1_method_4_code 24 = .ok (.ldc 83, 2) := by decide +kernel
theorem d_H_fails_26 : decode prog_1_method_4_code 26 = .ok (.invokespecial 39, 3) := by decide +kernel
theorem d_H_fails_29 : decode prog_1_method_4_code 29 = .ok (.athrow, 1) := by decide +kernel
theorem d_H_fails_30 : decode prog_1_method_4_code 30 = .ok (.aload 4, 2) := by decide +kernel
theorem d_H_fails_32 : decode prog_1_method_4_code 32 = .ok (.getfield 85, 3) := by decide +kernel
theorem d_H_fails_35 : decode prog_1_method_4_code 35 = .ok (.iload_n 2, 1) := by decide +kernel
theorem d_H_fails_36 : decode prog_1_method_4_code 36 = .ok (.iload_n 3, 1) := by decide +kernel
theorem d_H_fails_37 : decode prog_1_method_4_code 37 = .ok (.bastore, 1) := by decide +kernel
theorem d_H_fails_38 : decode prog_1_method_4_code 38 = .ok (.return_, 1) := by decide +kernel
theorem d_H_losing_0 : decode prog_1_method_5_code 0 = .ok (.aload_n 0, 1) := by decide +kernel
theorem d_H_losing_1 : decode prog_1_method_5_code 1 = .ok (.iload_n 1, 1) := by decide +kernel
theorem d_H_losing_2 : decode prog_1_method_5_code 2 = .ok (.putfield 89, 3) := by decide +kernel
theorem d_H_losing_5 : decode prog_1_method_5_code 5 = .ok (.return_, 1) := by decide +kernel
theorem d_H_turn_0 : decode prog_1_method_6_code 0 = .ok (.aload_n 0, 1) := by decide +kernel
theorem d_H_turn_1 : decode prog_1_method_6_code 1 = .ok (.iload_n 1, 1) := by decide +kernel
theorem d_H_turn_2 : decode prog_1_method_6_code 2 = .ok (.invokevirtual 54, 3) := by decide +kernel
theorem d_H_turn_5 : decode prog_1_method_6_code 5 = .ok (.astore_n 2, 1) := by decide +kernel
theorem d_H_turn_6 : decode prog_1_method_6_code 6 = .ok (.aload_n 2, 1) := by decide +kernel
theorem d_H_turn_7 : decode prog_1_method_6_code 7 = .ok (.invokevirtual 93, 3) := by decide +kernel
theorem d_H_turn_10 : decode prog_1_method_6_code 10 = .ok (.ifCond .ne 13, 3) := by decide +kernel
theorem d_H_turn_13 : decode prog_1_method_6_code 13 = .ok (.new 70, 3) := by decide +kernel
theorem d_H_turn_16 : decode prog_1_method_6_code 16 = .ok (.dup, 1) := by decide +kernel
theorem d_H_turn_17 : decode prog_1_method_6_code 17 = .ok (.ldc 97, 2) := by decide +kernel
theorem d_H_turn_19 : decode prog_1_method_6_code 19 = .ok (.invokespecial 74, 3) := by decide +kernel
theorem d_H_turn_22 : decode prog_1_method_6_code 22 = .ok (.athrow, 1) := by decide +kernel
theorem d_H_turn_23 : decode prog_1_method_6_code 23 = .ok (.aload_n 0, 1) := by decide +kernel
theorem d_H_turn_24 : decode prog_1_method_6_code 24 = .ok (.aload_n 2, 1) := by decide +kernel
theorem d_H_turn_25 : decode prog_1_method_6_code 25 = .ok (.invokevirtual 99, 3) := by decide +kernel
theorem d_H_turn_28 : decode prog_1_method_6_code 28 = .ok (.aload_n 2, 1) := by decide +kernel
theorem d_H_turn_29 : decode prog_1_method_6_code 29 = .ok (.getfield 67, 3) := by decide +kernel
theorem d_H_turn_32 : decode prog_1_method_6_code 32 = .ok (.ireturn, 1) := by decide +kernel
theorem d_H_run_0 : decode prog_1_method_7_code 0 = .ok (.iload_n 1, 1) := by decide +kernel
theorem d_H_run_1 : decode prog_1_method_7_code 1 = .ok (.ifCond .lt 9, 3) := by decide +kernel
theorem d_H_run_4 : decode prog_1_method_7_code 4 = .ok (.iload_n 1, 1) := by decide +kernel
theorem d_H_run_5 : decode prog_1_method_7_code 5 = .ok (.bipush 50, 2) := by decide +kernel
theorem d_H_run_7 : decode prog_1_method_7_code 7 = .ok (.if_icmp .le 13, 3) := by decide +kernel
theorem d_H_run_10 : decode prog_1_method_7_code 10 = .ok (.new 35, 3) := by decide +kernel
theorem d_H_run_13 : decode prog_1_method_7_code 13 = .ok (.dup, 1) := by decide +kernel
theorem d_H_run_14 : decode prog_1_method_7_code 14 = .ok (.ldc 103, 2) := by decide +kernel
theorem d_H_run_16 : decode prog_1_method_7_code 16 = .ok (.invokespecial 39, 3) := by decide +kernel
theorem d_H_run_19 : decode prog_1_method_7_code 19 = .ok (.athrow, 1) := by decide +kernel
theorem d_H_run_20 : decode prog_1_method_7_code 20 = .ok (.aload_n 0, 1) := by decide +kernel
theorem d_H_run_21 : decode prog_1_method_7_code 21 = .ok (.getfield 105, 3) := by decide +kernel
theorem d_H_run_24 : decode prog_1_method_7_code 24 = .ok (.istore_n 2, 1) := by decide +kernel
theorem d_H_run_25 : decode prog_1_method_7_code 25 = .ok (.iconst 0, 1) := by decide +kernel
theorem d_H_run_26 : decode prog_1_method_7_code 26 = .ok (.istore_n 3, 1) := by decide +kernel
theorem d_H_run_27 : decode prog_1_method_7_code 27 = .ok (.iload_n 3, 1) := by decide +kernel
theorem d_H_run_28 : decode prog_1_method_7_code 28 = .ok (.iload_n 1, 1) := by decide +kernel
theorem d_H_run_29 : decode prog_1_method_7_code 29 = .ok (.if_icmp .ge 51, 3) := by decide +kernel
theorem d_H_run_32 : decode prog_1_method_7_code 32 = .ok (.iconst 0, 1) := by decide +kernel
theorem d_H_run_33 : decode prog_1_method_7_code 33 = .ok (.istore 4, 2) := by decide +kernel
theorem d_H_run_35 : decode prog_1_method_7_code 35 = .ok (.iload 4, 2) := by decide +kernel
theorem d_H_run_37 : decode prog_1_method_7_code 37 = .ok (.aload_n 0, 1) := by decide +kernel
theorem d_H_run_38 : decode prog_1_method_7_code 38 = .ok (.getfield 42, 3) := by decide +kernel
theorem d_H_run_41 : decode prog_1_method_7_code 41 = .ok (.if_icmp .ge 33, 3) := by decide +kernel
theorem d_H_run_44 : decode prog_1_method_7_code 44 = .ok (.aload_n 0, 1) := by decide +kernel
theorem d_H_run_45 : decode prog_1_method_7_code 45 = .ok (.getfield 18, 3) := by decide +kernel
theorem d_H_run_48 : decode prog_1_method_7_code 48 = .ok (.iload 4, 2) := by decide +kernel
theorem d_H_run_50 : decode prog_1_method_7_code 50 = .ok (.aaload, 1) := by decide +kernel
theorem d_H_run_51 : decode prog_1_method_7_code 51 = .ok (.invokevirtual 93, 3) := by decide +kernel
theorem d_H_run_54 : decode prog_1_method_7_code 54 = .ok (.ifCond .eq 14, 3) := by decide +kernel
theorem d_H_run_57 : decode prog_1_method_7_code 57 = .ok (.aload_n 0, 1) := by decide +kernel
theorem d_H_run_58 : decode prog_1_method_7_code 58 = .ok (.aload_n 0, 1) := by decide +kernel
theorem d_H_run_59 : decode prog_1_method_7_code 59 = .ok (.getfield 18, 3) := by decide +kernel
theorem d_H_run_62 : decode prog_1_method_7_code 62 = .ok (.iload 4, 2) := by decide +kernel
theorem d_H_run_64 : decode prog_1_method_7_code 64 = .ok (.aaload, 1) := by decide +kernel
theorem d_H_run_65 : decode prog_1_method_7_code 65 = .ok (.invokevirtual 99, 3) := by decide +kernel
theorem d_H_run_68 : decode prog_1_method_7_code 68 = .ok (.iinc 4 1, 3) := by decide +kernel
theorem d_H_run_71 : decode prog_1_method_7_code 71 = .ok (.goto (-36), 3) := by decide +kernel
theorem d_H_run_74 : decode prog_1_method_7_code 74 = .ok (.iinc 3 1, 3) := by decide +kernel
theorem d_H_run_77 : decode prog_1_method_7_code 77 = .ok (.goto (-50), 3) := by decide +kernel
theorem d_H_run_80 : decode prog_1_method_7_code 80 = .ok (.aload_n 0, 1) := by decide +kernel
theorem d_H_run_81 : decode prog_1_method_7_code 81 = .ok (.getfield 105, 3) := by decide +kernel
theorem d_H_run_84 : decode prog_1_method_7_code 84 = .ok (.iload_n 2, 1) := by decide +kernel
theorem d_H_run_85 : decode prog_1_method_7_code 85 = .ok (.isub, 1) := by decide +kernel
theorem d_H_run_86 : decode prog_1_method_7_code 86 = .ok (.ireturn, 1) := by decide +kernel
theorem d_H_again_0 : decode prog_1_method_8_code 0 = .ok (.aload_n 0, 1) := by decide +kernel
theorem d_H_again_1 : decode prog_1_method_8_code 1 = .ok (.iload_n 1, 1) := by decide +kernel
theorem d_H_again_2 : decode prog_1_method_8_code 2 = .ok (.invokevirtual 108, 3) := by decide +kernel
theorem d_H_again_5 : decode prog_1_method_8_code 5 = .ok (.aload_n 0, 1) := by decide +kernel
theorem d_H_again_6 : decode prog_1_method_8_code 6 = .ok (.getfield 25, 3) := by decide +kernel
theorem d_H_again_9 : decode prog_1_method_8_code 9 = .ok (.getfield 111, 3) := by decide +kernel
theorem d_H_again_12 : decode prog_1_method_8_code 12 = .ok (.iload_n 1, 1) := by decide +kernel
theorem d_H_again_13 : decode prog_1_method_8_code 13 = .ok (.iaload, 1) := by decide +kernel
theorem d_H_again_14 : decode prog_1_method_8_code 14 = .ok (.iconst 2, 1) := by decide +kernel
theorem d_H_again_15 : decode prog_1_method_8_code 15 = .ok (.if_icmp .eq 13, 3) := by decide +kernel
theorem d_H_again_18 : decode prog_1_method_8_code 18 = .ok (.new 70, 3) := by decide +kernel
theorem d_H_again_21 : decode prog_1_method_8_code 21 = .ok (.dup, 1) := by decide +kernel
theorem d_H_again_22 : decode prog_1_method_8_code 22 = .ok (.ldc 113, 2) := by decide +kernel
theorem d_H_again_24 : decode prog_1_method_8_code 24 = .ok (.invokespecial 74, 3) := by decide +kernel
theorem d_H_again_27 : decode prog_1_method_8_code 27 = .ok (.athrow, 1) := by decide +kernel
theorem d_H_again_28 : decode prog_1_method_8_code 28 = .ok (.aload_n 0, 1) := by decide +kernel
theorem d_H_again_29 : decode prog_1_method_8_code 29 = .ok (.getfield 25, 3) := by decide +kernel
theorem d_H_again_32 : decode prog_1_method_8_code 32 = .ok (.getfield 111, 3) := by decide +kernel
theorem d_H_again_35 : decode prog_1_method_8_code 35 = .ok (.iload_n 1, 1) := by decide +kernel
theorem d_H_again_36 : decode prog_1_method_8_code 36 = .ok (.iconst 0, 1) := by decide +kernel
theorem d_H_again_37 : decode prog_1_method_8_code 37 = .ok (.iastore, 1) := by decide +kernel
theorem d_H_again_38 : decode prog_1_method_8_code 38 = .ok (.aload_n 0, 1) := by decide +kernel
theorem d_H_again_39 : decode prog_1_method_8_code 39 = .ok (.getfield 25, 3) := by decide +kernel
theorem d_H_again_42 : decode prog_1_method_8_code 42 = .ok (.getfield 115, 3) := by decide +kernel
theorem d_H_again_45 : decode prog_1_method_8_code 45 = .ok (.iload_n 1, 1) := by decide +kernel
theorem d_H_again_46 : decode prog_1_method_8_code 46 = .ok (.iaload, 1) := by decide +kernel
theorem d_H_again_47 : decode prog_1_method_8_code 47 = .ok (.ireturn, 1) := by decide +kernel
theorem d_H_interrupt_0 : decode prog_1_method_9_code 0 = .ok (.aload_n 0, 1) := by decide +kernel
theorem d_H_interrupt_1 : decode prog_1_method_9_code 1 = .ok (.iload_n 1, 1) := by decide +kernel
theorem d_H_interrupt_2 : decode prog_1_method_9_code 2 = .ok (.invokevirtual 54, 3) := by decide +kernel
theorem d_H_interrupt_5 : decode prog_1_method_9_code 5 = .ok (.astore_n 2, 1) := by decide +kernel
theorem d_H_interrupt_6 : decode prog_1_method_9_code 6 = .ok (.aload_n 2, 1) := by decide +kernel
theorem d_H_interrupt_7 : decode prog_1_method_9_code 7 = .ok (.getfield 67, 3) := by decide +kernel
theorem d_H_interrupt_10 : decode prog_1_method_9_code 10 = .ok (.iconst 1, 1) := by decide +kernel
theorem d_H_interrupt_11 : decode prog_1_method_9_code 11 = .ok (.if_icmp .eq 21, 3) := by decide +kernel
theorem d_H_interrupt_14 : decode prog_1_method_9_code 14 = .ok (.aload_n 2, 1) := by decide +kernel
theorem d_H_interrupt_15 : decode prog_1_method_9_code 15 = .ok (.getfield 67, 3) := by decide +kernel
theorem d_H_interrupt_18 : decode prog_1_method_9_code 18 = .ok (.iconst 2, 1) := by decide +kernel
theorem d_H_interrupt_19 : decode prog_1_method_9_code 19 = .ok (.if_icmp .eq 13, 3) := by decide +kernel
theorem d_H_interrupt_22 : decode prog_1_method_9_code 22 = .ok (.new 70, 3) := by decide +kernel
theorem d_H_interrupt_25 : decode prog_1_method_9_code 25 = .ok (.dup, 1) := by decide +kernel
theorem d_H_interrupt_26 : decode prog_1_method_9_code 26 = .ok (.ldc 118, 2) := by decide +kernel
theorem d_H_interrupt_28 : decode prog_1_method_9_code 28 = .ok (.invokespecial 74, 3) := by decide +kernel
theorem d_H_interrupt_31 : decode prog_1_method_9_code 31 = .ok (.athrow, 1) := by decide +kernel
theorem d_H_interrupt_32 : decode prog_1_method_9_code 32 = .ok (.aload_n 0, 1) := by decide +kernel
theorem d_H_interrupt_33 : decode prog_1_method_9_code 33 = .ok (.aload_n 2, 1) := by decide +kernel
theorem d_H_interrupt_34 : decode prog_1_method_9_code 34 = .ok (.iconst 0, 1) := by decide +kernel
theorem d_H_interrupt_35 : decode prog_1_method_9_code 35 = .ok (.invokevirtual 120, 3) := by decide +kernel
theorem d_H_interrupt_38 : decode prog_1_method_9_code 38 = .ok (.ireturn, 1) := by decide +kernel
theorem d_H_restart_0 : decode prog_1_method_10_code 0 = .ok (.aload_n 0, 1) := by decide +kernel
theorem d_H_restart_1 : decode prog_1_method_10_code 1 = .ok (.iload_n 1, 1) := by decide +kernel
theorem d_H_restart_2 : decode prog_1_method_10_code 2 = .ok (.invokevirtual 54, 3) := by decide +kernel
theorem d_H_restart_5 : decode prog_1_method_10_code 5 = .ok (.astore_n 2, 1) := by decide +kernel
theorem d_H_restart_6 : decode prog_1_method_10_code 6 = .ok (.aload_n 2, 1) := by decide +kernel
theorem d_H_restart_7 : decode prog_1_method_10_code 7 = .ok (.getfield 67, 3) := by decide +kernel
theorem d_H_restart_10 : decode prog_1_method_10_code 10 = .ok (.iconst 3, 1) := by decide +kernel
theorem d_H_restart_11 : decode prog_1_method_10_code 11 = .ok (.if_icmp .eq 21, 3) := by decide +kernel
theorem d_H_restart_14 : decode prog_1_method_10_code 14 = .ok (.aload_n 2, 1) := by decide +kernel
theorem d_H_restart_15 : decode prog_1_method_10_code 15 = .ok (.getfield 67, 3) := by decide +kernel
theorem d_H_restart_18 : decode prog_1_method_10_code 18 = .ok (.iconst 4, 1) := by decide +kernel
theorem d_H_restart_19 : decode prog_1_method_10_code 19 = .ok (.if_icmp .eq 13, 3) := by decide +kernel
theorem d_H_restart_22 : decode prog_1_method_10_code 22 = .ok (.new 70, 3) := by decide +kernel
theorem d_H_restart_25 : decode prog_1_method_10_code 25 = .ok (.dup, 1) := by decide +kernel
theorem d_H_restart_26 : decode prog_1_method_10_code 26 = .ok (.ldc 124, 2) := by decide +kernel
theorem d_H_restart_28 : decode prog_1_method_10_code 28 = .ok (.invokespecial 74, 3) := by decide +kernel
theorem d_H_restart_31 : decode prog_1_method_10_code 31 = .ok (.athrow, 1) := by decide +kernel
theorem d_H_restart_32 : decode prog_1_method_10_code 32 = .ok (.aload_n 2, 1) := by decide +kernel
theorem d_H_restart_33 : decode prog_1_method_10_code 33 = .ok (.iconst 0, 1) := by decide +kernel
theorem d_H_restart_34 : decode prog_1_method_10_code 34 = .ok (.putfield 67, 3) := by decide +kernel
theorem d_H_restart_37 : decode prog_1_method_10_code 37 = .ok (.aload_n 2, 1) := by decide +kernel
theorem d_H_restart_38 : decode prog_1_method_10_code 38 = .ok (.iconst 0, 1) := by decide +kernel
theorem d_H_restart_39 : decode prog_1_method_10_code 39 = .ok (.putfield 64, 3) := by decide +kernel
theorem d_H_restart_42 : decode prog_1_method_10_code 42 = .ok (.return_, 1) := by decide +kernel
theorem d_H_close_0 : decode prog_1_method_11_code 0 = .ok (.iconst 0, 1) := by decide +kernel
theorem d_H_close_1 : decode prog_1_method_11_code 1 = .ok (.istore_n 1, 1) := by decide +kernel
theorem d_H_close_2 : decode prog_1_method_11_code 2 = .ok (.iconst 0, 1) := by decide +kernel
theorem d_H_close_3 : decode prog_1_method_11_code 3 = .ok (.istore_n 2, 1) := by decide +kernel
theorem d_H_close_4 : decode prog_1_method_11_code 4 = .ok (.iload_n 2, 1) := by decide +kernel
theorem d_H_close_5 : decode prog_1_method_11_code 5 = .ok (.aload_n 0, 1) := by decide +kernel
theorem d_H_close_6 : decode prog_1_method_11_code 6 = .ok (.getfield 42, 3) := by decide +kernel
theorem d_H_close_9 : decode prog_1_method_11_code 9 = .ok (.if_icmp .ge 42, 3) := by decide +kernel
theorem d_H_close_12 : decode prog_1_method_11_code 12 = .ok (.aload_n 0, 1) := by decide +kernel
theorem d_H_close_13 : decode prog_1_method_11_code 13 = .ok (.getfield 18, 3) := by decide +kernel
theorem d_H_close_16 : decode prog_1_method_11_code 16 = .ok (.iload_n 2, 1) := by decide +kernel
theorem d_H_close_17 : decode prog_1_method_11_code 17 = .ok (.aaload, 1) := by decide +kernel
theorem d_H_close_18 : decode prog_1_method_11_code 18 = .ok (.astore_n 3, 1) := by decide +kernel
theorem d_H_close_19 : decode prog_1_method_11_code 19 = .ok (.aload_n 3, 1) := by decide +kernel
theorem d_H_close_20 : decode prog_1_method_11_code 20 = .ok (.getfield 67, 3) := by decide +kernel
theorem d_H_close_23 : decode prog_1_method_11_code 23 = .ok (.iconst 3, 1) := by decide +kernel
theorem d_H_close_24 : decode prog_1_method_11_code 24 = .ok (.if_icmp .eq 21, 3) := by decide +kernel
theorem d_H_close_27 : decode prog_1_method_11_code 27 = .ok (.aload_n 3, 1) := by decide +kernel
theorem d_H_close_28 : decode prog_1_method_11_code 28 = .ok (.getfield 67, 3) := by decide +kernel
theorem d_H_close_31 : decode prog_1_method_11_code 31 = .ok (.iconst 5, 1) := by decide +kernel
theorem d_H_close_32 : decode prog_1_method_11_code 32 = .ok (.if_icmp .eq 13, 3) := by decide +kernel
theorem d_H_close_35 : decode prog_1_method_11_code 35 = .ok (.aload_n 0, 1) := by decide +kernel
theorem d_H_close_36 : decode prog_1_method_11_code 36 = .ok (.aload_n 3, 1) := by decide +kernel
theorem d_H_close_37 : decode prog_1_method_11_code 37 = .ok (.iconst 5, 1) := by decide +kernel
theorem d_H_close_38 : decode prog_1_method_11_code 38 = .ok (.invokevirtual 120, 3) := by decide +kernel
theorem d_H_close_41 : decode prog_1_method_11_code 41 = .ok (.pop, 1) := by decide +kernel
theorem d_H_close_42 : decode prog_1_method_11_code 42 = .ok (.iinc 1 1, 3) := by decide +kernel
theorem d_H_close_45 : decode prog_1_method_11_code 45 = .ok (.iinc 2 1, 3) := by decide +kernel
theorem d_H_close_48 : decode prog_1_method_11_code 48 = .ok (.goto (-44), 3) := by decide +kernel
theorem d_H_close_51 : decode prog_1_method_11_code 51 = .ok (.iload_n 1, 1) := by decide +kernel
theorem d_H_close_52 : decode prog_1_method_11_code 52 = .ok (.ireturn, 1) := by decide +kernel
theorem d_H_log_0 : decode prog_1_method_12_code 0 = .ok (.iload_n 1, 1) := by decide +kernel
theorem d_H_log_1 : decode prog_1_method_12_code 1 = .ok (.ifCond .lt 11, 3) := by decide +kernel
theorem d_H_log_4 : decode prog_1_method_12_code 4 = .ok (.iload_n 1, 1) := by decide +kernel
theorem d_H_log_5 : decode prog_1_method_12_code 5 = .ok (.aload_n 0, 1) := by decide +kernel
theorem d_H_log_6 : decode prog_1_method_12_code 6 = .ok (.getfield 126, 3) := by decide +kernel
theorem d_H_log_9 : decode prog_1_method_12_code 9 = .ok (.if_icmp .lt 13, 3) := by decide +kernel
theorem d_H_log_12 : decode prog_1_method_12_code 12 = .ok (.new 35, 3) := by decide +kernel
theorem d_H_log_15 : decode prog_1_method_12_code 15 = .ok (.dup, 1) := by decide +kernel
theorem d_H_log_16 : decode prog_1_method_12_code 16 = .ok (.ldc 129, 2) := by decide +kernel
theorem d_H_log_18 : decode prog_1_method_12_code 18 = .ok (.invokespecial 39, 3) := by decide +kernel
theorem d_H_log_21 : decode prog_1_method_12_code 21 = .ok (.athrow, 1) := by decide +kernel
theorem d_H_log_22 : decode prog_1_method_12_code 22 = .ok (.aload_n 0, 1) := by decide +kernel
theorem d_H_log_23 : decode prog_1_method_12_code 23 = .ok (.getfield 29, 3) := by decide +kernel
theorem d_H_log_26 : decode prog_1_method_12_code 26 = .ok (.iload_n 1, 1) := by decide +kernel
theorem d_H_log_27 : decode prog_1_method_12_code 27 = .ok (.iaload, 1) := by decide +kernel
theorem d_H_log_28 : decode prog_1_method_12_code 28 = .ok (.ireturn, 1) := by decide +kernel
theorem d_H_place_0 : decode prog_1_method_13_code 0 = .ok (.iload_n 1, 1) := by decide +kernel
theorem d_H_place_1 : decode prog_1_method_13_code 1 = .ok (.invokestatic 131, 3) := by decide +kernel
theorem d_H_place_4 : decode prog_1_method_13_code 4 = .ok (.ifCond .eq 12, 3) := by decide +kernel
theorem d_H_place_7 : decode prog_1_method_13_code 7 = .ok (.iload_n 2, 1) := by decide +kernel
theorem d_H_place_8 : decode prog_1_method_13_code 8 = .ok (.ifCond .lt 8, 3) := by decide +kernel
theorem d_H_place_11 : decode prog_1_method_13_code 11 = .ok (.iload_n 2, 1) := by decide +kernel
theorem d_H_place_12 : decode prog_1_method_13_code 12 = .ok (.iconst 1, 1) := by decide +kernel
theorem d_H_place_13 : decode prog_1_method_13_code 13 = .ok (.if_icmp .le 13, 3) := by decide +kernel
theorem d_H_place_16 : decode prog_1_method_13_code 16 = .ok (.new 35, 3) := by decide +kernel
theorem d_H_place_19 : decode prog_1_method_13_code 19 = .ok (.dup, 1) := by decide +kernel
theorem d_H_place_20 : decode prog_1_method_13_code 20 = .ok (.ldc 135, 2) := by decide +kernel
theorem d_H_place_22 : decode prog_1_method_13_code 22 = .ok (.invokespecial 39, 3) := by decide +kernel
theorem d_H_place_25 : decode prog_1_method_13_code 25 = .ok (.athrow, 1) := by decide +kernel
theorem d_H_place_26 : decode prog_1_method_13_code 26 = .ok (.iload_n 2, 1) := by decide +kernel
theorem d_H_place_27 : decode prog_1_method_13_code 27 = .ok (.ifCond .ne 12, 3) := by decide +kernel
theorem d_H_place_30 : decode prog_1_method_13_code 30 = .ok (.aload_n 0, 1) := by decide +kernel
theorem d_H_place_31 : decode prog_1_method_13_code 31 = .ok (.getfield 9, 3) := by decide +kernel
theorem d_H_place_34 : decode prog_1_method_13_code 34 = .ok (.iload_n 1, 1) := by decide +kernel
theorem d_H_place_35 : decode prog_1_method_13_code 35 = .ok (.iaload, 1) := by decide +kernel
theorem d_H_place_36 : decode prog_1_method_13_code 36 = .ok (.goto 9, 3) := by decide +kernel
theorem d_H_place_39 : decode prog_1_method_13_code 39 = .ok (.aload_n 0, 1) := by decide +kernel
theorem d_H_place_40 : decode prog_1_method_13_code 40 = .ok (.getfield 13, 3) := by decide +kernel
theorem d_H_place_43 : decode prog_1_method_13_code 43 = .ok (.iload_n 1, 1) := by decide +kernel
theorem d_H_place_44 : decode prog_1_method_13_code 44 = .ok (.iaload, 1) := by decide +kernel
theorem d_H_place_45 : decode prog_1_method_13_code 45 = .ok (.ireturn, 1) := by decide +kernel
theorem d_H_message_0 : decode prog_1_method_14_code 0 = .ok (.aload_n 0, 1) := by decide +kernel
theorem d_H_message_1 : decode prog_1_method_14_code 1 = .ok (.iload_n 1, 1) := by decide +kernel
theorem d_H_message_2 : decode prog_1_method_14_code 2 = .ok (.invokevirtual 108, 3) := by decide +kernel
theorem d_H_message_5 : decode prog_1_method_14_code 5 = .ok (.iload_n 2, 1) := by decide +kernel
theorem d_H_message_6 : decode prog_1_method_14_code 6 = .ok (.tableswitch 70 0 3 #[30, 40, 50, 60], 30) := by decide +kernel
theorem d_H_message_36 : decode prog_1_method_14_code 36 = .ok (.aload_n 0, 1) := by decide +kernel
theorem d_H_message_37 : decode prog_1_method_14_code 37 = .ok (.getfield 25, 3) := by decide +kernel
theorem d_H_message_40 : decode prog_1_method_14_code 40 = .ok (.getfield 111, 3) := by decide +kernel
theorem d_H_message_43 : decode prog_1_method_14_code 43 = .ok (.iload_n 1, 1) := by decide +kernel
theorem d_H_message_44 : decode prog_1_method_14_code 44 = .ok (.iaload, 1) := by decide +kernel
theorem d_H_message_45 : decode prog_1_method_14_code 45 = .ok (.ireturn, 1) := by decide +kernel
theorem d_H_message_46 : decode prog_1_method_14_code 46 = .ok (.aload_n 0, 1) := by decide +kernel
theorem d_H_message_47 : decode prog_1_method_14_code 47 = .ok (.getfield 25, 3) := by decide +kernel
theorem d_H_message_50 : decode prog_1_method_14_code 50 = .ok (.getfield 137, 3) := by decide +kernel
theorem d_H_message_53 : decode prog_1_method_14_code 53 = .ok (.iload_n 1, 1) := by decide +kernel
theorem d_H_message_54 : decode prog_1_method_14_code 54 = .ok (.iaload, 1) := by decide +kernel
theorem d_H_message_55 : decode prog_1_method_14_code 55 = .ok (.ireturn, 1) := by decide +kernel
theorem d_H_message_56 : decode prog_1_method_14_code 56 = .ok (.aload_n 0, 1) := by decide +kernel
theorem d_H_message_57 : decode prog_1_method_14_code 57 = .ok (.getfield 25, 3) := by decide +kernel
theorem d_H_message_60 : decode prog_1_method_14_code 60 = .ok (.getfield 115, 3) := by decide +kernel
theorem d_H_message_63 : decode prog_1_method_14_code 63 = .ok (.iload_n 1, 1) := by decide +kernel
theorem d_H_message_64 : decode prog_1_method_14_code 64 = .ok (.iaload, 1) := by decide +kernel
theorem d_H_message_65 : decode prog_1_method_14_code 65 = .ok (.ireturn, 1) := by decide +kernel
theorem d_H_message_66 : decode prog_1_method_14_code 66 = .ok (.aload_n 0, 1) := by decide +kernel
theorem d_H_message_67 : decode prog_1_method_14_code 67 = .ok (.getfield 25, 3) := by decide +kernel
theorem d_H_message_70 : decode prog_1_method_14_code 70 = .ok (.getfield 140, 3) := by decide +kernel
theorem d_H_message_73 : decode prog_1_method_14_code 73 = .ok (.iload_n 1, 1) := by decide +kernel
theorem d_H_message_74 : decode prog_1_method_14_code 74 = .ok (.iaload, 1) := by decide +kernel
theorem d_H_message_75 : decode prog_1_method_14_code 75 = .ok (.ireturn, 1) := by decide +kernel
theorem d_H_message_76 : decode prog_1_method_14_code 76 = .ok (.new 35, 3) := by decide +kernel
theorem d_H_message_79 : decode prog_1_method_14_code 79 = .ok (.dup, 1) := by decide +kernel
theorem d_H_message_80 : decode prog_1_method_14_code 80 = .ok (.ldc 143, 2) := by decide +kernel
theorem d_H_message_82 : decode prog_1_method_14_code 82 = .ok (.invokespecial 39, 3) := by decide +kernel
theorem d_H_message_85 : decode prog_1_method_14_code 85 = .ok (.athrow, 1) := by decide +kernel
theorem d_H_told_0 : decode prog_1_method_15_code 0 = .ok (.aload_n 0, 1) := by decide +kernel
theorem d_H_told_1 : decode prog_1_method_15_code 1 = .ok (.iload_n 1, 1) := by decide +kernel
theorem d_H_told_2 : decode prog_1_method_15_code 2 = .ok (.invokevirtual 54, 3) := by decide +kernel
theorem d_H_told_5 : decode prog_1_method_15_code 5 = .ok (.astore_n 3, 1) := by decide +kernel
theorem d_H_told_6 : decode prog_1_method_15_code 6 = .ok (.iload_n 2, 1) := by decide +kernel
theorem d_H_told_7 : decode prog_1_method_15_code 7 = .ok (.tableswitch 77 0 6 #[41, 46, 51, 56, 61, 66, 72], 41) := by decide +kernel
theorem d_H_told_48 : decode prog_1_method_15_code 48 = .ok (.aload_n 3, 1) := by decide +kernel
theorem d_H_told_49 : decode prog_1_method_15_code 49 = .ok (.getfield 67, 3) := by decide +kernel
theorem d_H_told_52 : decode prog_1_method_15_code 52 = .ok (.ireturn, 1) := by decide +kernel
theorem d_H_told_53 : decode prog_1_method_15_code 53 = .ok (.aload_n 3, 1) := by decide +kernel
theorem d_H_told_54 : decode prog_1_method_15_code 54 = .ok (.getfield 51, 3) := by decide +kernel
theorem d_H_told_57 : decode prog_1_method_15_code 57 = .ok (.ireturn, 1) := by decide +kernel
theorem d_H_told_58 : decode prog_1_method_15_code 58 = .ok (.aload_n 3, 1) := by decide +kernel
theorem d_H_told_59 : decode prog_1_method_15_code 59 = .ok (.getfield 80, 3) := by decide +kernel
theorem d_H_told_62 : decode prog_1_method_15_code 62 = .ok (.ireturn, 1) := by decide +kernel
theorem d_H_told_63 : decode prog_1_method_15_code 63 = .ok (.aload_n 3, 1) := by decide +kernel
theorem d_H_told_64 : decode prog_1_method_15_code 64 = .ok (.getfield 64, 3) := by decide +kernel
theorem d_H_told_67 : decode prog_1_method_15_code 67 = .ok (.ireturn, 1) := by decide +kernel
theorem d_H_told_68 : decode prog_1_method_15_code 68 = .ok (.aload_n 3, 1) := by decide +kernel
theorem d_H_told_69 : decode prog_1_method_15_code 69 = .ok (.invokevirtual 145, 3) := by decide +kernel
theorem d_H_told_72 : decode prog_1_method_15_code 72 = .ok (.ireturn, 1) := by decide +kernel
theorem d_H_told_73 : decode prog_1_method_15_code 73 = .ok (.aload_n 0, 1) := by decide +kernel
theorem d_H_told_74 : decode prog_1_method_15_code 74 = .ok (.aload_n 3, 1) := by decide +kernel
theorem d_H_told_75 : decode prog_1_method_15_code 75 = .ok (.invokevirtual 149, 3) := by decide +kernel
theorem d_H_told_78 : decode prog_1_method_15_code 78 = .ok (.ireturn, 1) := by decide +kernel
theorem d_H_told_79 : decode prog_1_method_15_code 79 = .ok (.aload_n 3, 1) := by decide +kernel
theorem d_H_told_80 : decode prog_1_method_15_code 80 = .ok (.getfield 153, 3) := by decide +kernel
theorem d_H_told_83 : decode prog_1_method_15_code 83 = .ok (.ireturn, 1) := by decide +kernel
theorem d_H_told_84 : decode prog_1_method_15_code 84 = .ok (.new 35, 3) := by decide +kernel
theorem d_H_told_87 : decode prog_1_method_15_code 87 = .ok (.dup, 1) := by decide +kernel
theorem d_H_told_88 : decode prog_1_method_15_code 88 = .ok (.ldc 156, 2) := by decide +kernel
theorem d_H_told_90 : decode prog_1_method_15_code 90 = .ok (.invokespecial 39, 3) := by decide +kernel
theorem d_H_told_93 : decode prog_1_method_15_code 93 = .ok (.athrow, 1) := by decide +kernel
theorem d_H_count_0 : decode prog_1_method_16_code 0 = .ok (.iload_n 1, 1) := by decide +kernel
theorem d_H_count_1 : decode prog_1_method_16_code 1 = .ok (.tableswitch 75 0 5 #[39, 44, 52, 57, 62, 67], 39) := by decide +kernel
theorem d_H_count_40 : decode prog_1_method_16_code 40 = .ok (.aload_n 0, 1) := by decide +kernel
theorem d_H_count_41 : decode prog_1_method_16_code 41 = .ok (.getfield 42, 3) := by decide +kernel
theorem d_H_count_44 : decode prog_1_method_16_code 44 = .ok (.ireturn, 1) := by decide +kernel
theorem d_H_count_45 : decode prog_1_method_16_code 45 = .ok (.aload_n 0, 1) := by decide +kernel
theorem d_H_count_46 : decode prog_1_method_16_code 46 = .ok (.getfield 25, 3) := by decide +kernel
theorem d_H_count_49 : decode prog_1_method_16_code 49 = .ok (.getfield 158, 3) := by decide +kernel
theorem d_H_count_52 : decode prog_1_method_16_code 52 = .ok (.ireturn, 1) := by decide +kernel
theorem d_H_count_53 : decode prog_1_method_16_code 53 = .ok (.aload_n 0, 1) := by decide +kernel
theorem d_H_count_54 : decode prog_1_method_16_code 54 = .ok (.getfield 105, 3) := by decide +kernel
theorem d_H_count_57 : decode prog_1_method_16_code 57 = .ok (.ireturn, 1) := by decide +kernel
theorem d_H_count_58 : decode prog_1_method_16_code 58 = .ok (.aload_n 0, 1) := by decide +kernel
theorem d_H_count_59 : decode prog_1_method_16_code 59 = .ok (.getfield 161, 3) := by decide +kernel
theorem d_H_count_62 : decode prog_1_method_16_code 62 = .ok (.ireturn, 1) := by decide +kernel
theorem d_H_count_63 : decode prog_1_method_16_code 63 = .ok (.aload_n 0, 1) := by decide +kernel
theorem d_H_count_64 : decode prog_1_method_16_code 64 = .ok (.invokevirtual 164, 3) := by decide +kernel
theorem d_H_count_67 : decode prog_1_method_16_code 67 = .ok (.ireturn, 1) := by decide +kernel
theorem d_H_count_68 : decode prog_1_method_16_code 68 = .ok (.aload_n 0, 1) := by decide +kernel
theorem d_H_count_69 : decode prog_1_method_16_code 69 = .ok (.getfield 25, 3) := by decide +kernel
theorem d_H_count_72 : decode prog_1_method_16_code 72 = .ok (.invokevirtual 167, 3) := by decide +kernel
theorem d_H_count_75 : decode prog_1_method_16_code 75 = .ok (.ireturn, 1) := by decide +kernel
theorem d_H_count_76 : decode prog_1_method_16_code 76 = .ok (.iconst (-1), 1) := by decide +kernel
theorem d_H_count_77 : decode prog_1_method_16_code 77 = .ok (.ireturn, 1) := by decide +kernel
theorem d_H_existingPart_0 : decode prog_1_method_17_code 0 = .ok (.aload_n 0, 1) := by decide +kernel
theorem d_H_existingPart_1 : decode prog_1_method_17_code 1 = .ok (.iload_n 1, 1) := by decide +kernel
theorem d_H_existingPart_2 : decode prog_1_method_17_code 2 = .ok (.invokevirtual 170, 3) := by decide +kernel
theorem d_H_existingPart_5 : decode prog_1_method_17_code 5 = .ok (.ifCond .ne 13, 3) := by decide +kernel
theorem d_H_existingPart_8 : decode prog_1_method_17_code 8 = .ok (.new 173, 3) := by decide +kernel
theorem d_H_existingPart_11 : decode prog_1_method_17_code 11 = .ok (.dup, 1) := by decide +kernel
theorem d_H_existingPart_12 : decode prog_1_method_17_code 12 = .ok (.ldc 175, 2) := by decide +kernel
theorem d_H_existingPart_14 : decode prog_1_method_17_code 14 = .ok (.invokespecial 177, 3) := by decide +kernel
theorem d_H_existingPart_17 : decode prog_1_method_17_code 17 = .ok (.athrow, 1) := by decide +kernel
theorem d_H_existingPart_18 : decode prog_1_method_17_code 18 = .ok (.aload_n 0, 1) := by decide +kernel
theorem d_H_existingPart_19 : decode prog_1_method_17_code 19 = .ok (.getfield 18, 3) := by decide +kernel
theorem d_H_existingPart_22 : decode prog_1_method_17_code 22 = .ok (.iload_n 1, 1) := by decide +kernel
theorem d_H_existingPart_23 : decode prog_1_method_17_code 23 = .ok (.aaload, 1) := by decide +kernel
theorem d_H_existingPart_24 : decode prog_1_method_17_code 24 = .ok (.areturn, 1) := by decide +kernel
theorem d_H_checkMessage_0 : decode prog_1_method_18_code 0 = .ok (.iload_n 1, 1) := by decide +kernel
theorem d_H_checkMessage_1 : decode prog_1_method_18_code 1 = .ok (.iconst 1, 1) := by decide +kernel
theorem d_H_checkMessage_2 : decode prog_1_method_18_code 2 = .ok (.if_icmp .lt 14, 3) := by decide +kernel
theorem d_H_checkMessage_5 : decode prog_1_method_18_code 5 = .ok (.iload_n 1, 1) := by decide +kernel
theorem d_H_checkMessage_6 : decode prog_1_method_18_code 6 = .ok (.aload_n 0, 1) := by decide +kernel
theorem d_H_checkMessage_7 : decode prog_1_method_18_code 7 = .ok (.getfield 25, 3) := by decide +kernel
theorem d_H_checkMessage_10 : decode prog_1_method_18_code 10 = .ok (.getfield 158, 3) := by decide +kernel
theorem d_H_checkMessage_13 : decode prog_1_method_18_code 13 = .ok (.if_icmp .le 13, 3) := by decide +kernel
theorem d_H_checkMessage_16 : decode prog_1_method_18_code 16 = .ok (.new 173, 3) := by decide +kernel
theorem d_H_checkMessage_19 : decode prog_1_method_18_code 19 = .ok (.dup, 1) := by decide +kernel
theorem d_H_checkMessage_20 : decode prog_1_method_18_code 20 = .ok (.ldc 178, 2) := by decide +kernel
theorem d_H_checkMessage_22 : decode prog_1_method_18_code 22 = .ok (.invokespecial 177, 3) := by decide +kernel
theorem d_H_checkMessage_25 : decode prog_1_method_18_code 25 = .ok (.athrow, 1) := by decide +kernel
theorem d_H_checkMessage_26 : decode prog_1_method_18_code 26 = .ok (.return_, 1) := by decide +kernel
theorem d_H_isPart_0 : decode prog_1_method_19_code 0 = .ok (.iload_n 1, 1) := by decide +kernel
theorem d_H_isPart_1 : decode prog_1_method_19_code 1 = .ok (.ifCond .lt 15, 3) := by decide +kernel
theorem d_H_isPart_4 : decode prog_1_method_19_code 4 = .ok (.iload_n 1, 1) := by decide +kernel
theorem d_H_isPart_5 : decode prog_1_method_19_code 5 = .ok (.aload_n 0, 1) := by decide +kernel
theorem d_H_isPart_6 : decode prog_1_method_19_code 6 = .ok (.getfield 42, 3) := by decide +kernel
theorem d_H_isPart_9 : decode prog_1_method_19_code 9 = .ok (.if_icmp .ge 7, 3) := by decide +kernel
theorem d_H_isPart_12 : decode prog_1_method_19_code 12 = .ok (.iconst 1, 1) := by decide +kernel
theorem d_H_isPart_13 : decode prog_1_method_19_code 13 = .ok (.goto 4, 3) := by decide +kernel
theorem d_H_isPart_16 : decode prog_1_method_19_code 16 = .ok (.iconst 0, 1) := by decide +kernel
theorem d_H_isPart_17 : decode prog_1_method_19_code 17 = .ok (.ireturn, 1) := by decide +kernel
theorem d_H_isPlace_0 : decode prog_1_method_20_code 0 = .ok (.iload_n 0, 1) := by decide +kernel
theorem d_H_isPlace_1 : decode prog_1_method_20_code 1 = .ok (.ifCond .lt 13, 3) := by decide +kernel
theorem d_H_isPlace_4 : decode prog_1_method_20_code 4 = .ok (.iload_n 0, 1) := by decide +kernel
theorem d_H_isPlace_5 : decode prog_1_method_20_code 5 = .ok (.bipush 8, 2) := by decide +kernel
theorem d_H_isPlace_7 : decode prog_1_method_20_code 7 = .ok (.if_icmp .ge 7, 3) := by decide +kernel
theorem d_H_isPlace_10 : decode prog_1_method_20_code 10 = .ok (.iconst 1, 1) := by decide +kernel
theorem d_H_isPlace_11 : decode prog_1_method_20_code 11 = .ok (.goto 4, 3) := by decide +kernel
theorem d_H_isPlace_14 : decode prog_1_method_20_code 14 = .ok (.iconst 0, 1) := by decide +kernel
theorem d_H_isPlace_15 : decode prog_1_method_20_code 15 = .ok (.ireturn, 1) := by decide +kernel
theorem d_H_isStep_0 : decode prog_1_method_21_code 0 = .ok (.iload_n 1, 1) := by decide +kernel
theorem d_H_isStep_1 : decode prog_1_method_21_code 1 = .ok (.tableswitch 85 0 2 #[27, 47, 68], 27) := by decide +kernel
theorem d_H_isStep_28 : decode prog_1_method_21_code 28 = .ok (.iload_n 2, 1) := by decide +kernel
theorem d_H_isStep_29 : decode prog_1_method_21_code 29 = .ok (.invokestatic 131, 3) := by decide +kernel
theorem d_H_isStep_32 : decode prog_1_method_21_code 32 = .ok (.ifCond .eq 14, 3) := by decide +kernel
theorem d_H_isStep_35 : decode prog_1_method_21_code 35 = .ok (.iload_n 3, 1) := by decide +kernel
theorem d_H_isStep_36 : decode prog_1_method_21_code 36 = .ok (.invokestatic 180, 3) := by decide +kernel
theorem d_H_isStep_39 : decode prog_1_method_21_code 39 = .ok (.ifCond .eq 7, 3) := by decide +kernel
theorem d_H_isStep_42 : decode prog_1_method_21_code 42 = .ok (.iconst 1, 1) := by decide +kernel
theorem d_H_isStep_43 : decode prog_1_method_21_code 43 = .ok (.goto 4, 3) := by decide +kernel
theorem d_H_isStep_46 : decode prog_1_method_21_code 46 = .ok (.iconst 0, 1) := by decide +kernel
theorem d_H_isStep_47 : decode prog_1_method_21_code 47 = .ok (.ireturn, 1) := by decide +kernel
theorem d_H_isStep_48 : decode prog_1_method_21_code 48 = .ok (.aload_n 0, 1) := by decide +kernel
theorem d_H_isStep_49 : decode prog_1_method_21_code 49 = .ok (.iload_n 2, 1) := by decide +kernel
theorem d_H_isStep_50 : decode prog_1_method_21_code 50 = .ok (.invokevirtual 170, 3) := by decide +kernel
theorem d_H_isStep_53 : decode prog_1_method_21_code 53 = .ok (.ifCond .eq 14, 3) := by decide +kernel
theorem d_H_isStep_56 : decode prog_1_method_21_code 56 = .ok (.iload_n 3, 1) := by decide +kernel
theorem d_H_isStep_57 : decode prog_1_method_21_code 57 = .ok (.invokestatic 180, 3) := by decide +kernel
theorem d_H_isStep_60 : decode prog_1_method_21_code 60 = .ok (.ifCond .eq 7, 3) := by decide +kernel
theorem d_H_isStep_63 : decode prog_1_method_21_code 63 = .ok (.iconst 1, 1) := by decide +kernel
theorem d_H_isStep_64 : decode prog_1_method_21_code 64 = .ok (.goto 4, 3) := by decide +kernel
theorem d_H_isStep_67 : decode prog_1_method_21_code 67 = .ok (.iconst 0, 1) := by decide +kernel
theorem d_H_isStep_68 : decode prog_1_method_21_code 68 = .ok (.ireturn, 1) := by decide +kernel
theorem d_H_isStep_69 : decode prog_1_method_21_code 69 = .ok (.iload_n 2, 1) := by decide +kernel
theorem d_H_isStep_70 : decode prog_1_method_21_code 70 = .ok (.invokestatic 131, 3) := by decide +kernel
theorem d_H_isStep_73 : decode prog_1_method_21_code 73 = .ok (.ifCond .eq 11, 3) := by decide +kernel
theorem d_H_isStep_76 : decode prog_1_method_21_code 76 = .ok (.iload_n 3, 1) := by decide +kernel
theorem d_H_isStep_77 : decode prog_1_method_21_code 77 = .ok (.ifCond .ne 7, 3) := by decide +kernel
theorem d_H_isStep_80 : decode prog_1_method_21_code 80 = .ok (.iconst 1, 1) := by decide +kernel
theorem d_H_isStep_81 : decode prog_1_method_21_code 81 = .ok (.goto 4, 3) := by decide +kernel
theorem d_H_isStep_84 : decode prog_1_method_21_code 84 = .ok (.iconst 0, 1) := by decide +kernel
theorem d_H_isStep_85 : decode prog_1_method_21_code 85 = .ok (.ireturn, 1) := by decide +kernel
theorem d_H_isStep_86 : decode prog_1_method_21_code 86 = .ok (.iconst 0, 1) := by decide +kernel
theorem d_H_isStep_87 : decode prog_1_method_21_code 87 = .ok (.ireturn, 1) := by decide +kernel
theorem d_H_isAmount_0 : decode prog_1_method_22_code 0 = .ok (.iload_n 0, 1) := by decide +kernel
theorem d_H_isAmount_1 : decode prog_1_method_22_code 1 = .ok (.bipush (-99), 2) := by decide +kernel
theorem d_H_isAmount_3 : decode prog_1_method_22_code 3 = .ok (.if_icmp .lt 13, 3) := by decide +kernel
theorem d_H_isAmount_6 : decode prog_1_method_22_code 6 = .ok (.iload_n 0, 1) := by decide +kernel
theorem d_H_isAmount_7 : decode prog_1_method_22_code 7 = .ok (.bipush 99, 2) := by decide +kernel
theorem d_H_isAmount_9 : decode prog_1_method_22_code 9 = .ok (.if_icmp .gt 7, 3) := by decide +kernel
theorem d_H_isAmount_12 : decode prog_1_method_22_code 12 = .ok (.iconst 1, 1) := by decide +kernel
theorem d_H_isAmount_13 : decode prog_1_method_22_code 13 = .ok (.goto 4, 3) := by decide +kernel
theorem d_H_isAmount_16 : decode prog_1_method_22_code 16 = .ok (.iconst 0, 1) := by decide +kernel
theorem d_H_isAmount_17 : decode prog_1_method_22_code 17 = .ok (.ireturn, 1) := by decide +kernel
theorem d_H_takeTurn_0 : decode prog_1_method_23_code 0 = .ok (.aload_n 1, 1) := by decide +kernel
theorem d_H_takeTurn_1 : decode prog_1_method_23_code 1 = .ok (.getfield 64, 3) := by decide +kernel
theorem d_H_takeTurn_4 : decode prog_1_method_23_code 4 = .ok (.aload_n 1, 1) := by decide +kernel
theorem d_H_takeTurn_5 : decode prog_1_method_23_code 5 = .ok (.getfield 80, 3) := by decide +kernel
theorem d_H_takeTurn_8 : decode prog_1_method_23_code 8 = .ok (.if_icmp .lt 9, 3) := by decide +kernel
theorem d_H_takeTurn_11 : decode prog_1_method_23_code 11 = .ok (.aload_n 0, 1) := by decide +kernel
theorem d_H_takeTurn_12 : decode prog_1_method_23_code 12 = .ok (.aload_n 1, 1) := by decide +kernel
theorem d_H_takeTurn_13 : decode prog_1_method_23_code 13 = .ok (.invokevirtual 183, 3) := by decide +kernel
theorem d_H_takeTurn_16 : decode prog_1_method_23_code 16 = .ok (.return_, 1) := by decide +kernel
theorem d_H_takeTurn_17 : decode prog_1_method_23_code 17 = .ok (.aload_n 1, 1) := by decide +kernel
theorem d_H_takeTurn_18 : decode prog_1_method_23_code 18 = .ok (.getfield 85, 3) := by decide +kernel
theorem d_H_takeTurn_21 : decode prog_1_method_23_code 21 = .ok (.aload_n 1, 1) := by decide +kernel
theorem d_H_takeTurn_22 : decode prog_1_method_23_code 22 = .ok (.getfield 64, 3) := by decide +kernel
theorem d_H_takeTurn_25 : decode prog_1_method_23_code 25 = .ok (.baload, 1) := by decide +kernel
theorem d_H_takeTurn_26 : decode prog_1_method_23_code 26 = .ok (.ifCond .eq 21, 3) := by decide +kernel
theorem d_H_takeTurn_29 : decode prog_1_method_23_code 29 = .ok (.aload_n 1, 1) := by decide +kernel
theorem d_H_takeTurn_30 : decode prog_1_method_23_code 30 = .ok (.getfield 85, 3) := by decide +kernel
theorem d_H_takeTurn_33 : decode prog_1_method_23_code 33 = .ok (.aload_n 1, 1) := by decide +kernel
theorem d_H_takeTurn_34 : decode prog_1_method_23_code 34 = .ok (.getfield 64, 3) := by decide +kernel
theorem d_H_takeTurn_37 : decode prog_1_method_23_code 37 = .ok (.iconst 0, 1) := by decide +kernel
theorem d_H_takeTurn_38 : decode prog_1_method_23_code 38 = .ok (.bastore, 1) := by decide +kernel
theorem d_H_takeTurn_39 : decode prog_1_method_23_code 39 = .ok (.aload_n 0, 1) := by decide +kernel
theorem d_H_takeTurn_40 : decode prog_1_method_23_code 40 = .ok (.aload_n 1, 1) := by decide +kernel
theorem d_H_takeTurn_41 : decode prog_1_method_23_code 41 = .ok (.iconst 4, 1) := by decide +kernel
theorem d_H_takeTurn_42 : decode prog_1_method_23_code 42 = .ok (.invokevirtual 120, 3) := by decide +kernel
theorem d_H_takeTurn_45 : decode prog_1_method_23_code 45 = .ok (.pop, 1) := by decide +kernel
theorem d_H_takeTurn_46 : decode prog_1_method_23_code 46 = .ok (.return_, 1) := by decide +kernel
theorem d_H_takeTurn_47 : decode prog_1_method_23_code 47 = .ok (.aload_n 1, 1) := by decide +kernel
theorem d_H_takeTurn_48 : decode prog_1_method_23_code 48 = .ok (.getfield 186, 3) := by decide +kernel
theorem d_H_takeTurn_51 : decode prog_1_method_23_code 51 = .ok (.aload_n 1, 1) := by decide +kernel
theorem d_H_takeTurn_52 : decode prog_1_method_23_code 52 = .ok (.getfield 64, 3) := by decide +kernel
theorem d_H_takeTurn_55 : decode prog_1_method_23_code 55 = .ok (.iaload, 1) := by decide +kernel
theorem d_H_takeTurn_56 : decode prog_1_method_23_code 56 = .ok (.lookupswitch 44 #[(0, 28), (1, 36)], 28) := by decide +kernel
theorem d_H_takeTurn_84 : decode prog_1_method_23_code 84 = .ok (.aload_n 0, 1) := by decide +kernel
theorem d_H_takeTurn_85 : decode prog_1_method_23_code 85 = .ok (.aload_n 1, 1) := by decide +kernel
theorem d_H_takeTurn_86 : decode prog_1_method_23_code 86 = .ok (.invokevirtual 189, 3) := by decide +kernel
theorem d_H_takeTurn_89 : decode prog_1_method_23_code 89 = .ok (.goto 16, 3) := by decide +kernel
theorem d_H_takeTurn_92 : decode prog_1_method_23_code 92 = .ok (.aload_n 0, 1) := by decide +kernel
theorem d_H_takeTurn_93 : decode prog_1_method_23_code 93 = .ok (.aload_n 1, 1) := by decide +kernel
theorem d_H_takeTurn_94 : decode prog_1_method_23_code 94 = .ok (.invokevirtual 192, 3) := by decide +kernel
theorem d_H_takeTurn_97 : decode prog_1_method_23_code 97 = .ok (.goto 8, 3) := by decide +kernel
theorem d_H_takeTurn_100 : decode prog_1_method_23_code 100 = .ok (.aload_n 0, 1) := by decide +kernel
theorem d_H_takeTurn_101 : decode prog_1_method_23_code 101 = .ok (.aload_n 1, 1) := by decide +kernel
theorem d_H_takeTurn_102 : decode prog_1_method_23_code 102 = .ok (.invokevirtual 195, 3) := by decide +kernel
theorem d_H_takeTurn_105 : decode prog_1_method_23_code 105 = .ok (.return_, 1) := by decide +kernel
theorem d_H_tryChange_0 : decode prog_1_method_24_code 0 = .ok (.aload_n 1, 1) := by decide +kernel
theorem d_H_tryChange_1 : decode prog_1_method_24_code 1 = .ok (.getfield 198, 3) := by decide +kernel
theorem d_H_tryChange_4 : decode prog_1_method_24_code 4 = .ok (.aload_n 1, 1) := by decide +kernel
theorem d_H_tryChange_5 : decode prog_1_method_24_code 5 = .ok (.getfield 64, 3) := by decide +kernel
theorem d_H_tryChange_8 : decode prog_1_method_24_code 8 = .ok (.iaload, 1) := by decide +kernel
theorem d_H_tryChange_9 : decode prog_1_method_24_code 9 = .ok (.istore_n 2, 1) := by decide +kernel
theorem d_H_tryChange_10 : decode prog_1_method_24_code 10 = .ok (.aload_n 0, 1) := by decide +kernel
theorem d_H_tryChange_11 : decode prog_1_method_24_code 11 = .ok (.aload_n 1, 1) := by decide +kernel
theorem d_H_tryChange_12 : decode prog_1_method_24_code 12 = .ok (.iload_n 2, 1) := by decide +kernel
theorem d_H_tryChange_13 : decode prog_1_method_24_code 13 = .ok (.invokevirtual 201, 3) := by decide +kernel
theorem d_H_tryChange_16 : decode prog_1_method_24_code 16 = .ok (.ifCond .eq 26, 3) := by decide +kernel
theorem d_H_tryChange_19 : decode prog_1_method_24_code 19 = .ok (.aload_n 0, 1) := by decide +kernel
theorem d_H_tryChange_20 : decode prog_1_method_24_code 20 = .ok (.getfield 9, 3) := by decide +kernel
theorem d_H_tryChange_23 : decode prog_1_method_24_code 23 = .ok (.iload_n 2, 1) := by decide +kernel
theorem d_H_tryChange_24 : decode prog_1_method_24_code 24 = .ok (.dup2, 1) := by decide +kernel
theorem d_H_tryChange_25 : decode prog_1_method_24_code 25 = .ok (.iaload, 1) := by decide +kernel
theorem d_H_tryChange_26 : decode prog_1_method_24_code 26 = .ok (.aload_n 1, 1) := by decide +kernel
theorem d_H_tryChange_27 : decode prog_1_method_24_code 27 = .ok (.getfield 205, 3) := by decide +kernel
theorem d_H_tryChange_30 : decode prog_1_method_24_code 30 = .ok (.aload_n 1, 1) := by decide +kernel
theorem d_H_tryChange_31 : decode prog_1_method_24_code 31 = .ok (.getfield 64, 3) := by decide +kernel
theorem d_H_tryChange_34 : decode prog_1_method_24_code 34 = .ok (.iaload, 1) := by decide +kernel
theorem d_H_tryChange_35 : decode prog_1_method_24_code 35 = .ok (.iadd, 1) := by decide +kernel
theorem d_H_tryChange_36 : decode prog_1_method_24_code 36 = .ok (.iastore, 1) := by decide +kernel
theorem d_H_tryChange_37 : decode prog_1_method_24_code 37 = .ok (.aload_n 0, 1) := by decide +kernel
theorem d_H_tryChange_38 : decode prog_1_method_24_code 38 = .ok (.aload_n 1, 1) := by decide +kernel
theorem d_H_tryChange_39 : decode prog_1_method_24_code 39 = .ok (.invokevirtual 208, 3) := by decide +kernel
theorem d_H_tryChange_42 : decode prog_1_method_24_code 42 = .ok (.return_, 1) := by decide +kernel
theorem d_H_trySend_0 : decode prog_1_method_25_code 0 = .ok (.aload_n 0, 1) := by decide +kernel
theorem d_H_trySend_1 : decode prog_1_method_25_code 1 = .ok (.getfield 25, 3) := by decide +kernel
theorem d_H_trySend_4 : decode prog_1_method_25_code 4 = .ok (.aload_n 1, 1) := by decide +kernel
theorem d_H_trySend_5 : decode prog_1_method_25_code 5 = .ok (.getfield 211, 3) := by decide +kernel
theorem d_H_trySend_8 : decode prog_1_method_25_code 8 = .ok (.aload_n 1, 1) := by decide +kernel
theorem d_H_trySend_9 : decode prog_1_method_25_code 9 = .ok (.getfield 198, 3) := by decide +kernel
theorem d_H_trySend_12 : decode prog_1_method_25_code 12 = .ok (.aload_n 1, 1) := by decide +kernel
theorem d_H_trySend_13 : decode prog_1_method_25_code 13 = .ok (.getfield 64, 3) := by decide +kernel
theorem d_H_trySend_16 : decode prog_1_method_25_code 16 = .ok (.iaload, 1) := by decide +kernel
theorem d_H_trySend_17 : decode prog_1_method_25_code 17 = .ok (.aload_n 1, 1) := by decide +kernel
theorem d_H_trySend_18 : decode prog_1_method_25_code 18 = .ok (.getfield 205, 3) := by decide +kernel
theorem d_H_trySend_21 : decode prog_1_method_25_code 21 = .ok (.aload_n 1, 1) := by decide +kernel
theorem d_H_trySend_22 : decode prog_1_method_25_code 22 = .ok (.getfield 64, 3) := by decide +kernel
theorem d_H_trySend_25 : decode prog_1_method_25_code 25 = .ok (.iaload, 1) := by decide +kernel
theorem d_H_trySend_26 : decode prog_1_method_25_code 26 = .ok (.aload_n 0, 1) := by decide +kernel
theorem d_H_trySend_27 : decode prog_1_method_25_code 27 = .ok (.getfield 89, 3) := by decide +kernel
theorem d_H_trySend_30 : decode prog_1_method_25_code 30 = .ok (.invokevirtual 214, 3) := by decide +kernel
theorem d_H_trySend_33 : decode prog_1_method_25_code 33 = .ok (.istore_n 2, 1) := by decide +kernel
theorem d_H_trySend_34 : decode prog_1_method_25_code 34 = .ok (.iload_n 2, 1) := by decide +kernel
theorem d_H_trySend_35 : decode prog_1_method_25_code 35 = .ok (.iconst (-1), 1) := by decide +kernel
theorem d_H_trySend_36 : decode prog_1_method_25_code 36 = .ok (.if_icmp .ne 11, 3) := by decide +kernel
theorem d_H_trySend_39 : decode prog_1_method_25_code 39 = .ok (.aload_n 0, 1) := by decide +kernel
theorem d_H_trySend_40 : decode prog_1_method_25_code 40 = .ok (.aload_n 1, 1) := by decide +kernel
theorem d_H_trySend_41 : decode prog_1_method_25_code 41 = .ok (.iconst 4, 1) := by decide +kernel
theorem d_H_trySend_42 : decode prog_1_method_25_code 42 = .ok (.invokevirtual 120, 3) := by decide +kernel
theorem d_H_trySend_45 : decode prog_1_method_25_code 45 = .ok (.pop, 1) := by decide +kernel
theorem d_H_trySend_46 : decode prog_1_method_25_code 46 = .ok (.return_, 1) := by decide +kernel
theorem d_H_trySend_47 : decode prog_1_method_25_code 47 = .ok (.aload_n 1, 1) := by decide +kernel
theorem d_H_trySend_48 : decode prog_1_method_25_code 48 = .ok (.getfield 218, 3) := by decide +kernel
theorem d_H_trySend_51 : decode prog_1_method_25_code 51 = .ok (.aload_n 1, 1) := by decide +kernel
theorem d_H_trySend_52 : decode prog_1_method_25_code 52 = .ok (.getfield 64, 3) := by decide +kernel
theorem d_H_trySend_55 : decode prog_1_method_25_code 55 = .ok (.iload_n 2, 1) := by decide +kernel
theorem d_H_trySend_56 : decode prog_1_method_25_code 56 = .ok (.iastore, 1) := by decide +kernel
theorem d_H_trySend_57 : decode prog_1_method_25_code 57 = .ok (.aload_n 0, 1) := by decide +kernel
theorem d_H_trySend_58 : decode prog_1_method_25_code 58 = .ok (.aload_n 1, 1) := by decide +kernel
theorem d_H_trySend_59 : decode prog_1_method_25_code 59 = .ok (.invokevirtual 208, 3) := by decide +kernel
theorem d_H_trySend_62 : decode prog_1_method_25_code 62 = .ok (.return_, 1) := by decide +kernel
theorem d_H_tryHear_0 : decode prog_1_method_26_code 0 = .ok (.aload_n 1, 1) := by decide +kernel
theorem d_H_tryHear_1 : decode prog_1_method_26_code 1 = .ok (.getfield 198, 3) := by decide +kernel
theorem d_H_tryHear_4 : decode prog_1_method_26_code 4 = .ok (.aload_n 1, 1) := by decide +kernel
theorem d_H_tryHear_5 : decode prog_1_method_26_code 5 = .ok (.getfield 64, 3) := by decide +kernel
theorem d_H_tryHear_8 : decode prog_1_method_26_code 8 = .ok (.iaload, 1) := by decide +kernel
theorem d_H_tryHear_9 : decode prog_1_method_26_code 9 = .ok (.istore_n 2, 1) := by decide +kernel
theorem d_H_tryHear_10 : decode prog_1_method_26_code 10 = .ok (.aload_n 0, 1) := by decide +kernel
theorem d_H_tryHear_11 : decode prog_1_method_26_code 11 = .ok (.aload_n 1, 1) := by decide +kernel
theorem d_H_tryHear_12 : decode prog_1_method_26_code 12 = .ok (.iload_n 2, 1) := by decide +kernel
theorem d_H_tryHear_13 : decode prog_1_method_26_code 13 = .ok (.invokevirtual 201, 3) := by decide +kernel
theorem d_H_tryHear_16 : decode prog_1_method_26_code 16 = .ok (.ifCond .ne 4, 3) := by decide +kernel
theorem d_H_tryHear_19 : decode prog_1_method_26_code 19 = .ok (.return_, 1) := by decide +kernel
theorem d_H_tryHear_20 : decode prog_1_method_26_code 20 = .ok (.aload_n 0, 1) := by decide +kernel
theorem d_H_tryHear_21 : decode prog_1_method_26_code 21 = .ok (.getfield 25, 3) := by decide +kernel
theorem d_H_tryHear_24 : decode prog_1_method_26_code 24 = .ok (.aload_n 1, 1) := by decide +kernel
theorem d_H_tryHear_25 : decode prog_1_method_26_code 25 = .ok (.getfield 211, 3) := by decide +kernel
theorem d_H_tryHear_28 : decode prog_1_method_26_code 28 = .ok (.invokevirtual 221, 3) := by decide +kernel
theorem d_H_tryHear_31 : decode prog_1_method_26_code 31 = .ok (.istore_n 3, 1) := by decide +kernel
theorem d_H_tryHear_32 : decode prog_1_method_26_code 32 = .ok (.iload_n 3, 1) := by decide +kernel
theorem d_H_tryHear_33 : decode prog_1_method_26_code 33 = .ok (.iconst (-1), 1) := by decide +kernel
theorem d_H_tryHear_34 : decode prog_1_method_26_code 34 = .ok (.if_icmp .ne 9, 3) := by decide +kernel
theorem d_H_tryHear_37 : decode prog_1_method_26_code 37 = .ok (.aload_n 1, 1) := by decide +kernel
theorem d_H_tryHear_38 : decode prog_1_method_26_code 38 = .ok (.iconst 2, 1) := by decide +kernel
theorem d_H_tryHear_39 : decode prog_1_method_26_code 39 = .ok (.putfield 67, 3) := by decide +kernel
theorem d_H_tryHear_42 : decode prog_1_method_26_code 42 = .ok (.return_, 1) := by decide +kernel
theorem d_H_tryHear_43 : decode prog_1_method_26_code 43 = .ok (.aload_n 0, 1) := by decide +kernel
theorem d_H_tryHear_44 : decode prog_1_method_26_code 44 = .ok (.getfield 25, 3) := by decide +kernel
theorem d_H_tryHear_47 : decode prog_1_method_26_code 47 = .ok (.getfield 111, 3) := by decide +kernel
theorem d_H_tryHear_50 : decode prog_1_method_26_code 50 = .ok (.iload_n 3, 1) := by decide +kernel
theorem d_H_tryHear_51 : decode prog_1_method_26_code 51 = .ok (.iconst 1, 1) := by decide +kernel
theorem d_H_tryHear_52 : decode prog_1_method_26_code 52 = .ok (.iastore, 1) := by decide +kernel
theorem d_H_tryHear_53 : decode prog_1_method_26_code 53 = .ok (.aload_n 1, 1) := by decide +kernel
theorem d_H_tryHear_54 : decode prog_1_method_26_code 54 = .ok (.getfield 218, 3) := by decide +kernel
theorem d_H_tryHear_57 : decode prog_1_method_26_code 57 = .ok (.aload_n 1, 1) := by decide +kernel
theorem d_H_tryHear_58 : decode prog_1_method_26_code 58 = .ok (.getfield 64, 3) := by decide +kernel
theorem d_H_tryHear_61 : decode prog_1_method_26_code 61 = .ok (.iload_n 3, 1) := by decide +kernel
theorem d_H_tryHear_62 : decode prog_1_method_26_code 62 = .ok (.iastore, 1) := by decide +kernel
theorem d_H_tryHear_63 : decode prog_1_method_26_code 63 = .ok (.aload_n 0, 1) := by decide +kernel
theorem d_H_tryHear_64 : decode prog_1_method_26_code 64 = .ok (.getfield 9, 3) := by decide +kernel
theorem d_H_tryHear_67 : decode prog_1_method_26_code 67 = .ok (.iload_n 2, 1) := by decide +kernel
theorem d_H_tryHear_68 : decode prog_1_method_26_code 68 = .ok (.dup2, 1) := by decide +kernel
theorem d_H_tryHear_69 : decode prog_1_method_26_code 69 = .ok (.iaload, 1) := by decide +kernel
theorem d_H_tryHear_70 : decode prog_1_method_26_code 70 = .ok (.aload_n 0, 1) := by decide +kernel
theorem d_H_tryHear_71 : decode prog_1_method_26_code 71 = .ok (.getfield 25, 3) := by decide +kernel
theorem d_H_tryHear_74 : decode prog_1_method_26_code 74 = .ok (.getfield 140, 3) := by decide +kernel
theorem d_H_tryHear_77 : decode prog_1_method_26_code 77 = .ok (.iload_n 3, 1) := by decide +kernel
theorem d_H_tryHear_78 : decode prog_1_method_26_code 78 = .ok (.iaload, 1) := by decide +kernel
theorem d_H_tryHear_79 : decode prog_1_method_26_code 79 = .ok (.iadd, 1) := by decide +kernel
theorem d_H_tryHear_80 : decode prog_1_method_26_code 80 = .ok (.iastore, 1) := by decide +kernel
theorem d_H_tryHear_81 : decode prog_1_method_26_code 81 = .ok (.aload_n 0, 1) := by decide +kernel
theorem d_H_tryHear_82 : decode prog_1_method_26_code 82 = .ok (.aload_n 1, 1) := by decide +kernel
theorem d_H_tryHear_83 : decode prog_1_method_26_code 83 = .ok (.invokevirtual 208, 3) := by decide +kernel
theorem d_H_tryHear_86 : decode prog_1_method_26_code 86 = .ok (.return_, 1) := by decide +kernel
theorem d_H_getsPlace_0 : decode prog_1_method_27_code 0 = .ok (.aload_n 0, 1) := by decide +kernel
theorem d_H_getsPlace_1 : decode prog_1_method_27_code 1 = .ok (.getfield 13, 3) := by decide +kernel
theorem d_H_getsPlace_4 : decode prog_1_method_27_code 4 = .ok (.iload_n 2, 1) := by decide +kernel
theorem d_H_getsPlace_5 : decode prog_1_method_27_code 5 = .ok (.iaload, 1) := by decide +kernel
theorem d_H_getsPlace_6 : decode prog_1_method_27_code 6 = .ok (.istore_n 3, 1) := by decide +kernel
theorem d_H_getsPlace_7 : decode prog_1_method_27_code 7 = .ok (.iload_n 3, 1) := by decide +kernel
theorem d_H_getsPlace_8 : decode prog_1_method_27_code 8 = .ok (.iconst (-1), 1) := by decide +kernel
theorem d_H_getsPlace_9 : decode prog_1_method_27_code 9 = .ok (.if_icmp .eq 23, 3) := by decide +kernel
theorem d_H_getsPlace_12 : decode prog_1_method_27_code 12 = .ok (.iload_n 3, 1) := by decide +kernel
theorem d_H_getsPlace_13 : decode prog_1_method_27_code 13 = .ok (.aload_n 1, 1) := by decide +kernel
theorem d_H_getsPlace_14 : decode prog_1_method_27_code 14 = .ok (.getfield 211, 3) := by decide +kernel
theorem d_H_getsPlace_17 : decode prog_1_method_27_code 17 = .ok (.if_icmp .eq 15, 3) := by decide +kernel
theorem d_H_getsPlace_20 : decode prog_1_method_27_code 20 = .ok (.aload_n 1, 1) := by decide +kernel
theorem d_H_getsPlace_21 : decode prog_1_method_27_code 21 = .ok (.iconst 1, 1) := by decide +kernel
theorem d_H_getsPlace_22 : decode prog_1_method_27_code 22 = .ok (.putfield 67, 3) := by decide +kernel
theorem d_H_getsPlace_25 : decode prog_1_method_27_code 25 = .ok (.aload_n 0, 1) := by decide +kernel
theorem d_H_getsPlace_26 : decode prog_1_method_27_code 26 = .ok (.aload_n 1, 1) := by decide +kernel
theorem d_H_getsPlace_27 : decode prog_1_method_27_code 27 = .ok (.invokevirtual 225, 3) := by decide +kernel
theorem d_H_getsPlace_30 : decode prog_1_method_27_code 30 = .ok (.iconst 0, 1) := by decide +kernel
theorem d_H_getsPlace_31 : decode prog_1_method_27_code 31 = .ok (.ireturn, 1) := by decide +kernel
theorem d_H_getsPlace_32 : decode prog_1_method_27_code 32 = .ok (.aload_n 0, 1) := by decide +kernel
theorem d_H_getsPlace_33 : decode prog_1_method_27_code 33 = .ok (.getfield 13, 3) := by decide +kernel
theorem d_H_getsPlace_36 : decode prog_1_method_27_code 36 = .ok (.iload_n 2, 1) := by decide +kernel
theorem d_H_getsPlace_37 : decode prog_1_method_27_code 37 = .ok (.aload_n 1, 1) := by decide +kernel
theorem d_H_getsPlace_38 : decode prog_1_method_27_code 38 = .ok (.getfield 211, 3) := by decide +kernel
theorem d_H_getsPlace_41 : decode prog_1_method_27_code 41 = .ok (.iastore, 1) := by decide +kernel
theorem d_H_getsPlace_42 : decode prog_1_method_27_code 42 = .ok (.iconst 1, 1) := by decide +kernel
theorem d_H_getsPlace_43 : decode prog_1_method_27_code 43 = .ok (.ireturn, 1) := by decide +kernel
theorem d_H_stepIsDone_0 : decode prog_1_method_28_code 0 = .ok (.aload_n 0, 1) := by decide +kernel
theorem d_H_stepIsDone_1 : decode prog_1_method_28_code 1 = .ok (.getfield 126, 3) := by decide +kernel
theorem d_H_stepIsDone_4 : decode prog_1_method_28_code 4 = .ok (.sipush 400, 3) := by decide +kernel
theorem d_H_stepIsDone_7 : decode prog_1_method_28_code 7 = .ok (.if_icmp .ge 34, 3) := by decide +kernel
theorem d_H_stepIsDone_10 : decode prog_1_method_28_code 10 = .ok (.aload_n 0, 1) := by decide +kernel
theorem d_H_stepIsDone_11 : decode prog_1_method_28_code 11 = .ok (.getfield 29, 3) := by decide +kernel
theorem d_H_stepIsDone_14 : decode prog_1_method_28_code 14 = .ok (.aload_n 0, 1) := by decide +kernel
theorem d_H_stepIsDone_15 : decode prog_1_method_28_code 15 = .ok (.getfield 126, 3) := by decide +kernel
theorem d_H_stepIsDone_18 : decode prog_1_method_28_code 18 = .ok (.bipush 100, 2) := by decide +kernel
theorem d_H_stepIsDone_20 : decode prog_1_method_28_code 20 = .ok (.aload_n 1, 1) := by decide +kernel
theorem d_H_stepIsDone_21 : decode prog_1_method_28_code 21 = .ok (.getfield 211, 3) := by decide +kernel
theorem d_H_stepIsDone_24 : decode prog_1_method_28_code 24 = .ok (.imul, 1) := by decide +kernel
theorem d_H_stepIsDone_25 : decode prog_1_method_28_code 25 = .ok (.aload_n 1, 1) := by decide +kernel
theorem d_H_stepIsDone_26 : decode prog_1_method_28_code 26 = .ok (.getfield 64, 3) := by decide +kernel
theorem d_H_stepIsDone_29 : decode prog_1_method_28_code 29 = .ok (.iadd, 1) := by decide +kernel
theorem d_H_stepIsDone_30 : decode prog_1_method_28_code 30 = .ok (.iastore, 1) := by decide +kernel
theorem d_H_stepIsDone_31 : decode prog_1_method_28_code 31 = .ok (.aload_n 0, 1) := by decide +kernel
theorem d_H_stepIsDone_32 : decode prog_1_method_28_code 32 = .ok (.dup, 1) := by decide +kernel
theorem d_H_stepIsDone_33 : decode prog_1_method_28_code 33 = .ok (.getfield 126, 3) := by decide +kernel
theorem d_H_stepIsDone_36 : decode prog_1_method_28_code 36 = .ok (.iconst 1, 1) := by decide +kernel
theorem d_H_stepIsDone_37 : decode prog_1_method_28_code 37 = .ok (.iadd, 1) := by decide +kernel
theorem d_H_stepIsDone_38 : decode prog_1_method_28_code 38 = .ok (.putfield 126, 3) := by decide +kernel
theorem d_H_stepIsDone_41 : decode prog_1_method_28_code 41 = .ok (.aload_n 0, 1) := by decide +kernel
theorem d_H_stepIsDone_42 : decode prog_1_method_28_code 42 = .ok (.dup, 1) := by decide +kernel
theorem d_H_stepIsDone_43 : decode prog_1_method_28_code 43 = .ok (.getfield 105, 3) := by decide +kernel
theorem d_H_stepIsDone_46 : decode prog_1_method_28_code 46 = .ok (.iconst 1, 1) := by decide +kernel
theorem d_H_stepIsDone_47 : decode prog_1_method_28_code 47 = .ok (.iadd, 1) := by decide +kernel
theorem d_H_stepIsDone_48 : decode prog_1_method_28_code 48 = .ok (.putfield 105, 3) := by decide +kernel
theorem d_H_stepIsDone_51 : decode prog_1_method_28_code 51 = .ok (.aload_n 1, 1) := by decide +kernel
theorem d_H_stepIsDone_52 : decode prog_1_method_28_code 52 = .ok (.dup, 1) := by decide +kernel
theorem d_H_stepIsDone_53 : decode prog_1_method_28_code 53 = .ok (.getfield 64, 3) := by decide +kernel
theorem d_H_stepIsDone_56 : decode prog_1_method_28_code 56 = .ok (.iconst 1, 1) := by decide +kernel
theorem d_H_stepIsDone_57 : decode prog_1_method_28_code 57 = .ok (.iadd, 1) := by decide +kernel
theorem d_H_stepIsDone_58 : decode prog_1_method_28_code 58 = .ok (.putfield 64, 3) := by decide +kernel
theorem d_H_stepIsDone_61 : decode prog_1_method_28_code 61 = .ok (.aload_n 1, 1) := by decide +kernel
theorem d_H_stepIsDone_62 : decode prog_1_method_28_code 62 = .ok (.getfield 64, 3) := by decide +kernel
theorem d_H_stepIsDone_65 : decode prog_1_method_28_code 65 = .ok (.aload_n 1, 1) := by decide +kernel
theorem d_H_stepIsDone_66 : decode prog_1_method_28_code 66 = .ok (.getfield 80, 3) := by decide +kernel
theorem d_H_stepIsDone_69 : decode prog_1_method_28_code 69 = .ok (.if_icmp .ge 11, 3) := by decide +kernel
theorem d_H_stepIsDone_72 : decode prog_1_method_28_code 72 = .ok (.aload_n 1, 1) := by decide +kernel
theorem d_H_stepIsDone_73 : decode prog_1_method_28_code 73 = .ok (.iconst 0, 1) := by decide +kernel
theorem d_H_stepIsDone_74 : decode prog_1_method_28_code 74 = .ok (.putfield 67, 3) := by decide +kernel
theorem d_H_stepIsDone_77 : decode prog_1_method_28_code 77 = .ok (.goto 8, 3) := by decide +kernel
theorem d_H_stepIsDone_80 : decode prog_1_method_28_code 80 = .ok (.aload_n 0, 1) := by decide +kernel
theorem d_H_stepIsDone_81 : decode prog_1_method_28_code 81 = .ok (.aload_n 1, 1) := by decide +kernel
theorem d_H_stepIsDone_82 : decode prog_1_method_28_code 82 = .ok (.invokevirtual 183, 3) := by decide +kernel
theorem d_H_stepIsDone_85 : decode prog_1_method_28_code 85 = .ok (.return_, 1) := by decide +kernel
theorem d_H_finish_0 : decode prog_1_method_29_code 0 = .ok (.aload_n 1, 1) := by decide +kernel
theorem d_H_finish_1 : decode prog_1_method_29_code 1 = .ok (.iconst 3, 1) := by decide +kernel
theorem d_H_finish_2 : decode prog_1_method_29_code 2 = .ok (.putfield 67, 3) := by decide +kernel
theorem d_H_finish_5 : decode prog_1_method_29_code 5 = .ok (.aload_n 0, 1) := by decide +kernel
theorem d_H_finish_6 : decode prog_1_method_29_code 6 = .ok (.aload_n 1, 1) := by decide +kernel
theorem d_H_finish_7 : decode prog_1_method_29_code 7 = .ok (.invokevirtual 228, 3) := by decide +kernel
theorem d_H_finish_10 : decode prog_1_method_29_code 10 = .ok (.return_, 1) := by decide +kernel
theorem d_H_breakRing_0 : decode prog_1_method_30_code 0 = .ok (.aload_n 1, 1) := by decide +kernel
theorem d_H_breakRing_1 : decode prog_1_method_30_code 1 = .ok (.astore_n 2, 1) := by decide +kernel
theorem d_H_breakRing_2 : decode prog_1_method_30_code 2 = .ok (.aload_n 1, 1) := by decide +kernel
theorem d_H_breakRing_3 : decode prog_1_method_30_code 3 = .ok (.astore_n 3, 1) := by decide +kernel
theorem d_H_breakRing_4 : decode prog_1_method_30_code 4 = .ok (.iconst 0, 1) := by decide +kernel
theorem d_H_breakRing_5 : decode prog_1_method_30_code 5 = .ok (.istore 4, 2) := by decide +kernel
theorem d_H_breakRing_7 : decode prog_1_method_30_code 7 = .ok (.iload 4, 2) := by decide +kernel
theorem d_H_breakRing_9 : decode prog_1_method_30_code 9 = .ok (.bipush 6, 2) := by decide +kernel
theorem d_H_breakRing_11 : decode prog_1_method_30_code 11 = .ok (.if_icmp .ge 68, 3) := by decide +kernel
theorem d_H_breakRing_14 : decode prog_1_method_30_code 14 = .ok (.aload_n 0, 1) := by decide +kernel
theorem d_H_breakRing_15 : decode prog_1_method_30_code 15 = .ok (.aload_n 3, 1) := by decide +kernel
theorem d_H_breakRing_16 : decode prog_1_method_30_code 16 = .ok (.invokevirtual 231, 3) := by decide +kernel
theorem d_H_breakRing_19 : decode prog_1_method_30_code 19 = .ok (.istore 5, 2) := by decide +kernel
theorem d_H_breakRing_21 : decode prog_1_method_30_code 21 = .ok (.iload 5, 2) := by decide +kernel
theorem d_H_breakRing_23 : decode prog_1_method_30_code 23 = .ok (.iconst (-1), 1) := by decide +kernel
theorem d_H_breakRing_24 : decode prog_1_method_30_code 24 = .ok (.if_icmp .ne 4, 3) := by decide +kernel
theorem d_H_breakRing_27 : decode prog_1_method_30_code 27 = .ok (.return_, 1) := by decide +kernel
theorem d_H_breakRing_28 : decode prog_1_method_30_code 28 = .ok (.iload 5, 2) := by decide +kernel
theorem d_H_breakRing_30 : decode prog_1_method_30_code 30 = .ok (.aload_n 1, 1) := by decide +kernel
theorem d_H_breakRing_31 : decode prog_1_method_30_code 31 = .ok (.getfield 211, 3) := by decide +kernel
theorem d_H_breakRing_34 : decode prog_1_method_30_code 34 = .ok (.if_icmp .ne 21, 3) := by decide +kernel
theorem d_H_breakRing_37 : decode prog_1_method_30_code 37 = .ok (.aload_n 0, 1) := by decide +kernel
theorem d_H_breakRing_38 : decode prog_1_method_30_code 38 = .ok (.aload_n 2, 1) := by decide +kernel
theorem d_H_breakRing_39 : decode prog_1_method_30_code 39 = .ok (.iconst 0, 1) := by decide +kernel
theorem d_H_breakRing_40 : decode prog_1_method_30_code 40 = .ok (.invokevirtual 120, 3) := by decide +kernel
theorem d_H_breakRing_43 : decode prog_1_method_30_code 43 = .ok (.pop, 1) := by decide +kernel
theorem d_H_breakRing_44 : decode prog_1_method_30_code 44 = .ok (.aload_n 0, 1) := by decide +kernel
theorem d_H_breakRing_45 : decode prog_1_method_30_code 45 = .ok (.dup, 1) := by decide +kernel
theorem d_H_breakRing_46 : decode prog_1_method_30_code 46 = .ok (.getfield 161, 3) := by decide +kernel
theorem d_H_breakRing_49 : decode prog_1_method_30_code 49 = .ok (.iconst 1, 1) := by decide +kernel
theorem d_H_breakRing_50 : decode prog_1_method_30_code 50 = .ok (.iadd, 1) := by decide +kernel
theorem d_H_breakRing_51 : decode prog_1_method_30_code 51 = .ok (.putfield 161, 3) := by decide +kernel
theorem d_H_breakRing_54 : decode prog_1_method_30_code 54 = .ok (.return_, 1) := by decide +kernel
theorem d_H_breakRing_55 : decode prog_1_method_30_code 55 = .ok (.aload_n 0, 1) := by decide +kernel
theorem d_H_breakRing_56 : decode prog_1_method_30_code 56 = .ok (.getfield 18, 3) := by decide +kernel
theorem d_H_breakRing_59 : decode prog_1_method_30_code 59 = .ok (.iload 5, 2) := by decide +kernel
theorem d_H_breakRing_61 : decode prog_1_method_30_code 61 = .ok (.aaload, 1) := by decide +kernel
theorem d_H_breakRing_62 : decode prog_1_method_30_code 62 = .ok (.astore_n 3, 1) := by decide +kernel
theorem d_H_breakRing_63 : decode prog_1_method_30_code 63 = .ok (.aload_n 3, 1) := by decide +kernel
theorem d_H_breakRing_64 : decode prog_1_method_30_code 64 = .ok (.aload_n 2, 1) := by decide +kernel
theorem d_H_breakRing_65 : decode prog_1_method_30_code 65 = .ok (.invokevirtual 234, 3) := by decide +kernel
theorem d_H_breakRing_68 : decode prog_1_method_30_code 68 = .ok (.ifCond .eq 5, 3) := by decide +kernel
theorem d_H_breakRing_71 : decode prog_1_method_30_code 71 = .ok (.aload_n 3, 1) := by decide +kernel
theorem d_H_breakRing_72 : decode prog_1_method_30_code 72 = .ok (.astore_n 2, 1) := by decide +kernel
theorem d_H_breakRing_73 : decode prog_1_method_30_code 73 = .ok (.iinc 4 1, 3) := by decide +kernel
theorem d_H_breakRing_76 : decode prog_1_method_30_code 76 = .ok (.goto (-69), 3) := by decide +kernel
theorem d_H_breakRing_79 : decode prog_1_method_30_code 79 = .ok (.return_, 1) := by decide +kernel
theorem d_H_partInTheWayOf_0 : decode prog_1_method_31_code 0 = .ok (.aload_n 1, 1) := by decide +kernel
theorem d_H_partInTheWayOf_1 : decode prog_1_method_31_code 1 = .ok (.invokevirtual 145, 3) := by decide +kernel
theorem d_H_partInTheWayOf_4 : decode prog_1_method_31_code 4 = .ok (.istore_n 2, 1) := by decide +kernel
theorem d_H_partInTheWayOf_5 : decode prog_1_method_31_code 5 = .ok (.iload_n 2, 1) := by decide +kernel
theorem d_H_partInTheWayOf_6 : decode prog_1_method_31_code 6 = .ok (.iconst (-1), 1) := by decide +kernel
theorem d_H_partInTheWayOf_7 : decode prog_1_method_31_code 7 = .ok (.if_icmp .ne 7, 3) := by decide +kernel
theorem d_H_partInTheWayOf_10 : decode prog_1_method_31_code 10 = .ok (.iconst (-1), 1) := by decide +kernel
theorem d_H_partInTheWayOf_11 : decode prog_1_method_31_code 11 = .ok (.goto 9, 3) := by decide +kernel
theorem d_H_partInTheWayOf_14 : decode prog_1_method_31_code 14 = .ok (.aload_n 0, 1) := by decide +kernel
theorem d_H_partInTheWayOf_15 : decode prog_1_method_31_code 15 = .ok (.getfield 13, 3) := by decide +kernel
theorem d_H_partInTheWayOf_18 : decode prog_1_method_31_code 18 = .ok (.iload_n 2, 1) := by decide +kernel
theorem d_H_partInTheWayOf_19 : decode prog_1_method_31_code 19 = .ok (.iaload, 1) := by decide +kernel
theorem d_H_partInTheWayOf_20 : decode prog_1_method_31_code 20 = .ok (.ireturn, 1) := by decide +kernel
theorem d_H_undo_0 : decode prog_1_method_32_code 0 = .ok (.aload_n 1, 1) := by decide +kernel
theorem d_H_undo_1 : decode prog_1_method_32_code 1 = .ok (.getfield 64, 3) := by decide +kernel
theorem d_H_undo_4 : decode prog_1_method_32_code 4 = .ok (.istore_n 3, 1) := by decide +kernel
theorem d_H_undo_5 : decode prog_1_method_32_code 5 = .ok (.iload_n 3, 1) := by decide +kernel
theorem d_H_undo_6 : decode prog_1_method_32_code 6 = .ok (.iconst 1, 1) := by decide +kernel
theorem d_H_undo_7 : decode prog_1_method_32_code 7 = .ok (.isub, 1) := by decide +kernel
theorem d_H_undo_8 : decode prog_1_method_32_code 8 = .ok (.istore 4, 2) := by decide +kernel
theorem d_H_undo_10 : decode prog_1_method_32_code 10 = .ok (.iload 4, 2) := by decide +kernel
theorem d_H_undo_12 : decode prog_1_method_32_code 12 = .ok (.ifCond .lt 16, 3) := by decide +kernel
theorem d_H_undo_15 : decode prog_1_method_32_code 15 = .ok (.aload_n 0, 1) := by decide +kernel
theorem d_H_undo_16 : decode prog_1_method_32_code 16 = .ok (.aload_n 1, 1) := by decide +kernel
theorem d_H_undo_17 : decode prog_1_method_32_code 17 = .ok (.iload 4, 2) := by decide +kernel
theorem d_H_undo_19 : decode prog_1_method_32_code 19 = .ok (.invokevirtual 238, 3) := by decide +kernel
theorem d_H_undo_22 : decode prog_1_method_32_code 22 = .ok (.iinc 4 (-1), 3) := by decide +kernel
theorem d_H_undo_25 : decode prog_1_method_32_code 25 = .ok (.goto (-15), 3) := by decide +kernel
theorem d_H_undo_28 : decode prog_1_method_32_code 28 = .ok (.aload_n 0, 1) := by decide +kernel
theorem d_H_undo_29 : decode prog_1_method_32_code 29 = .ok (.aload_n 1, 1) := by decide +kernel
theorem d_H_undo_30 : decode prog_1_method_32_code 30 = .ok (.invokevirtual 228, 3) := by decide +kernel
theorem d_H_undo_33 : decode prog_1_method_32_code 33 = .ok (.aload_n 1, 1) := by decide +kernel
theorem d_H_undo_34 : decode prog_1_method_32_code 34 = .ok (.iconst 0, 1) := by decide +kernel
theorem d_H_undo_35 : decode prog_1_method_32_code 35 = .ok (.putfield 64, 3) := by decide +kernel
theorem d_H_undo_38 : decode prog_1_method_32_code 38 = .ok (.aload_n 1, 1) := by decide +kernel
theorem d_H_undo_39 : decode prog_1_method_32_code 39 = .ok (.dup, 1) := by decide +kernel
theorem d_H_undo_40 : decode prog_1_method_32_code 40 = .ok (.getfield 153, 3) := by decide +kernel
theorem d_H_undo_43 : decode prog_1_method_32_code 43 = .ok (.iconst 1, 1) := by decide +kernel
theorem d_H_undo_44 : decode prog_1_method_32_code 44 = .ok (.iadd, 1) := by decide +kernel
theorem d_H_undo_45 : decode prog_1_method_32_code 45 = .ok (.putfield 153, 3) := by decide +kernel
theorem d_H_undo_48 : decode prog_1_method_32_code 48 = .ok (.aload_n 1, 1) := by decide +kernel
theorem d_H_undo_49 : decode prog_1_method_32_code 49 = .ok (.iload_n 2, 1) := by decide +kernel
theorem d_H_undo_50 : decode prog_1_method_32_code 50 = .ok (.putfield 67, 3) := by decide +kernel
theorem d_H_undo_53 : decode prog_1_method_32_code 53 = .ok (.iload_n 3, 1) := by decide +kernel
theorem d_H_undo_54 : decode prog_1_method_32_code 54 = .ok (.ireturn, 1) := by decide +kernel
theorem d_H_takeBack_0 : decode prog_1_method_33_code 0 = .ok (.aload_n 1, 1) := by decide +kernel
theorem d_H_takeBack_1 : decode prog_1_method_33_code 1 = .ok (.getfield 218, 3) := by decide +kernel
theorem d_H_takeBack_4 : decode prog_1_method_33_code 4 = .ok (.iload_n 2, 1) := by decide +kernel
theorem d_H_takeBack_5 : decode prog_1_method_33_code 5 = .ok (.iaload, 1) := by decide +kernel
theorem d_H_takeBack_6 : decode prog_1_method_33_code 6 = .ok (.istore_n 3, 1) := by decide +kernel
theorem d_H_takeBack_7 : decode prog_1_method_33_code 7 = .ok (.aload_n 1, 1) := by decide +kernel
theorem d_H_takeBack_8 : decode prog_1_method_33_code 8 = .ok (.getfield 186, 3) := by decide +kernel
theorem d_H_takeBack_11 : decode prog_1_method_33_code 11 = .ok (.iload_n 2, 1) := by decide +kernel
theorem d_H_takeBack_12 : decode prog_1_method_33_code 12 = .ok (.iaload, 1) := by decide +kernel
theorem d_H_takeBack_13 : decode prog_1_method_33_code 13 = .ok (.lookupswitch 75 #[(0, 27), (1, 50)], 27) := by decide +kernel
theorem d_H_takeBack_40 : decode prog_1_method_33_code 40 = .ok (.aload_n 0, 1) := by decide +kernel
theorem d_H_takeBack_41 : decode prog_1_method_33_code 41 = .ok (.getfield 9, 3) := by decide +kernel
theorem d_H_takeBack_44 : decode prog_1_method_33_code 44 = .ok (.aload_n 1, 1) := by decide +kernel
theorem d_H_takeBack_45 : decode prog_1_method_33_code 45 = .ok (.getfield 198, 3) := by decide +kernel
theorem d_H_takeBack_48 : decode prog_1_method_33_code 48 = .ok (.iload_n 2, 1) := by decide +kernel
theorem d_H_takeBack_49 : decode prog_1_method_33_code 49 = .ok (.iaload, 1) := by decide +kernel
theorem d_H_takeBack_50 : decode prog_1_method_33_code 50 = .ok (.dup2, 1) := by decide +kernel
theorem d_H_takeBack_51 : decode prog_1_method_33_code 51 = .ok (.iaload, 1) := by decide +kernel
theorem d_H_takeBack_52 : decode prog_1_method_33_code 52 = .ok (.aload_n 1, 1) := by decide +kernel
theorem d_H_takeBack_53 : decode prog_1_method_33_code 53 = .ok (.getfield 205, 3) := by decide +kernel
theorem d_H_takeBack_56 : decode prog_1_method_33_code 56 = .ok (.iload_n 2, 1) := by decide +kernel
theorem d_H_takeBack_57 : decode prog_1_method_33_code 57 = .ok (.iaload, 1) := by decide +kernel
theorem d_H_takeBack_58 : decode prog_1_method_33_code 58 = .ok (.isub, 1) := by decide +kernel
theorem d_H_takeBack_59 : decode prog_1_method_33_code 59 = .ok (.iastore, 1) := by decide +kernel
theorem d_H_takeBack_60 : decode prog_1_method_33_code 60 = .ok (.goto 61, 3) := by decide +kernel
theorem d_H_takeBack_63 : decode prog_1_method_33_code 63 = .ok (.aload_n 0, 1) := by decide +kernel
theorem d_H_takeBack_64 : decode prog_1_method_33_code 64 = .ok (.getfield 25, 3) := by decide +kernel
theorem d_H_takeBack_67 : decode prog_1_method_33_code 67 = .ok (.getfield 111, 3) := by decide +kernel
theorem d_H_takeBack_70 : decode prog_1_method_33_code 70 = .ok (.iload_n 3, 1) := by decide +kernel
theorem d_H_takeBack_71 : decode prog_1_method_33_code 71 = .ok (.iaload, 1) := by decide +kernel
theorem d_H_takeBack_72 : decode prog_1_method_33_code 72 = .ok (.ifCond .ne 49, 3) := by decide +kernel
theorem d_H_takeBack_75 : decode prog_1_method_33_code 75 = .ok (.aload_n 0, 1) := by decide +kernel
theorem d_H_takeBack_76 : decode prog_1_method_33_code 76 = .ok (.getfield 25, 3) := by decide +kernel
theorem d_H_takeBack_79 : decode prog_1_method_33_code 79 = .ok (.getfield 111, 3) := by decide +kernel
theorem d_H_takeBack_82 : decode prog_1_method_33_code 82 = .ok (.iload_n 3, 1) := by decide +kernel
theorem d_H_takeBack_83 : decode prog_1_method_33_code 83 = .ok (.iconst 3, 1) := by decide +kernel
theorem d_H_takeBack_84 : decode prog_1_method_33_code 84 = .ok (.iastore, 1) := by decide +kernel
theorem d_H_takeBack_85 : decode prog_1_method_33_code 85 = .ok (.goto 36, 3) := by decide +kernel
theorem d_H_takeBack_88 : decode prog_1_method_33_code 88 = .ok (.aload_n 0, 1) := by decide +kernel
theorem d_H_takeBack_89 : decode prog_1_method_33_code 89 = .ok (.getfield 9, 3) := by decide +kernel
theorem d_H_takeBack_92 : decode prog_1_method_33_code 92 = .ok (.aload_n 1, 1) := by decide +kernel
theorem d_H_takeBack_93 : decode prog_1_method_33_code 93 = .ok (.getfield 198, 3) := by decide +kernel
theorem d_H_takeBack_96 : decode prog_1_method_33_code 96 = .ok (.iload_n 2, 1) := by decide +kernel
theorem d_H_takeBack_97 : decode prog_1_method_33_code 97 = .ok (.iaload, 1) := by decide +kernel
theorem d_H_takeBack_98 : decode prog_1_method_33_code 98 = .ok (.dup2, 1) := by decide +kernel
theorem d_H_takeBack_99 : decode prog_1_method_33_code 99 = .ok (.iaload, 1) := by decide +kernel
theorem d_H_takeBack_100 : decode prog_1_method_33_code 100 = .ok (.aload_n 0, 1) := by decide +kernel
theorem d_H_takeBack_101 : decode prog_1_method_33_code 101 = .ok (.getfield 25, 3) := by decide +kernel
theorem d_H_takeBack_104 : decode prog_1_method_33_code 104 = .ok (.getfield 140, 3) := by decide +kernel
theorem d_H_takeBack_107 : decode prog_1_method_33_code 107 = .ok (.iload_n 3, 1) := by decide +kernel
theorem d_H_takeBack_108 : decode prog_1_method_33_code 108 = .ok (.iaload, 1) := by decide +kernel
theorem d_H_takeBack_109 : decode prog_1_method_33_code 109 = .ok (.isub, 1) := by decide +kernel
theorem d_H_takeBack_110 : decode prog_1_method_33_code 110 = .ok (.iastore, 1) := by decide +kernel
theorem d_H_takeBack_111 : decode prog_1_method_33_code 111 = .ok (.aload_n 0, 1) := by decide +kernel
theorem d_H_takeBack_112 : decode prog_1_method_33_code 112 = .ok (.getfield 25, 3) := by decide +kernel
theorem d_H_takeBack_115 : decode prog_1_method_33_code 115 = .ok (.getfield 111, 3) := by decide +kernel
theorem d_H_takeBack_118 : decode prog_1_method_33_code 118 = .ok (.iload_n 3, 1) := by decide +kernel
theorem d_H_takeBack_119 : decode prog_1_method_33_code 119 = .ok (.iconst 0, 1) := by decide +kernel
theorem d_H_takeBack_120 : decode prog_1_method_33_code 120 = .ok (.iastore, 1) := by decide +kernel
theorem d_H_takeBack_121 : decode prog_1_method_33_code 121 = .ok (.return_, 1) := by decide +kernel
theorem d_H_freePlaces_0 : decode prog_1_method_34_code 0 = .ok (.iconst 0, 1) := by decide +kernel
theorem d_H_freePlaces_1 : decode prog_1_method_34_code 1 = .ok (.istore_n 2, 1) := by decide +kernel
theorem d_H_freePlaces_2 : decode prog_1_method_34_code 2 = .ok (.iload_n 2, 1) := by decide +kernel
theorem d_H_freePlaces_3 : decode prog_1_method_34_code 3 = .ok (.bipush 8, 2) := by decide +kernel
theorem d_H_freePlaces_5 : decode prog_1_method_34_code 5 = .ok (.if_icmp .ge 29, 3) := by decide +kernel
theorem d_H_freePlaces_8 : decode prog_1_method_34_code 8 = .ok (.aload_n 0, 1) := by decide +kernel
theorem d_H_freePlaces_9 : decode prog_1_method_34_code 9 = .ok (.getfield 13, 3) := by decide +kernel
theorem d_H_freePlaces_12 : decode prog_1_method_34_code 12 = .ok (.iload_n 2, 1) := by decide +kernel
theorem d_H_freePlaces_13 : decode prog_1_method_34_code 13 = .ok (.iaload, 1) := by decide +kernel
theorem d_H_freePlaces_14 : decode prog_1_method_34_code 14 = .ok (.aload_n 1, 1) := by decide +kernel
theorem d_H_freePlaces_15 : decode prog_1_method_34_code 15 = .ok (.getfield 211, 3) := by decide +kernel
theorem d_H_freePlaces_18 : decode prog_1_method_34_code 18 = .ok (.if_icmp .ne 10, 3) := by decide +kernel
theorem d_H_freePlaces_21 : decode prog_1_method_34_code 21 = .ok (.aload_n 0, 1) := by decide +kernel
theorem d_H_freePlaces_22 : decode prog_1_method_34_code 22 = .ok (.getfield 13, 3) := by decide +kernel
theorem d_H_freePlaces_25 : decode prog_1_method_34_code 25 = .ok (.iload_n 2, 1) := by decide +kernel
theorem d_H_freePlaces_26 : decode prog_1_method_34_code 26 = .ok (.iconst (-1), 1) := by decide +kernel
theorem d_H_freePlaces_27 : decode prog_1_method_34_code 27 = .ok (.iastore, 1) := by decide +kernel
theorem d_H_freePlaces_28 : decode prog_1_method_34_code 28 = .ok (.iinc 2 1, 3) := by decide +kernel
theorem d_H_freePlaces_31 : decode prog_1_method_34_code 31 = .ok (.goto (-29), 3) := by decide +kernel
theorem d_H_freePlaces_34 : decode prog_1_method_34_code 34 = .ok (.return_, 1) := by decide +kernel
theorem d_H_heldPlaces_0 : decode prog_1_method_35_code 0 = .ok (.iconst 0, 1) := by decide +kernel
theorem d_H_heldPlaces_1 : decode prog_1_method_35_code 1 = .ok (.istore_n 2, 1) := by decide +kernel
theorem d_H_heldPlaces_2 : decode prog_1_method_35_code 2 = .ok (.iconst 0, 1) := by decide +kernel
theorem d_H_heldPlaces_3 : decode prog_1_method_35_code 3 = .ok (.istore_n 3, 1) := by decide +kernel
theorem d_H_heldPlaces_4 : decode prog_1_method_35_code 4 = .ok (.iload_n 3, 1) := by decide +kernel
theorem d_H_heldPlaces_5 : decode prog_1_method_35_code 5 = .ok (.bipush 8, 2) := by decide +kernel
theorem d_H_heldPlaces_7 : decode prog_1_method_35_code 7 = .ok (.if_icmp .ge 25, 3) := by decide +kernel
theorem d_H_heldPlaces_10 : decode prog_1_method_35_code 10 = .ok (.aload_n 0, 1) := by decide +kernel
theorem d_H_heldPlaces_11 : decode prog_1_method_35_code 11 = .ok (.getfield 13, 3) := by decide +kernel
theorem d_H_heldPlaces_14 : decode prog_1_method_35_code 14 = .ok (.iload_n 3, 1) := by decide +kernel
theorem d_H_heldPlaces_15 : decode prog_1_method_35_code 15 = .ok (.iaload, 1) := by decide +kernel
theorem d_H_heldPlaces_16 : decode prog_1_method_35_code 16 = .ok (.aload_n 1, 1) := by decide +kernel
theorem d_H_heldPlaces_17 : decode prog_1_method_35_code 17 = .ok (.getfield 211, 3) := by decide +kernel
theorem d_H_heldPlaces_20 : decode prog_1_method_35_code 20 = .ok (.if_icmp .ne 6, 3) := by decide +kernel
theorem d_H_heldPlaces_23 : decode prog_1_method_35_code 23 = .ok (.iinc 2 1, 3) := by decide +kernel
theorem d_H_heldPlaces_26 : decode prog_1_method_35_code 26 = .ok (.iinc 3 1, 3) := by decide +kernel
theorem d_H_heldPlaces_29 : decode prog_1_method_35_code 29 = .ok (.goto (-25), 3) := by decide +kernel
theorem d_H_heldPlaces_32 : decode prog_1_method_35_code 32 = .ok (.iload_n 2, 1) := by decide +kernel
theorem d_H_heldPlaces_33 : decode prog_1_method_35_code 33 = .ok (.ireturn, 1) := by decide +kernel
theorem d_H_doneParts_0 : decode prog_1_method_36_code 0 = .ok (.iconst 0, 1) := by decide +kernel
theorem d_H_doneParts_1 : decode prog_1_method_36_code 1 = .ok (.istore_n 1, 1) := by decide +kernel
theorem d_H_doneParts_2 : decode prog_1_method_36_code 2 = .ok (.iconst 0, 1) := by decide +kernel
theorem d_H_doneParts_3 : decode prog_1_method_36_code 3 = .ok (.istore_n 2, 1) := by decide +kernel
theorem d_H_doneParts_4 : decode prog_1_method_36_code 4 = .ok (.iload_n 2, 1) := by decide +kernel
theorem d_H_doneParts_5 : decode prog_1_method_36_code 5 = .ok (.aload_n 0, 1) := by decide +kernel
theorem d_H_doneParts_6 : decode prog_1_method_36_code 6 = .ok (.getfield 42, 3) := by decide +kernel
theorem d_H_doneParts_9 : decode prog_1_method_36_code 9 = .ok (.if_icmp .ge 25, 3) := by decide +kernel
theorem d_H_doneParts_12 : decode prog_1_method_36_code 12 = .ok (.aload_n 0, 1) := by decide +kernel
theorem d_H_doneParts_13 : decode prog_1_method_36_code 13 = .ok (.getfield 18, 3) := by decide +kernel
theorem d_H_doneParts_16 : decode prog_1_method_36_code 16 = .ok (.iload_n 2, 1) := by decide +kernel
theorem d_H_doneParts_17 : decode prog_1_method_36_code 17 = .ok (.aaload, 1) := by decide +kernel
theorem d_H_doneParts_18 : decode prog_1_method_36_code 18 = .ok (.getfield 67, 3) := by decide +kernel
theorem d_H_doneParts_21 : decode prog_1_method_36_code 21 = .ok (.iconst 3, 1) := by decide +kernel
theorem d_H_doneParts_22 : decode prog_1_method_36_code 22 = .ok (.if_icmp .ne 6, 3) := by decide +kernel
theorem d_H_doneParts_25 : decode prog_1_method_36_code 25 = .ok (.iinc 1 1, 3) := by decide +kernel
theorem d_H_doneParts_28 : decode prog_1_method_36_code 28 = .ok (.iinc 2 1, 3) := by decide +kernel
theorem d_H_doneParts_31 : decode prog_1_method_36_code 31 = .ok (.goto (-27), 3) := by decide +kernel
theorem d_H_doneParts_34 : decode prog_1_method_36_code 34 = .ok (.iload_n 1, 1) := by decide +kernel
theorem d_H_doneParts_35 : decode prog_1_method_36_code 35 = .ok (.ireturn, 1) := by decide +kernel
theorem d_P_init_0 : decode prog_2_method_1_code 0 = .ok (.aload_n 0, 1) := by decide +kernel
theorem d_P_init_1 : decode prog_2_method_1_code 1 = .ok (.invokespecial 3, 3) := by decide +kernel
theorem d_P_init_4 : decode prog_2_method_1_code 4 = .ok (.aload_n 0, 1) := by decide +kernel
theorem d_P_init_5 : decode prog_2_method_1_code 5 = .ok (.iconst 0, 1) := by decide +kernel
theorem d_P_init_6 : decode prog_2_method_1_code 6 = .ok (.putfield 9, 3) := by decide +kernel
theorem d_P_init_9 : decode prog_2_method_1_code 9 = .ok (.aload_n 0, 1) := by decide +kernel
theorem d_P_init_10 : decode prog_2_method_1_code 10 = .ok (.bipush 10, 2) := by decide +kernel
theorem d_P_init_12 : decode prog_2_method_1_code 12 = .ok (.newarray .int, 2) := by decide +kernel
theorem d_P_init_14 : decode prog_2_method_1_code 14 = .ok (.putfield 15, 3) := by decide +kernel
theorem d_P_init_17 : decode prog_2_method_1_code 17 = .ok (.aload_n 0, 1) := by decide +kernel
theorem d_P_init_18 : decode prog_2_method_1_code 18 = .ok (.bipush 10, 2) := by decide +kernel
theorem d_P_init_20 : decode prog_2_method_1_code 20 = .ok (.newarray .int, 2) := by decide +kernel
theorem d_P_init_22 : decode prog_2_method_1_code 22 = .ok (.putfield 19, 3) := by decide +kernel
theorem d_P_init_25 : decode prog_2_method_1_code 25 = .ok (.aload_n 0, 1) := by decide +kernel
theorem d_P_init_26 : decode prog_2_method_1_code 26 = .ok (.bipush 10, 2) := by decide +kernel
theorem d_P_init_28 : decode prog_2_method_1_code 28 = .ok (.newarray .int, 2) := by decide +kernel
theorem d_P_init_30 : decode prog_2_method_1_code 30 = .ok (.putfield 22, 3) := by decide +kernel
theorem d_P_init_33 : decode prog_2_method_1_code 33 = .ok (.aload_n 0, 1) := by decide +kernel
theorem d_P_init_34 : decode prog_2_method_1_code 34 = .ok (.bipush 10, 2) := by decide +kernel
theorem d_P_init_36 : decode prog_2_method_1_code 36 = .ok (.newarray .boolean, 2) := by decide +kernel
theorem d_P_init_38 : decode prog_2_method_1_code 38 = .ok (.putfield 25, 3) := by decide +kernel
theorem d_P_init_41 : decode prog_2_method_1_code 41 = .ok (.aload_n 0, 1) := by decide +kernel
theorem d_P_init_42 : decode prog_2_method_1_code 42 = .ok (.bipush 10, 2) := by decide +kernel
theorem d_P_init_44 : decode prog_2_method_1_code 44 = .ok (.newarray .int, 2) := by decide +kernel
theorem d_P_init_46 : decode prog_2_method_1_code 46 = .ok (.putfield 29, 3) := by decide +kernel
theorem d_P_init_49 : decode prog_2_method_1_code 49 = .ok (.aload_n 0, 1) := by decide +kernel
theorem d_P_init_50 : decode prog_2_method_1_code 50 = .ok (.iload_n 1, 1) := by decide +kernel
theorem d_P_init_51 : decode prog_2_method_1_code 51 = .ok (.putfield 32, 3) := by decide +kernel
theorem d_P_init_54 : decode prog_2_method_1_code 54 = .ok (.return_, 1) := by decide +kernel
theorem d_P_append_0 : decode prog_2_method_2_code 0 = .ok (.aload_n 0, 1) := by decide +kernel
theorem d_P_append_1 : decode prog_2_method_2_code 1 = .ok (.getfield 35, 3) := by decide +kernel
theorem d_P_append_4 : decode prog_2_method_2_code 4 = .ok (.bipush 10, 2) := by decide +kernel
theorem d_P_append_6 : decode prog_2_method_2_code 6 = .ok (.if_icmp .lt 5, 3) := by decide +kernel
theorem d_P_append_9 : decode prog_2_method_2_code 9 = .ok (.iconst 0, 1) := by decide +kernel
theorem d_P_append_10 : decode prog_2_method_2_code 10 = .ok (.ireturn, 1) := by decide +kernel
theorem d_P_append_11 : decode prog_2_method_2_code 11 = .ok (.aload_n 0, 1) := by decide +kernel
theorem d_P_append_12 : decode prog_2_method_2_code 12 = .ok (.getfield 15, 3) := by decide +kernel
theorem d_P_append_15 : decode prog_2_method_2_code 15 = .ok (.aload_n 0, 1) := by decide +kernel
theorem d_P_append_16 : decode prog_2_method_2_code 16 = .ok (.getfield 35, 3) := by decide +kernel
theorem d_P_append_19 : decode prog_2_method_2_code 19 = .ok (.iload_n 1, 1) := by decide +kernel
theorem d_P_append_20 : decode prog_2_method_2_code 20 = .ok (.iastore, 1) := by decide +kernel
theorem d_P_append_21 : decode prog_2_method_2_code 21 = .ok (.aload_n 0, 1) := by decide +kernel
theorem d_P_append_22 : decode prog_2_method_2_code 22 = .ok (.getfield 19, 3) := by decide +kernel
theorem d_P_append_25 : decode prog_2_method_2_code 25 = .ok (.aload_n 0, 1) := by decide +kernel
theorem d_P_append_26 : decode prog_2_method_2_code 26 = .ok (.getfield 35, 3) := by decide +kernel
theorem d_P_append_29 : decode prog_2_method_2_code 29 = .ok (.iload_n 2, 1) := by decide +kernel
theorem d_P_append_30 : decode prog_2_method_2_code 30 = .ok (.iastore, 1) := by decide +kernel
theorem d_P_append_31 : decode prog_2_method_2_code 31 = .ok (.aload_n 0, 1) := by decide +kernel
theorem d_P_append_32 : decode prog_2_method_2_code 32 = .ok (.getfield 22, 3) := by decide +kernel
theorem d_P_append_35 : decode prog_2_method_2_code 35 = .ok (.aload_n 0, 1) := by decide +kernel
theorem d_P_append_36 : decode prog_2_method_2_code 36 = .ok (.getfield 35, 3) := by decide +kernel
theorem d_P_append_39 : decode prog_2_method_2_code 39 = .ok (.iload_n 3, 1) := by decide +kernel
theorem d_P_append_40 : decode prog_2_method_2_code 40 = .ok (.iastore, 1) := by decide +kernel
theorem d_P_append_41 : decode prog_2_method_2_code 41 = .ok (.aload_n 0, 1) := by decide +kernel
theorem d_P_append_42 : decode prog_2_method_2_code 42 = .ok (.dup, 1) := by decide +kernel
theorem d_P_append_43 : decode prog_2_method_2_code 43 = .ok (.getfield 35, 3) := by decide +kernel
theorem d_P_append_46 : decode prog_2_method_2_code 46 = .ok (.iconst 1, 1) := by decide +kernel
theorem d_P_append_47 : decode prog_2_method_2_code 47 = .ok (.iadd, 1) := by decide +kernel
theorem d_P_append_48 : decode prog_2_method_2_code 48 = .ok (.putfield 35, 3) := by decide +kernel
theorem d_P_append_51 : decode prog_2_method_2_code 51 = .ok (.iconst 1, 1) := by decide +kernel
theorem d_P_append_52 : decode prog_2_method_2_code 52 = .ok (.ireturn, 1) := by decide +kernel
theorem d_P_mayHaveTurn_0 : decode prog_2_method_3_code 0 = .ok (.aload_n 0, 1) := by decide +kernel
theorem d_P_mayHaveTurn_1 : decode prog_2_method_3_code 1 = .ok (.getfield 9, 3) := by decide +kernel
theorem d_P_mayHaveTurn_4 : decode prog_2_method_3_code 4 = .ok (.ifCond .eq 19, 3) := by decide +kernel
theorem d_P_mayHaveTurn_7 : decode prog_2_method_3_code 7 = .ok (.aload_n 0, 1) := by decide +kernel
theorem d_P_mayHaveTurn_8 : decode prog_2_method_3_code 8 = .ok (.getfield 9, 3) := by decide +kernel
theorem d_P_mayHaveTurn_11 : decode prog_2_method_3_code 11 = .ok (.iconst 1, 1) := by decide +kernel
theorem d_P_mayHaveTurn_12 : decode prog_2_method_3_code 12 = .ok (.if_icmp .eq 11, 3) := by decide +kernel
theorem d_P_mayHaveTurn_15 : decode prog_2_method_3_code 15 = .ok (.aload_n 0, 1) := by decide +kernel
theorem d_P_mayHaveTurn_16 : decode prog_2_method_3_code 16 = .ok (.getfield 9, 3) := by decide +kernel
theorem d_P_mayHaveTurn_19 : decode prog_2_method_3_code 19 = .ok (.iconst 2, 1) := by decide +kernel
theorem d_P_mayHaveTurn_20 : decode prog_2_method_3_code 20 = .ok (.if_icmp .ne 7, 3) := by decide +kernel
theorem d_P_mayHaveTurn_23 : decode prog_2_method_3_code 23 = .ok (.iconst 1, 1) := by decide +kernel
theorem d_P_mayHaveTurn_24 : decode prog_2_method_3_code 24 = .ok (.goto 4, 3) := by decide +kernel
theorem d_P_mayHaveTurn_27 : decode prog_2_method_3_code 27 = .ok (.iconst 0, 1) := by decide +kernel
theorem d_P_mayHaveTurn_28 : decode prog_2_method_3_code 28 = .ok (.ireturn, 1) := by decide +kernel
theorem d_P_awaitedPlace_0 : decode prog_2_method_4_code 0 = .ok (.aload_n 0, 1) := by decide +kernel
theorem d_P_awaitedPlace_1 : decode prog_2_method_4_code 1 = .ok (.getfield 9, 3) := by decide +kernel
theorem d_P_awaitedPlace_4 : decode prog_2_method_4_code 4 = .ok (.iconst 1, 1) := by decide +kernel
theorem d_P_awaitedPlace_5 : decode prog_2_method_4_code 5 = .ok (.if_icmp .ne 26, 3) := by decide +kernel
theorem d_P_awaitedPlace_8 : decode prog_2_method_4_code 8 = .ok (.aload_n 0, 1) := by decide +kernel
theorem d_P_awaitedPlace_9 : decode prog_2_method_4_code 9 = .ok (.getfield 38, 3) := by decide +kernel
theorem d_P_awaitedPlace_12 : decode prog_2_method_4_code 12 = .ok (.aload_n 0, 1) := by decide +kernel
theorem d_P_awaitedPlace_13 : decode prog_2_method_4_code 13 = .ok (.getfield 35, 3) := by decide +kernel
theorem d_P_awaitedPlace_16 : decode prog_2_method_4_code 16 = .ok (.if_icmp .ge 15, 3) := by decide +kernel
theorem d_P_awaitedPlace_19 : decode prog_2_method_4_code 19 = .ok (.aload_n 0, 1) := by decide +kernel
theorem d_P_awaitedPlace_20 : decode prog_2_method_4_code 20 = .ok (.getfield 19, 3) := by decide +kernel
theorem d_P_awaitedPlace_23 : decode prog_2_method_4_code 23 = .ok (.aload_n 0, 1) := by decide +kernel
theorem d_P_awaitedPlace_24 : decode prog_2_method_4_code 24 = .ok (.getfield 38, 3) := by decide +kernel
theorem d_P_awaitedPlace_27 : decode prog_2_method_4_code 27 = .ok (.iaload, 1) := by decide +kernel
theorem d_P_awaitedPlace_28 : decode prog_2_method_4_code 28 = .ok (.goto 4, 3) := by decide +kernel
theorem d_P_awaitedPlace_31 : decode prog_2_method_4_code 31 = .ok (.iconst (-1), 1) := by decide +kernel
theorem d_P_awaitedPlace_32 : decode prog_2_method_4_code 32 = .ok (.ireturn, 1) := by decide +kernel
theorem d_P_yieldsBefore_0 : decode prog_2_method_5_code 0 = .ok (.aload_n 0, 1) := by decide +kernel
theorem d_P_yieldsBefore_1 : decode prog_2_method_5_code 1 = .ok (.getfield 41, 3) := by decide +kernel
theorem d_P_yieldsBefore_4 : decode prog_2_method_5_code 4 = .ok (.aload_n 1, 1) := by decide +kernel
theorem d_P_yieldsBefore_5 : decode prog_2_method_5_code 5 = .ok (.getfield 41, 3) := by decide +kernel
theorem d_P_yieldsBefore_8 : decode prog_2_method_5_code 8 = .ok (.if_icmp .lt 25, 3) := by decide +kernel
theorem d_P_yieldsBefore_11 : decode prog_2_method_5_code 11 = .ok (.aload_n 0, 1) := by decide +kernel
theorem d_P_yieldsBefore_12 : decode prog_2_method_5_code 12 = .ok (.getfield 41, 3) := by decide +kernel
theorem d_P_yieldsBefore_15 : decode prog_2_method_5_code 15 = .ok (.aload_n 1, 1) := by decide +kernel
theorem d_P_yieldsBefore_16 : decode prog_2_method_5_code 16 = .ok (.getfield 41, 3) := by decide +kernel
theorem d_P_yieldsBefore_19 : decode prog_2_method_5_code 19 = .ok (.if_icmp .ne 18, 3) := by decide +kernel
theorem d_P_yieldsBefore_22 : decode prog_2_method_5_code 22 = .ok (.aload_n 0, 1) := by decide +kernel
theorem d_P_yieldsBefore_23 : decode prog_2_method_5_code 23 = .ok (.getfield 32, 3) := by decide +kernel
theorem d_P_yieldsBefore_26 : decode prog_2_method_5_code 26 = .ok (.aload_n 1, 1) := by decide +kernel
theorem d_P_yieldsBefore_27 : decode prog_2_method_5_code 27 = .ok (.getfield 32, 3) := by decide +kernel
theorem d_P_yieldsBefore_30 : decode prog_2_method_5_code 30 = .ok (.if_icmp .le 7, 3) := by decide +kernel
theorem d_P_yieldsBefore_33 : decode prog_2_method_5_code 33 = .ok (.iconst 1, 1) := by decide +kernel
theorem d_P_yieldsBefore_34 : decode prog_2_method_5_code 34 = .ok (.goto 4, 3) := by decide +kernel
theorem d_P_yieldsBefore_37 : decode prog_2_method_5_code 37 = .ok (.iconst 0, 1) := by decide +kernel
theorem d_P_yieldsBefore_38 : decode prog_2_method_5_code 38 = .ok (.ireturn, 1) := by decide +kernel
theorem d_Q_init_0 : decode prog_3_method_1_code 0 = .ok (.aload_n 0, 1) := by decide +kernel
theorem d_Q_init_1 : decode prog_3_method_1_code 1 = .ok (.invokespecial 3, 3) := by decide +kernel
theorem d_Q_init_4 : decode prog_3_method_1_code 4 = .ok (.aload_n 0, 1) := by decide +kernel
theorem d_Q_init_5 : decode prog_3_method_1_code 5 = .ok (.bipush 61, 2) := by decide +kernel
theorem d_Q_init_7 : decode prog_3_method_1_code 7 = .ok (.newarray .int, 2) := by decide +kernel
theorem d_Q_init_9 : decode prog_3_method_1_code 9 = .ok (.putfield 9, 3) := by decide +kernel
theorem d_Q_init_12 : decode prog_3_method_1_code 12 = .ok (.aload_n 0, 1) := by decide +kernel
theorem d_Q_init_13 : decode prog_3_method_1_code 13 = .ok (.bipush 61, 2) := by decide +kernel
theorem d_Q_init_15 : decode prog_3_method_1_code 15 = .ok (.newarray .int, 2) := by decide +kernel
theorem d_Q_init_17 : decode prog_3_method_1_code 17 = .ok (.putfield 15, 3) := by decide +kernel
theorem d_Q_init_20 : decode prog_3_method_1_code 20 = .ok (.aload_n 0, 1) := by decide +kernel
theorem d_Q_init_21 : decode prog_3_method_1_code 21 = .ok (.bipush 61, 2) := by decide +kernel
theorem d_Q_init_23 : decode prog_3_method_1_code 23 = .ok (.newarray .int, 2) := by decide +kernel
theorem d_Q_init_25 : decode prog_3_method_1_code 25 = .ok (.putfield 18, 3) := by decide +kernel
theorem d_Q_init_28 : decode prog_3_method_1_code 28 = .ok (.aload_n 0, 1) := by decide +kernel
theorem d_Q_init_29 : decode prog_3_method_1_code 29 = .ok (.bipush 61, 2) := by decide +kernel
theorem d_Q_init_31 : decode prog_3_method_1_code 31 = .ok (.newarray .int, 2) := by decide +kernel
theorem d_Q_init_33 : decode prog_3_method_1_code 33 = .ok (.putfield 21, 3) := by decide +kernel
theorem d_Q_init_36 : decode prog_3_method_1_code 36 = .ok (.return_, 1) := by decide +kernel
theorem d_Q_add_0 : decode prog_3_method_2_code 0 = .ok (.aload_n 0, 1) := by decide +kernel
theorem d_Q_add_1 : decode prog_3_method_2_code 1 = .ok (.getfield 24, 3) := by decide +kernel
theorem d_Q_add_4 : decode prog_3_method_2_code 4 = .ok (.bipush 60, 2) := by decide +kernel
theorem d_Q_add_6 : decode prog_3_method_2_code 6 = .ok (.if_icmp .lt 5, 3) := by decide +kernel
theorem d_Q_add_9 : decode prog_3_method_2_code 9 = .ok (.iconst (-1), 1) := by decide +kernel
theorem d_Q_add_10 : decode prog_3_method_2_code 10 = .ok (.ireturn, 1) := by decide +kernel
theorem d_Q_add_11 : decode prog_3_method_2_code 11 = .ok (.aload_n 0, 1) := by decide +kernel
theorem d_Q_add_12 : decode prog_3_method_2_code 12 = .ok (.dup, 1) := by decide +kernel
theorem d_Q_add_13 : decode prog_3_method_2_code 13 = .ok (.getfield 24, 3) := by decide +kernel
theorem d_Q_add_16 : decode prog_3_method_2_code 16 = .ok (.iconst 1, 1) := by decide +kernel
theorem d_Q_add_17 : decode prog_3_method_2_code 17 = .ok (.iadd, 1) := by decide +kernel
theorem d_Q_add_18 : decode prog_3_method_2_code 18 = .ok (.putfield 24, 3) := by decide +kernel
theorem d_Q_add_21 : decode prog_3_method_2_code 21 = .ok (.aload_n 0, 1) := by decide +kernel
theorem d_Q_add_22 : decode prog_3_method_2_code 22 = .ok (.getfield 15, 3) := by decide +kernel
theorem d_Q_add_25 : decode prog_3_method_2_code 25 = .ok (.aload_n 0, 1) := by decide +kernel
theorem d_Q_add_26 : decode prog_3_method_2_code 26 = .ok (.getfield 24, 3) := by decide +kernel
theorem d_Q_add_29 : decode prog_3_method_2_code 29 = .ok (.iload_n 1, 1) := by decide +kernel
theorem d_Q_add_30 : decode prog_3_method_2_code 30 = .ok (.iastore, 1) := by decide +kernel
theorem d_Q_add_31 : decode prog_3_method_2_code 31 = .ok (.aload_n 0, 1) := by decide +kernel
theorem d_Q_add_32 : decode prog_3_method_2_code 32 = .ok (.getfield 18, 3) := by decide +kernel
theorem d_Q_add_35 : decode prog_3_method_2_code 35 = .ok (.aload_n 0, 1) := by decide +kernel
theorem d_Q_add_36 : decode prog_3_method_2_code 36 = .ok (.getfield 24, 3) := by decide +kernel
theorem d_Q_add_39 : decode prog_3_method_2_code 39 = .ok (.iload_n 2, 1) := by decide +kernel
theorem d_Q_add_40 : decode prog_3_method_2_code 40 = .ok (.iastore, 1) := by decide +kernel
theorem d_Q_add_41 : decode prog_3_method_2_code 41 = .ok (.aload_n 0, 1) := by decide +kernel
theorem d_Q_add_42 : decode prog_3_method_2_code 42 = .ok (.getfield 21, 3) := by decide +kernel
theorem d_Q_add_45 : decode prog_3_method_2_code 45 = .ok (.aload_n 0, 1) := by decide +kernel
theorem d_Q_add_46 : decode prog_3_method_2_code 46 = .ok (.getfield 24, 3) := by decide +kernel
theorem d_Q_add_49 : decode prog_3_method_2_code 49 = .ok (.iload_n 3, 1) := by decide +kernel
theorem d_Q_add_50 : decode prog_3_method_2_code 50 = .ok (.iastore, 1) := by decide +kernel
theorem d_Q_add_51 : decode prog_3_method_2_code 51 = .ok (.aload_n 0, 1) := by decide +kernel
theorem d_Q_add_52 : decode prog_3_method_2_code 52 = .ok (.getfield 9, 3) := by decide +kernel
theorem d_Q_add_55 : decode prog_3_method_2_code 55 = .ok (.aload_n 0, 1) := by decide +kernel
theorem d_Q_add_56 : decode prog_3_method_2_code 56 = .ok (.getfield 24, 3) := by decide +kernel
theorem d_Q_add_59 : decode prog_3_method_2_code 59 = .ok (.iload 4, 2) := by decide +kernel
theorem d_Q_add_61 : decode prog_3_method_2_code 61 = .ok (.ifCond .eq 7, 3) := by decide +kernel
theorem d_Q_add_64 : decode prog_3_method_2_code 64 = .ok (.iconst 2, 1) := by decide +kernel
theorem d_Q_add_65 : decode prog_3_method_2_code 65 = .ok (.goto 4, 3) := by decide +kernel
theorem d_Q_add_68 : decode prog_3_method_2_code 68 = .ok (.iconst 0, 1) := by decide +kernel
theorem d_Q_add_69 : decode prog_3_method_2_code 69 = .ok (.iastore, 1) := by decide +kernel
theorem d_Q_add_70 : decode prog_3_method_2_code 70 = .ok (.aload_n 0, 1) := by decide +kernel
theorem d_Q_add_71 : decode prog_3_method_2_code 71 = .ok (.getfield 24, 3) := by decide +kernel
theorem d_Q_add_74 : decode prog_3_method_2_code 74 = .ok (.ireturn, 1) := by decide +kernel
theorem d_Q_firstOnItsWayTo_0 : decode prog_3_method_3_code 0 = .ok (.iconst 1, 1) := by decide +kernel
theorem d_Q_firstOnItsWayTo_1 : decode prog_3_method_3_code 1 = .ok (.istore_n 2, 1) := by decide +kernel
theorem d_Q_firstOnItsWayTo_2 : decode prog_3_method_3_code 2 = .ok (.iload_n 2, 1) := by decide +kernel
theorem d_Q_firstOnItsWayTo_3 : decode prog_3_method_3_code 3 = .ok (.aload_n 0, 1) := by decide +kernel
theorem d_Q_firstOnItsWayTo_4 : decode prog_3_method_3_code 4 = .ok (.getfield 24, 3) := by decide +kernel
theorem d_Q_firstOnItsWayTo_7 : decode prog_3_method_3_code 7 = .ok (.if_icmp .gt 30, 3) := by decide +kernel
theorem d_Q_firstOnItsWayTo_10 : decode prog_3_method_3_code 10 = .ok (.aload_n 0, 1) := by decide +kernel
theorem d_Q_firstOnItsWayTo_11 : decode prog_3_method_3_code 11 = .ok (.getfield 18, 3) := by decide +kernel
theorem d_Q_firstOnItsWayTo_14 : decode prog_3_method_3_code 14 = .ok (.iload_n 2, 1) := by decide +kernel
theorem d_Q_firstOnItsWayTo_15 : decode prog_3_method_3_code 15 = .ok (.iaload, 1) := by decide +kernel
theorem d_Q_firstOnItsWayTo_16 : decode prog_3_method_3_code 16 = .ok (.iload_n 1, 1) := by decide +kernel
theorem d_Q_firstOnItsWayTo_17 : decode prog_3_method_3_code 17 = .ok (.if_icmp .ne 14, 3) := by decide +kernel
theorem d_Q_firstOnItsWayTo_20 : decode prog_3_method_3_code 20 = .ok (.aload_n 0, 1) := by decide +kernel
theorem d_Q_firstOnItsWayTo_21 : decode prog_3_method_3_code 21 = .ok (.getfield 9, 3) := by decide +kernel
theorem d_Q_firstOnItsWayTo_24 : decode prog_3_method_3_code 24 = .ok (.iload_n 2, 1) := by decide +kernel
theorem d_Q_firstOnItsWayTo_25 : decode prog_3_method_3_code 25 = .ok (.iaload, 1) := by decide +kernel
theorem d_Q_firstOnItsWayTo_26 : decode prog_3_method_3_code 26 = .ok (.ifCond .ne 5, 3) := by decide +kernel
theorem d_Q_firstOnItsWayTo_29 : decode prog_3_method_3_code 29 = .ok (.iload_n 2, 1) := by decide +kernel
theorem d_Q_firstOnItsWayTo_30 : decode prog_3_method_3_code 30 = .ok (.ireturn, 1) := by decide +kernel
theorem d_Q_firstOnItsWayTo_31 : decode prog_3_method_3_code 31 = .ok (.iinc 2 1, 3) := by decide +kernel
theorem d_Q_firstOnItsWayTo_34 : decode prog_3_method_3_code 34 = .ok (.goto (-32), 3) := by decide +kernel
theorem d_Q_firstOnItsWayTo_37 : decode prog_3_method_3_code 37 = .ok (.iconst (-1), 1) := by decide +kernel
theorem d_Q_firstOnItsWayTo_38 : decode prog_3_method_3_code 38 = .ok (.ireturn, 1) := by decide +kernel
theorem d_Q_onTheirWay_0 : decode prog_3_method_4_code 0 = .ok (.iconst 0, 1) := by decide +kernel
theorem d_Q_onTheirWay_1 : decode prog_3_method_4_code 1 = .ok (.istore_n 1, 1) := by decide +kernel
theorem d_Q_onTheirWay_2 : decode prog_3_method_4_code 2 = .ok (.iconst 1, 1) := by decide +kernel
theorem d_Q_onTheirWay_3 : decode prog_3_method_4_code 3 = .ok (.istore_n 2, 1) := by decide +kernel
theorem d_Q_onTheirWay_4 : decode prog_3_method_4_code 4 = .ok (.iload_n 2, 1) := by decide +kernel
theorem d_Q_onTheirWay_5 : decode prog_3_method_4_code 5 = .ok (.aload_n 0, 1) := by decide +kernel
theorem d_Q_onTheirWay_6 : decode prog_3_method_4_code 6 = .ok (.getfield 24, 3) := by decide +kernel
theorem d_Q_onTheirWay_9 : decode prog_3_method_4_code 9 = .ok (.if_icmp .gt 21, 3) := by decide +kernel
theorem d_Q_onTheirWay_12 : decode prog_3_method_4_code 12 = .ok (.aload_n 0, 1) := by decide +kernel
theorem d_Q_onTheirWay_13 : decode prog_3_method_4_code 13 = .ok (.getfield 9, 3) := by decide +kernel
theorem d_Q_onTheirWay_16 : decode prog_3_method_4_code 16 = .ok (.iload_n 2, 1) := by decide +kernel
theorem d_Q_onTheirWay_17 : decode prog_3_method_4_code 17 = .ok (.iaload, 1) := by decide +kernel
theorem d_Q_onTheirWay_18 : decode prog_3_method_4_code 18 = .ok (.ifCond .ne 6, 3) := by decide +kernel
theorem d_Q_onTheirWay_21 : decode prog_3_method_4_code 21 = .ok (.iinc 1 1, 3) := by decide +kernel
theorem d_Q_onTheirWay_24 : decode prog_3_method_4_code 24 = .ok (.iinc 2 1, 3) := by decide +kernel
theorem d_Q_onTheirWay_27 : decode prog_3_method_4_code 27 = .ok (.goto (-23), 3) := by decide +kernel
theorem d_Q_onTheirWay_30 : decode prog_3_method_4_code 30 = .ok (.iload_n 1, 1) := by decide +kernel
theorem d_Q_onTheirWay_31 : decode prog_3_method_4_code 31 = .ok (.ireturn, 1) := by decide +kernel
