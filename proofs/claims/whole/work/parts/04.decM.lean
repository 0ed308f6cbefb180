theorem d_M_init_0 : decode prog_5_method_1_code 0 = .ok (.aload_n 0, 1) := by decide +kernel
theorem d_M_init_1 : decode prog_5_method_1_code 1 = .ok (.invokespecial 1, 3) := by decide +kernel
theorem d_M_init_4 : decode prog_5_method_1_code 4 = .ok (.aload_n 0, 1) := by decide +kernel
theorem d_M_init_5 : decode prog_5_method_1_code 5 = .ok (.bipush 8, 2) := by decide +kernel
theorem d_M_init_7 : decode prog_5_method_1_code 7 = .ok (.newarray .int, 2) := by decide +kernel
theorem d_M_init_9 : decode prog_5_method_1_code 9 = .ok (.putfield 7, 3) := by decide +kernel
theorem d_M_init_12 : decode prog_5_method_1_code 12 = .ok (.aload_n 0, 1) := by decide +kernel
theorem d_M_init_13 : decode prog_5_method_1_code 13 = .ok (.bipush 8, 2) := by decide +kernel
theorem d_M_init_15 : decode prog_5_method_1_code 15 = .ok (.newarray .int, 2) := by decide +kernel
theorem d_M_init_17 : decode prog_5_method_1_code 17 = .ok (.putfield 13, 3) := by decide +kernel
theorem d_M_init_20 : decode prog_5_method_1_code 20 = .ok (.aload_n 0, 1) := by decide +kernel
theorem d_M_init_21 : decode prog_5_method_1_code 21 = .ok (.bipush 6, 2) := by decide +kernel
theorem d_M_init_23 : decode prog_5_method_1_code 23 = .ok (.newarray .int, 2) := by decide +kernel
theorem d_M_init_25 : decode prog_5_method_1_code 25 = .ok (.putfield 16, 3) := by decide +kernel
theorem d_M_init_28 : decode prog_5_method_1_code 28 = .ok (.aload_n 0, 1) := by decide +kernel
theorem d_M_init_29 : decode prog_5_method_1_code 29 = .ok (.bipush 6, 2) := by decide +kernel
theorem d_M_init_31 : decode prog_5_method_1_code 31 = .ok (.newarray .int, 2) := by decide +kernel
theorem d_M_init_33 : decode prog_5_method_1_code 33 = .ok (.putfield 19, 3) := by decide +kernel
theorem d_M_init_36 : decode prog_5_method_1_code 36 = .ok (.aload_n 0, 1) := by decide +kernel
theorem d_M_init_37 : decode prog_5_method_1_code 37 = .ok (.bipush 6, 2) := by decide +kernel
theorem d_M_init_39 : decode prog_5_method_1_code 39 = .ok (.newarray .int, 2) := by decide +kernel
theorem d_M_init_41 : decode prog_5_method_1_code 41 = .ok (.putfield 22, 3) := by decide +kernel
theorem d_M_init_44 : decode prog_5_method_1_code 44 = .ok (.aload_n 0, 1) := by decide +kernel
theorem d_M_init_45 : decode prog_5_method_1_code 45 = .ok (.bipush 6, 2) := by decide +kernel
theorem d_M_init_47 : decode prog_5_method_1_code 47 = .ok (.newarray .int, 2) := by decide +kernel
theorem d_M_init_49 : decode prog_5_method_1_code 49 = .ok (.putfield 25, 3) := by decide +kernel
theorem d_M_init_52 : decode prog_5_method_1_code 52 = .ok (.aload_n 0, 1) := by decide +kernel
theorem d_M_init_53 : decode prog_5_method_1_code 53 = .ok (.bipush 6, 2) := by decide +kernel
theorem d_M_init_55 : decode prog_5_method_1_code 55 = .ok (.newarray .int, 2) := by decide +kernel
theorem d_M_init_57 : decode prog_5_method_1_code 57 = .ok (.putfield 28, 3) := by decide +kernel
theorem d_M_init_60 : decode prog_5_method_1_code 60 = .ok (.aload_n 0, 1) := by decide +kernel
theorem d_M_init_61 : decode prog_5_method_1_code 61 = .ok (.bipush 6, 2) := by decide +kernel
theorem d_M_init_63 : decode prog_5_method_1_code 63 = .ok (.newarray .int, 2) := by decide +kernel
theorem d_M_init_65 : decode prog_5_method_1_code 65 = .ok (.putfield 31, 3) := by decide +kernel
theorem d_M_init_68 : decode prog_5_method_1_code 68 = .ok (.aload_n 0, 1) := by decide +kernel
theorem d_M_init_69 : decode prog_5_method_1_code 69 = .ok (.bipush 60, 2) := by decide +kernel
theorem d_M_init_71 : decode prog_5_method_1_code 71 = .ok (.newarray .int, 2) := by decide +kernel
theorem d_M_init_73 : decode prog_5_method_1_code 73 = .ok (.putfield 34, 3) := by decide +kernel
theorem d_M_init_76 : decode prog_5_method_1_code 76 = .ok (.aload_n 0, 1) := by decide +kernel
theorem d_M_init_77 : decode prog_5_method_1_code 77 = .ok (.bipush 60, 2) := by decide +kernel
theorem d_M_init_79 : decode prog_5_method_1_code 79 = .ok (.newarray .int, 2) := by decide +kernel
theorem d_M_init_81 : decode prog_5_method_1_code 81 = .ok (.putfield 37, 3) := by decide +kernel
theorem d_M_init_84 : decode prog_5_method_1_code 84 = .ok (.aload_n 0, 1) := by decide +kernel
theorem d_M_init_85 : decode prog_5_method_1_code 85 = .ok (.bipush 60, 2) := by decide +kernel
theorem d_M_init_87 : decode prog_5_method_1_code 87 = .ok (.newarray .int, 2) := by decide +kernel
theorem d_M_init_89 : decode prog_5_method_1_code 89 = .ok (.putfield 40, 3) := by decide +kernel
theorem d_M_init_92 : decode prog_5_method_1_code 92 = .ok (.aload_n 0, 1) := by decide +kernel
theorem d_M_init_93 : decode prog_5_method_1_code 93 = .ok (.bipush 60, 2) := by decide +kernel
theorem d_M_init_95 : decode prog_5_method_1_code 95 = .ok (.newarray .boolean, 2) := by decide +kernel
theorem d_M_init_97 : decode prog_5_method_1_code 97 = .ok (.putfield 43, 3) := by decide +kernel
theorem d_M_init_100 : decode prog_5_method_1_code 100 = .ok (.aload_n 0, 1) := by decide +kernel
theorem d_M_init_101 : decode prog_5_method_1_code 101 = .ok (.bipush 60, 2) := by decide +kernel
theorem d_M_init_103 : decode prog_5_method_1_code 103 = .ok (.newarray .int, 2) := by decide +kernel
theorem d_M_init_105 : decode prog_5_method_1_code 105 = .ok (.putfield 47, 3) := by decide +kernel
theorem d_M_init_108 : decode prog_5_method_1_code 108 = .ok (.aload_n 0, 1) := by decide +kernel
theorem d_M_init_109 : decode prog_5_method_1_code 109 = .ok (.bipush 61, 2) := by decide +kernel
theorem d_M_init_111 : decode prog_5_method_1_code 111 = .ok (.newarray .int, 2) := by decide +kernel
theorem d_M_init_113 : decode prog_5_method_1_code 113 = .ok (.putfield 50, 3) := by decide +kernel
theorem d_M_init_116 : decode prog_5_method_1_code 116 = .ok (.aload_n 0, 1) := by decide +kernel
theorem d_M_init_117 : decode prog_5_method_1_code 117 = .ok (.bipush 61, 2) := by decide +kernel
theorem d_M_init_119 : decode prog_5_method_1_code 119 = .ok (.newarray .int, 2) := by decide +kernel
theorem d_M_init_121 : decode prog_5_method_1_code 121 = .ok (.putfield 53, 3) := by decide +kernel
theorem d_M_init_124 : decode prog_5_method_1_code 124 = .ok (.aload_n 0, 1) := by decide +kernel
theorem d_M_init_125 : decode prog_5_method_1_code 125 = .ok (.bipush 61, 2) := by decide +kernel
theorem d_M_init_127 : decode prog_5_method_1_code 127 = .ok (.newarray .int, 2) := by decide +kernel
theorem d_M_init_129 : decode prog_5_method_1_code 129 = .ok (.putfield 56, 3) := by decide +kernel
theorem d_M_init_132 : decode prog_5_method_1_code 132 = .ok (.aload_n 0, 1) := by decide +kernel
theorem d_M_init_133 : decode prog_5_method_1_code 133 = .ok (.bipush 61, 2) := by decide +kernel
theorem d_M_init_135 : decode prog_5_method_1_code 135 = .ok (.newarray .int, 2) := by decide +kernel
theorem d_M_init_137 : decode prog_5_method_1_code 137 = .ok (.putfield 59, 3) := by decide +kernel
theorem d_M_init_140 : decode prog_5_method_1_code 140 = .ok (.aload_n 0, 1) := by decide +kernel
theorem d_M_init_141 : decode prog_5_method_1_code 141 = .ok (.sipush 400, 3) := by decide +kernel
theorem d_M_init_144 : decode prog_5_method_1_code 144 = .ok (.newarray .int, 2) := by decide +kernel
theorem d_M_init_146 : decode prog_5_method_1_code 146 = .ok (.putfield 62, 3) := by decide +kernel
theorem d_M_init_149 : decode prog_5_method_1_code 149 = .ok (.iconst 0, 1) := by decide +kernel
theorem d_M_init_150 : decode prog_5_method_1_code 150 = .ok (.istore_n 1, 1) := by decide +kernel
theorem d_M_init_151 : decode prog_5_method_1_code 151 = .ok (.iload_n 1, 1) := by decide +kernel
theorem d_M_init_152 : decode prog_5_method_1_code 152 = .ok (.bipush 8, 2) := by decide +kernel
theorem d_M_init_154 : decode prog_5_method_1_code 154 = .ok (.if_icmp .ge 16, 3) := by decide +kernel
theorem d_M_init_157 : decode prog_5_method_1_code 157 = .ok (.aload_n 0, 1) := by decide +kernel
theorem d_M_init_158 : decode prog_5_method_1_code 158 = .ok (.getfield 13, 3) := by decide +kernel
theorem d_M_init_161 : decode prog_5_method_1_code 161 = .ok (.iload_n 1, 1) := by decide +kernel
theorem d_M_init_162 : decode prog_5_method_1_code 162 = .ok (.iconst (-1), 1) := by decide +kernel
theorem d_M_init_163 : decode prog_5_method_1_code 163 = .ok (.iastore, 1) := by decide +kernel
theorem d_M_init_164 : decode prog_5_method_1_code 164 = .ok (.iinc 1 1, 3) := by decide +kernel
theorem d_M_init_167 : decode prog_5_method_1_code 167 = .ok (.goto (-16), 3) := by decide +kernel
theorem d_M_init_170 : decode prog_5_method_1_code 170 = .ok (.return_, 1) := by decide +kernel
theorem d_M_thrown_0 : decode prog_5_method_2_code 0 = .ok (.aload_n 0, 1) := by decide +kernel
theorem d_M_thrown_1 : decode prog_5_method_2_code 1 = .ok (.getfield 65, 3) := by decide +kernel
theorem d_M_thrown_4 : decode prog_5_method_2_code 4 = .ok (.ireturn, 1) := by decide +kernel
theorem d_M_in_0 : decode prog_5_method_3_code 0 = .ok (.iload_n 0, 1) := by decide +kernel
theorem d_M_in_1 : decode prog_5_method_3_code 1 = .ok (.iload_n 1, 1) := by decide +kernel
theorem d_M_in_2 : decode prog_5_method_3_code 2 = .ok (.if_icmp .lt 12, 3) := by decide +kernel
theorem d_M_in_5 : decode prog_5_method_3_code 5 = .ok (.iload_n 0, 1) := by decide +kernel
theorem d_M_in_6 : decode prog_5_method_3_code 6 = .ok (.iload_n 2, 1) := by decide +kernel
theorem d_M_in_7 : decode prog_5_method_3_code 7 = .ok (.if_icmp .gt 7, 3) := by decide +kernel
theorem d_M_in_10 : decode prog_5_method_3_code 10 = .ok (.iconst 1, 1) := by decide +kernel
theorem d_M_in_11 : decode prog_5_method_3_code 11 = .ok (.goto 4, 3) := by decide +kernel
theorem d_M_in_14 : decode prog_5_method_3_code 14 = .ok (.iconst 0, 1) := by decide +kernel
theorem d_M_in_15 : decode prog_5_method_3_code 15 = .ok (.ireturn, 1) := by decide +kernel
theorem d_M_isPart_0 : decode prog_5_method_4_code 0 = .ok (.iload_n 1, 1) := by decide +kernel
theorem d_M_isPart_1 : decode prog_5_method_4_code 1 = .ok (.iconst 0, 1) := by decide +kernel
theorem d_M_isPart_2 : decode prog_5_method_4_code 2 = .ok (.aload_n 0, 1) := by decide +kernel
theorem d_M_isPart_3 : decode prog_5_method_4_code 3 = .ok (.getfield 69, 3) := by decide +kernel
theorem d_M_isPart_6 : decode prog_5_method_4_code 6 = .ok (.iconst 1, 1) := by decide +kernel
theorem d_M_isPart_7 : decode prog_5_method_4_code 7 = .ok (.isub, 1) := by decide +kernel
theorem d_M_isPart_8 : decode prog_5_method_4_code 8 = .ok (.invokestatic 72, 3) := by decide +kernel
theorem d_M_isPart_11 : decode prog_5_method_4_code 11 = .ok (.ireturn, 1) := by decide +kernel
theorem d_M_isMessage_0 : decode prog_5_method_5_code 0 = .ok (.iload_n 1, 1) := by decide +kernel
theorem d_M_isMessage_1 : decode prog_5_method_5_code 1 = .ok (.iconst 1, 1) := by decide +kernel
theorem d_M_isMessage_2 : decode prog_5_method_5_code 2 = .ok (.aload_n 0, 1) := by decide +kernel
theorem d_M_isMessage_3 : decode prog_5_method_5_code 3 = .ok (.getfield 76, 3) := by decide +kernel
theorem d_M_isMessage_6 : decode prog_5_method_5_code 6 = .ok (.invokestatic 72, 3) := by decide +kernel
theorem d_M_isMessage_9 : decode prog_5_method_5_code 9 = .ok (.ireturn, 1) := by decide +kernel
theorem d_M_part_0 : decode prog_5_method_6_code 0 = .ok (.aload_n 0, 1) := by decide +kernel
theorem d_M_part_1 : decode prog_5_method_6_code 1 = .ok (.iload_n 1, 1) := by decide +kernel
theorem d_M_part_2 : decode prog_5_method_6_code 2 = .ok (.iconst 0, 1) := by decide +kernel
theorem d_M_part_3 : decode prog_5_method_6_code 3 = .ok (.bipush 9, 2) := by decide +kernel
theorem d_M_part_5 : decode prog_5_method_6_code 5 = .ok (.invokestatic 72, 3) := by decide +kernel
theorem d_M_part_8 : decode prog_5_method_6_code 8 = .ok (.ifCond .ne 7, 3) := by decide +kernel
theorem d_M_part_11 : decode prog_5_method_6_code 11 = .ok (.iconst 1, 1) := by decide +kernel
theorem d_M_part_12 : decode prog_5_method_6_code 12 = .ok (.goto 17, 3) := by decide +kernel
theorem d_M_part_15 : decode prog_5_method_6_code 15 = .ok (.aload_n 0, 1) := by decide +kernel
theorem d_M_part_16 : decode prog_5_method_6_code 16 = .ok (.getfield 69, 3) := by decide +kernel
theorem d_M_part_19 : decode prog_5_method_6_code 19 = .ok (.bipush 6, 2) := by decide +kernel
theorem d_M_part_21 : decode prog_5_method_6_code 21 = .ok (.if_icmp .ne 7, 3) := by decide +kernel
theorem d_M_part_24 : decode prog_5_method_6_code 24 = .ok (.iconst 2, 1) := by decide +kernel
theorem d_M_part_25 : decode prog_5_method_6_code 25 = .ok (.goto 4, 3) := by decide +kernel
theorem d_M_part_28 : decode prog_5_method_6_code 28 = .ok (.iconst 0, 1) := by decide +kernel
theorem d_M_part_29 : decode prog_5_method_6_code 29 = .ok (.putfield 65, 3) := by decide +kernel
theorem d_M_part_32 : decode prog_5_method_6_code 32 = .ok (.aload_n 0, 1) := by decide +kernel
theorem d_M_part_33 : decode prog_5_method_6_code 33 = .ok (.getfield 65, 3) := by decide +kernel
theorem d_M_part_36 : decode prog_5_method_6_code 36 = .ok (.ifCond .le 5, 3) := by decide +kernel
theorem d_M_part_39 : decode prog_5_method_6_code 39 = .ok (.iconst 0, 1) := by decide +kernel
theorem d_M_part_40 : decode prog_5_method_6_code 40 = .ok (.ireturn, 1) := by decide +kernel
theorem d_M_part_41 : decode prog_5_method_6_code 41 = .ok (.aload_n 0, 1) := by decide +kernel
theorem d_M_part_42 : decode prog_5_method_6_code 42 = .ok (.getfield 16, 3) := by decide +kernel
theorem d_M_part_45 : decode prog_5_method_6_code 45 = .ok (.aload_n 0, 1) := by decide +kernel
theorem d_M_part_46 : decode prog_5_method_6_code 46 = .ok (.getfield 69, 3) := by decide +kernel
theorem d_M_part_49 : decode prog_5_method_6_code 49 = .ok (.iload_n 1, 1) := by decide +kernel
theorem d_M_part_50 : decode prog_5_method_6_code 50 = .ok (.iastore, 1) := by decide +kernel
theorem d_M_part_51 : decode prog_5_method_6_code 51 = .ok (.aload_n 0, 1) := by decide +kernel
theorem d_M_part_52 : decode prog_5_method_6_code 52 = .ok (.getfield 28, 3) := by decide +kernel
theorem d_M_part_55 : decode prog_5_method_6_code 55 = .ok (.aload_n 0, 1) := by decide +kernel
theorem d_M_part_56 : decode prog_5_method_6_code 56 = .ok (.getfield 69, 3) := by decide +kernel
theorem d_M_part_59 : decode prog_5_method_6_code 59 = .ok (.iconst (-1), 1) := by decide +kernel
theorem d_M_part_60 : decode prog_5_method_6_code 60 = .ok (.iastore, 1) := by decide +kernel
theorem d_M_part_61 : decode prog_5_method_6_code 61 = .ok (.aload_n 0, 1) := by decide +kernel
theorem d_M_part_62 : decode prog_5_method_6_code 62 = .ok (.dup, 1) := by decide +kernel
theorem d_M_part_63 : decode prog_5_method_6_code 63 = .ok (.getfield 69, 3) := by decide +kernel
theorem d_M_part_66 : decode prog_5_method_6_code 66 = .ok (.iconst 1, 1) := by decide +kernel
theorem d_M_part_67 : decode prog_5_method_6_code 67 = .ok (.iadd, 1) := by decide +kernel
theorem d_M_part_68 : decode prog_5_method_6_code 68 = .ok (.putfield 69, 3) := by decide +kernel
theorem d_M_part_71 : decode prog_5_method_6_code 71 = .ok (.aload_n 0, 1) := by decide +kernel
theorem d_M_part_72 : decode prog_5_method_6_code 72 = .ok (.getfield 69, 3) := by decide +kernel
theorem d_M_part_75 : decode prog_5_method_6_code 75 = .ok (.iconst 1, 1) := by decide +kernel
theorem d_M_part_76 : decode prog_5_method_6_code 76 = .ok (.isub, 1) := by decide +kernel
theorem d_M_part_77 : decode prog_5_method_6_code 77 = .ok (.ireturn, 1) := by decide +kernel
theorem d_M_isStep_0 : decode prog_5_method_7_code 0 = .ok (.iload_n 1, 1) := by decide +kernel
theorem d_M_isStep_1 : decode prog_5_method_7_code 1 = .ok (.iconst 0, 1) := by decide +kernel
theorem d_M_isStep_2 : decode prog_5_method_7_code 2 = .ok (.iconst 2, 1) := by decide +kernel
theorem d_M_isStep_3 : decode prog_5_method_7_code 3 = .ok (.invokestatic 72, 3) := by decide +kernel
theorem d_M_isStep_6 : decode prog_5_method_7_code 6 = .ok (.ifCond .eq 23, 3) := by decide +kernel
theorem d_M_isStep_9 : decode prog_5_method_7_code 9 = .ok (.iload_n 3, 1) := by decide +kernel
theorem d_M_isStep_10 : decode prog_5_method_7_code 10 = .ok (.bipush (-99), 2) := by decide +kernel
theorem d_M_isStep_12 : decode prog_5_method_7_code 12 = .ok (.bipush 99, 2) := by decide +kernel
theorem d_M_isStep_14 : decode prog_5_method_7_code 14 = .ok (.invokestatic 72, 3) := by decide +kernel
theorem d_M_isStep_17 : decode prog_5_method_7_code 17 = .ok (.ifCond .eq 12, 3) := by decide +kernel
theorem d_M_isStep_20 : decode prog_5_method_7_code 20 = .ok (.iload_n 1, 1) := by decide +kernel
theorem d_M_isStep_21 : decode prog_5_method_7_code 21 = .ok (.iconst 2, 1) := by decide +kernel
theorem d_M_isStep_22 : decode prog_5_method_7_code 22 = .ok (.if_icmp .ne 9, 3) := by decide +kernel
theorem d_M_isStep_25 : decode prog_5_method_7_code 25 = .ok (.iload_n 3, 1) := by decide +kernel
theorem d_M_isStep_26 : decode prog_5_method_7_code 26 = .ok (.ifCond .eq 5, 3) := by decide +kernel
theorem d_M_isStep_29 : decode prog_5_method_7_code 29 = .ok (.iconst 0, 1) := by decide +kernel
theorem d_M_isStep_30 : decode prog_5_method_7_code 30 = .ok (.ireturn, 1) := by decide +kernel
theorem d_M_isStep_31 : decode prog_5_method_7_code 31 = .ok (.iload_n 1, 1) := by decide +kernel
theorem d_M_isStep_32 : decode prog_5_method_7_code 32 = .ok (.iconst 1, 1) := by decide +kernel
theorem d_M_isStep_33 : decode prog_5_method_7_code 33 = .ok (.if_icmp .ne 11, 3) := by decide +kernel
theorem d_M_isStep_36 : decode prog_5_method_7_code 36 = .ok (.aload_n 0, 1) := by decide +kernel
theorem d_M_isStep_37 : decode prog_5_method_7_code 37 = .ok (.iload_n 2, 1) := by decide +kernel
theorem d_M_isStep_38 : decode prog_5_method_7_code 38 = .ok (.invokevirtual 79, 3) := by decide +kernel
theorem d_M_isStep_41 : decode prog_5_method_7_code 41 = .ok (.goto 10, 3) := by decide +kernel
theorem d_M_isStep_44 : decode prog_5_method_7_code 44 = .ok (.iload_n 2, 1) := by decide +kernel
theorem d_M_isStep_45 : decode prog_5_method_7_code 45 = .ok (.iconst 0, 1) := by decide +kernel
theorem d_M_isStep_46 : decode prog_5_method_7_code 46 = .ok (.bipush 7, 2) := by decide +kernel
theorem d_M_isStep_48 : decode prog_5_method_7_code 48 = .ok (.invokestatic 72, 3) := by decide +kernel
theorem d_M_isStep_51 : decode prog_5_method_7_code 51 = .ok (.ireturn, 1) := by decide +kernel
theorem d_M_step_0 : decode prog_5_method_8_code 0 = .ok (.aload_n 0, 1) := by decide +kernel
theorem d_M_step_1 : decode prog_5_method_8_code 1 = .ok (.aload_n 0, 1) := by decide +kernel
theorem d_M_step_2 : decode prog_5_method_8_code 2 = .ok (.iload_n 1, 1) := by decide +kernel
theorem d_M_step_3 : decode prog_5_method_8_code 3 = .ok (.invokevirtual 79, 3) := by decide +kernel
theorem d_M_step_6 : decode prog_5_method_8_code 6 = .ok (.ifCond .ne 7, 3) := by decide +kernel
theorem d_M_step_9 : decode prog_5_method_8_code 9 = .ok (.iconst 1, 1) := by decide +kernel
theorem d_M_step_10 : decode prog_5_method_8_code 10 = .ok (.goto 19, 3) := by decide +kernel
theorem d_M_step_13 : decode prog_5_method_8_code 13 = .ok (.aload_n 0, 1) := by decide +kernel
theorem d_M_step_14 : decode prog_5_method_8_code 14 = .ok (.iload_n 2, 1) := by decide +kernel
theorem d_M_step_15 : decode prog_5_method_8_code 15 = .ok (.iload_n 3, 1) := by decide +kernel
theorem d_M_step_16 : decode prog_5_method_8_code 16 = .ok (.iload 4, 2) := by decide +kernel
theorem d_M_step_18 : decode prog_5_method_8_code 18 = .ok (.invokevirtual 83, 3) := by decide +kernel
theorem d_M_step_21 : decode prog_5_method_8_code 21 = .ok (.ifCond .ne 7, 3) := by decide +kernel
theorem d_M_step_24 : decode prog_5_method_8_code 24 = .ok (.iconst 2, 1) := by decide +kernel
theorem d_M_step_25 : decode prog_5_method_8_code 25 = .ok (.goto 4, 3) := by decide +kernel
theorem d_M_step_28 : decode prog_5_method_8_code 28 = .ok (.iconst 0, 1) := by decide +kernel
theorem d_M_step_29 : decode prog_5_method_8_code 29 = .ok (.putfield 65, 3) := by decide +kernel
theorem d_M_step_32 : decode prog_5_method_8_code 32 = .ok (.aload_n 0, 1) := by decide +kernel
theorem d_M_step_33 : decode prog_5_method_8_code 33 = .ok (.getfield 65, 3) := by decide +kernel
theorem d_M_step_36 : decode prog_5_method_8_code 36 = .ok (.ifCond .ne 45, 3) := by decide +kernel
theorem d_M_step_39 : decode prog_5_method_8_code 39 = .ok (.aload_n 0, 1) := by decide +kernel
theorem d_M_step_40 : decode prog_5_method_8_code 40 = .ok (.aload_n 0, 1) := by decide +kernel
theorem d_M_step_41 : decode prog_5_method_8_code 41 = .ok (.getfield 25, 3) := by decide +kernel
theorem d_M_step_44 : decode prog_5_method_8_code 44 = .ok (.iload_n 1, 1) := by decide +kernel
theorem d_M_step_45 : decode prog_5_method_8_code 45 = .ok (.iaload, 1) := by decide +kernel
theorem d_M_step_46 : decode prog_5_method_8_code 46 = .ok (.ifCond .ne 12, 3) := by decide +kernel
theorem d_M_step_49 : decode prog_5_method_8_code 49 = .ok (.aload_n 0, 1) := by decide +kernel
theorem d_M_step_50 : decode prog_5_method_8_code 50 = .ok (.getfield 19, 3) := by decide +kernel
theorem d_M_step_53 : decode prog_5_method_8_code 53 = .ok (.iload_n 1, 1) := by decide +kernel
theorem d_M_step_54 : decode prog_5_method_8_code 54 = .ok (.iaload, 1) := by decide +kernel
theorem d_M_step_55 : decode prog_5_method_8_code 55 = .ok (.ifCond .eq 7, 3) := by decide +kernel
theorem d_M_step_58 : decode prog_5_method_8_code 58 = .ok (.iconst 3, 1) := by decide +kernel
theorem d_M_step_59 : decode prog_5_method_8_code 59 = .ok (.goto 19, 3) := by decide +kernel
theorem d_M_step_62 : decode prog_5_method_8_code 62 = .ok (.aload_n 0, 1) := by decide +kernel
theorem d_M_step_63 : decode prog_5_method_8_code 63 = .ok (.getfield 22, 3) := by decide +kernel
theorem d_M_step_66 : decode prog_5_method_8_code 66 = .ok (.iload_n 1, 1) := by decide +kernel
theorem d_M_step_67 : decode prog_5_method_8_code 67 = .ok (.iaload, 1) := by decide +kernel
theorem d_M_step_68 : decode prog_5_method_8_code 68 = .ok (.bipush 10, 2) := by decide +kernel
theorem d_M_step_70 : decode prog_5_method_8_code 70 = .ok (.if_icmp .ne 7, 3) := by decide +kernel
theorem d_M_step_73 : decode prog_5_method_8_code 73 = .ok (.iconst 4, 1) := by decide +kernel
theorem d_M_step_74 : decode prog_5_method_8_code 74 = .ok (.goto 4, 3) := by decide +kernel
theorem d_M_step_77 : decode prog_5_method_8_code 77 = .ok (.iconst 0, 1) := by decide +kernel
theorem d_M_step_78 : decode prog_5_method_8_code 78 = .ok (.putfield 65, 3) := by decide +kernel
theorem d_M_step_81 : decode prog_5_method_8_code 81 = .ok (.aload_n 0, 1) := by decide +kernel
theorem d_M_step_82 : decode prog_5_method_8_code 82 = .ok (.getfield 65, 3) := by decide +kernel
theorem d_M_step_85 : decode prog_5_method_8_code 85 = .ok (.ifCond .le 5, 3) := by decide +kernel
theorem d_M_step_88 : decode prog_5_method_8_code 88 = .ok (.iconst 0, 1) := by decide +kernel
theorem d_M_step_89 : decode prog_5_method_8_code 89 = .ok (.ireturn, 1) := by decide +kernel
theorem d_M_step_90 : decode prog_5_method_8_code 90 = .ok (.bipush 10, 2) := by decide +kernel
theorem d_M_step_92 : decode prog_5_method_8_code 92 = .ok (.iload_n 1, 1) := by decide +kernel
theorem d_M_step_93 : decode prog_5_method_8_code 93 = .ok (.imul, 1) := by decide +kernel
theorem d_M_step_94 : decode prog_5_method_8_code 94 = .ok (.aload_n 0, 1) := by decide +kernel
theorem d_M_step_95 : decode prog_5_method_8_code 95 = .ok (.getfield 22, 3) := by decide +kernel
theorem d_M_step_98 : decode prog_5_method_8_code 98 = .ok (.iload_n 1, 1) := by decide +kernel
theorem d_M_step_99 : decode prog_5_method_8_code 99 = .ok (.iaload, 1) := by decide +kernel
theorem d_M_step_100 : decode prog_5_method_8_code 100 = .ok (.iadd, 1) := by decide +kernel
theorem d_M_step_101 : decode prog_5_method_8_code 101 = .ok (.istore 5, 2) := by decide +kernel
theorem d_M_step_103 : decode prog_5_method_8_code 103 = .ok (.aload_n 0, 1) := by decide +kernel
theorem d_M_step_104 : decode prog_5_method_8_code 104 = .ok (.getfield 34, 3) := by decide +kernel
theorem d_M_step_107 : decode prog_5_method_8_code 107 = .ok (.iload 5, 2) := by decide +kernel
theorem d_M_step_109 : decode prog_5_method_8_code 109 = .ok (.iload_n 2, 1) := by decide +kernel
theorem d_M_step_110 : decode prog_5_method_8_code 110 = .ok (.iastore, 1) := by decide +kernel
theorem d_M_step_111 : decode prog_5_method_8_code 111 = .ok (.aload_n 0, 1) := by decide +kernel
theorem d_M_step_112 : decode prog_5_method_8_code 112 = .ok (.getfield 37, 3) := by decide +kernel
theorem d_M_step_115 : decode prog_5_method_8_code 115 = .ok (.iload 5, 2) := by decide +kernel
theorem d_M_step_117 : decode prog_5_method_8_code 117 = .ok (.iload_n 3, 1) := by decide +kernel
theorem d_M_step_118 : decode prog_5_method_8_code 118 = .ok (.iastore, 1) := by decide +kernel
theorem d_M_step_119 : decode prog_5_method_8_code 119 = .ok (.aload_n 0, 1) := by decide +kernel
theorem d_M_step_120 : decode prog_5_method_8_code 120 = .ok (.getfield 40, 3) := by decide +kernel
theorem d_M_step_123 : decode prog_5_method_8_code 123 = .ok (.iload 5, 2) := by decide +kernel
theorem d_M_step_125 : decode prog_5_method_8_code 125 = .ok (.iload 4, 2) := by decide +kernel
theorem d_M_step_127 : decode prog_5_method_8_code 127 = .ok (.iastore, 1) := by decide +kernel
theorem d_M_step_128 : decode prog_5_method_8_code 128 = .ok (.aload_n 0, 1) := by decide +kernel
theorem d_M_step_129 : decode prog_5_method_8_code 129 = .ok (.getfield 22, 3) := by decide +kernel
theorem d_M_step_132 : decode prog_5_method_8_code 132 = .ok (.iload_n 1, 1) := by decide +kernel
theorem d_M_step_133 : decode prog_5_method_8_code 133 = .ok (.dup2, 1) := by decide +kernel
theorem d_M_step_134 : decode prog_5_method_8_code 134 = .ok (.iaload, 1) := by decide +kernel
theorem d_M_step_135 : decode prog_5_method_8_code 135 = .ok (.iconst 1, 1) := by decide +kernel
theorem d_M_step_136 : decode prog_5_method_8_code 136 = .ok (.iadd, 1) := by decide +kernel
theorem d_M_step_137 : decode prog_5_method_8_code 137 = .ok (.iastore, 1) := by decide +kernel
theorem d_M_step_138 : decode prog_5_method_8_code 138 = .ok (.aload_n 0, 1) := by decide +kernel
theorem d_M_step_139 : decode prog_5_method_8_code 139 = .ok (.getfield 22, 3) := by decide +kernel
theorem d_M_step_142 : decode prog_5_method_8_code 142 = .ok (.iload_n 1, 1) := by decide +kernel
theorem d_M_step_143 : decode prog_5_method_8_code 143 = .ok (.iaload, 1) := by decide +kernel
theorem d_M_step_144 : decode prog_5_method_8_code 144 = .ok (.ireturn, 1) := by decide +kernel
theorem d_M_fails_0 : decode prog_5_method_9_code 0 = .ok (.aload_n 0, 1) := by decide +kernel
theorem d_M_fails_1 : decode prog_5_method_9_code 1 = .ok (.aload_n 0, 1) := by decide +kernel
theorem d_M_fails_2 : decode prog_5_method_9_code 2 = .ok (.iload_n 1, 1) := by decide +kernel
theorem d_M_fails_3 : decode prog_5_method_9_code 3 = .ok (.invokevirtual 79, 3) := by decide +kernel
theorem d_M_fails_6 : decode prog_5_method_9_code 6 = .ok (.ifCond .ne 7, 3) := by decide +kernel
theorem d_M_fails_9 : decode prog_5_method_9_code 9 = .ok (.iconst 1, 1) := by decide +kernel
theorem d_M_fails_10 : decode prog_5_method_9_code 10 = .ok (.goto 4, 3) := by decide +kernel
theorem d_M_fails_13 : decode prog_5_method_9_code 13 = .ok (.iconst 0, 1) := by decide +kernel
theorem d_M_fails_14 : decode prog_5_method_9_code 14 = .ok (.putfield 65, 3) := by decide +kernel
theorem d_M_fails_17 : decode prog_5_method_9_code 17 = .ok (.aload_n 0, 1) := by decide +kernel
theorem d_M_fails_18 : decode prog_5_method_9_code 18 = .ok (.getfield 65, 3) := by decide +kernel
theorem d_M_fails_21 : decode prog_5_method_9_code 21 = .ok (.ifCond .ne 28, 3) := by decide +kernel
theorem d_M_fails_24 : decode prog_5_method_9_code 24 = .ok (.aload_n 0, 1) := by decide +kernel
theorem d_M_fails_25 : decode prog_5_method_9_code 25 = .ok (.iload_n 2, 1) := by decide +kernel
theorem d_M_fails_26 : decode prog_5_method_9_code 26 = .ok (.iconst 0, 1) := by decide +kernel
theorem d_M_fails_27 : decode prog_5_method_9_code 27 = .ok (.aload_n 0, 1) := by decide +kernel
theorem d_M_fails_28 : decode prog_5_method_9_code 28 = .ok (.getfield 22, 3) := by decide +kernel
theorem d_M_fails_31 : decode prog_5_method_9_code 31 = .ok (.iload_n 1, 1) := by decide +kernel
theorem d_M_fails_32 : decode prog_5_method_9_code 32 = .ok (.iaload, 1) := by decide +kernel
theorem d_M_fails_33 : decode prog_5_method_9_code 33 = .ok (.iconst 1, 1) := by decide +kernel
theorem d_M_fails_34 : decode prog_5_method_9_code 34 = .ok (.isub, 1) := by decide +kernel
theorem d_M_fails_35 : decode prog_5_method_9_code 35 = .ok (.invokestatic 72, 3) := by decide +kernel
theorem d_M_fails_38 : decode prog_5_method_9_code 38 = .ok (.ifCond .eq 7, 3) := by decide +kernel
theorem d_M_fails_41 : decode prog_5_method_9_code 41 = .ok (.iconst 0, 1) := by decide +kernel
theorem d_M_fails_42 : decode prog_5_method_9_code 42 = .ok (.goto 4, 3) := by decide +kernel
theorem d_M_fails_45 : decode prog_5_method_9_code 45 = .ok (.iconst 2, 1) := by decide +kernel
theorem d_M_fails_46 : decode prog_5_method_9_code 46 = .ok (.putfield 65, 3) := by decide +kernel
theorem d_M_fails_49 : decode prog_5_method_9_code 49 = .ok (.aload_n 0, 1) := by decide +kernel
theorem d_M_fails_50 : decode prog_5_method_9_code 50 = .ok (.getfield 65, 3) := by decide +kernel
theorem d_M_fails_53 : decode prog_5_method_9_code 53 = .ok (.ifCond .ne 15, 3) := by decide +kernel
theorem d_M_fails_56 : decode prog_5_method_9_code 56 = .ok (.aload_n 0, 1) := by decide +kernel
theorem d_M_fails_57 : decode prog_5_method_9_code 57 = .ok (.getfield 43, 3) := by decide +kernel
theorem d_M_fails_60 : decode prog_5_method_9_code 60 = .ok (.bipush 10, 2) := by decide +kernel
theorem d_M_fails_62 : decode prog_5_method_9_code 62 = .ok (.iload_n 1, 1) := by decide +kernel
theorem d_M_fails_63 : decode prog_5_method_9_code 63 = .ok (.imul, 1) := by decide +kernel
theorem d_M_fails_64 : decode prog_5_method_9_code 64 = .ok (.iload_n 2, 1) := by decide +kernel
theorem d_M_fails_65 : decode prog_5_method_9_code 65 = .ok (.iadd, 1) := by decide +kernel
theorem d_M_fails_66 : decode prog_5_method_9_code 66 = .ok (.iload_n 3, 1) := by decide +kernel
theorem d_M_fails_67 : decode prog_5_method_9_code 67 = .ok (.bastore, 1) := by decide +kernel
theorem d_M_fails_68 : decode prog_5_method_9_code 68 = .ok (.return_, 1) := by decide +kernel
theorem d_M_losing_0 : decode prog_5_method_10_code 0 = .ok (.aload_n 0, 1) := by decide +kernel
theorem d_M_losing_1 : decode prog_5_method_10_code 1 = .ok (.iconst 0, 1) := by decide +kernel
theorem d_M_losing_2 : decode prog_5_method_10_code 2 = .ok (.putfield 65, 3) := by decide +kernel
theorem d_M_losing_5 : decode prog_5_method_10_code 5 = .ok (.aload_n 0, 1) := by decide +kernel
theorem d_M_losing_6 : decode prog_5_method_10_code 6 = .ok (.iload_n 1, 1) := by decide +kernel
theorem d_M_losing_7 : decode prog_5_method_10_code 7 = .ok (.putfield 86, 3) := by decide +kernel
theorem d_M_losing_10 : decode prog_5_method_10_code 10 = .ok (.return_, 1) := by decide +kernel
theorem d_M_release_0 : decode prog_5_method_11_code 0 = .ok (.iconst 0, 1) := by decide +kernel
theorem d_M_release_1 : decode prog_5_method_11_code 1 = .ok (.istore_n 2, 1) := by decide +kernel
theorem d_M_release_2 : decode prog_5_method_11_code 2 = .ok (.iload_n 2, 1) := by decide +kernel
theorem d_M_release_3 : decode prog_5_method_11_code 3 = .ok (.bipush 8, 2) := by decide +kernel
theorem d_M_release_5 : decode prog_5_method_11_code 5 = .ok (.if_icmp .ge 26, 3) := by decide +kernel
theorem d_M_release_8 : decode prog_5_method_11_code 8 = .ok (.aload_n 0, 1) := by decide +kernel
theorem d_M_release_9 : decode prog_5_method_11_code 9 = .ok (.getfield 13, 3) := by decide +kernel
theorem d_M_release_12 : decode prog_5_method_11_code 12 = .ok (.iload_n 2, 1) := by decide +kernel
theorem d_M_release_13 : decode prog_5_method_11_code 13 = .ok (.iaload, 1) := by decide +kernel
theorem d_M_release_14 : decode prog_5_method_11_code 14 = .ok (.iload_n 1, 1) := by decide +kernel
theorem d_M_release_15 : decode prog_5_method_11_code 15 = .ok (.if_icmp .ne 10, 3) := by decide +kernel
theorem d_M_release_18 : decode prog_5_method_11_code 18 = .ok (.aload_n 0, 1) := by decide +kernel
theorem d_M_release_19 : decode prog_5_method_11_code 19 = .ok (.getfield 13, 3) := by decide +kernel
theorem d_M_release_22 : decode prog_5_method_11_code 22 = .ok (.iload_n 2, 1) := by decide +kernel
theorem d_M_release_23 : decode prog_5_method_11_code 23 = .ok (.iconst (-1), 1) := by decide +kernel
theorem d_M_release_24 : decode prog_5_method_11_code 24 = .ok (.iastore, 1) := by decide +kernel
theorem d_M_release_25 : decode prog_5_method_11_code 25 = .ok (.iinc 2 1, 3) := by decide +kernel
theorem d_M_release_28 : decode prog_5_method_11_code 28 = .ok (.goto (-26), 3) := by decide +kernel
theorem d_M_release_31 : decode prog_5_method_11_code 31 = .ok (.return_, 1) := by decide +kernel
theorem d_M_undo_0 : decode prog_5_method_12_code 0 = .ok (.aload_n 0, 1) := by decide +kernel
theorem d_M_undo_1 : decode prog_5_method_12_code 1 = .ok (.getfield 25, 3) := by decide +kernel
theorem d_M_undo_4 : decode prog_5_method_12_code 4 = .ok (.iload_n 1, 1) := by decide +kernel
theorem d_M_undo_5 : decode prog_5_method_12_code 5 = .ok (.iaload, 1) := by decide +kernel
theorem d_M_undo_6 : decode prog_5_method_12_code 6 = .ok (.iconst 1, 1) := by decide +kernel
theorem d_M_undo_7 : decode prog_5_method_12_code 7 = .ok (.isub, 1) := by decide +kernel
theorem d_M_undo_8 : decode prog_5_method_12_code 8 = .ok (.istore_n 3, 1) := by decide +kernel
theorem d_M_undo_9 : decode prog_5_method_12_code 9 = .ok (.iload_n 3, 1) := by decide +kernel
theorem d_M_undo_10 : decode prog_5_method_12_code 10 = .ok (.ifCond .lt 123, 3) := by decide +kernel
theorem d_M_undo_13 : decode prog_5_method_12_code 13 = .ok (.bipush 10, 2) := by decide +kernel
theorem d_M_undo_15 : decode prog_5_method_12_code 15 = .ok (.iload_n 1, 1) := by decide +kernel
theorem d_M_undo_16 : decode prog_5_method_12_code 16 = .ok (.imul, 1) := by decide +kernel
theorem d_M_undo_17 : decode prog_5_method_12_code 17 = .ok (.iload_n 3, 1) := by decide +kernel
theorem d_M_undo_18 : decode prog_5_method_12_code 18 = .ok (.iadd, 1) := by decide +kernel
theorem d_M_undo_19 : decode prog_5_method_12_code 19 = .ok (.istore 4, 2) := by decide +kernel
theorem d_M_undo_21 : decode prog_5_method_12_code 21 = .ok (.aload_n 0, 1) := by decide +kernel
theorem d_M_undo_22 : decode prog_5_method_12_code 22 = .ok (.getfield 47, 3) := by decide +kernel
theorem d_M_undo_25 : decode prog_5_method_12_code 25 = .ok (.iload 4, 2) := by decide +kernel
theorem d_M_undo_27 : decode prog_5_method_12_code 27 = .ok (.iaload, 1) := by decide +kernel
theorem d_M_undo_28 : decode prog_5_method_12_code 28 = .ok (.istore 5, 2) := by decide +kernel
theorem d_M_undo_30 : decode prog_5_method_12_code 30 = .ok (.aload_n 0, 1) := by decide +kernel
theorem d_M_undo_31 : decode prog_5_method_12_code 31 = .ok (.getfield 34, 3) := by decide +kernel
theorem d_M_undo_34 : decode prog_5_method_12_code 34 = .ok (.iload 4, 2) := by decide +kernel
theorem d_M_undo_36 : decode prog_5_method_12_code 36 = .ok (.iaload, 1) := by decide +kernel
theorem d_M_undo_37 : decode prog_5_method_12_code 37 = .ok (.ifCond .ne 28, 3) := by decide +kernel
theorem d_M_undo_40 : decode prog_5_method_12_code 40 = .ok (.aload_n 0, 1) := by decide +kernel
theorem d_M_undo_41 : decode prog_5_method_12_code 41 = .ok (.getfield 7, 3) := by decide +kernel
theorem d_M_undo_44 : decode prog_5_method_12_code 44 = .ok (.aload_n 0, 1) := by decide +kernel
theorem d_M_undo_45 : decode prog_5_method_12_code 45 = .ok (.getfield 37, 3) := by decide +kernel
theorem d_M_undo_48 : decode prog_5_method_12_code 48 = .ok (.iload 4, 2) := by decide +kernel
theorem d_M_undo_50 : decode prog_5_method_12_code 50 = .ok (.iaload, 1) := by decide +kernel
theorem d_M_undo_51 : decode prog_5_method_12_code 51 = .ok (.dup2, 1) := by decide +kernel
theorem d_M_undo_52 : decode prog_5_method_12_code 52 = .ok (.iaload, 1) := by decide +kernel
theorem d_M_undo_53 : decode prog_5_method_12_code 53 = .ok (.aload_n 0, 1) := by decide +kernel
theorem d_M_undo_54 : decode prog_5_method_12_code 54 = .ok (.getfield 40, 3) := by decide +kernel
theorem d_M_undo_57 : decode prog_5_method_12_code 57 = .ok (.iload 4, 2) := by decide +kernel
theorem d_M_undo_59 : decode prog_5_method_12_code 59 = .ok (.iaload, 1) := by decide +kernel
theorem d_M_undo_60 : decode prog_5_method_12_code 60 = .ok (.isub, 1) := by decide +kernel
theorem d_M_undo_61 : decode prog_5_method_12_code 61 = .ok (.iastore, 1) := by decide +kernel
theorem d_M_undo_62 : decode prog_5_method_12_code 62 = .ok (.goto 65, 3) := by decide +kernel
theorem d_M_undo_65 : decode prog_5_method_12_code 65 = .ok (.aload_n 0, 1) := by decide +kernel
theorem d_M_undo_66 : decode prog_5_method_12_code 66 = .ok (.getfield 34, 3) := by decide +kernel
theorem d_M_undo_69 : decode prog_5_method_12_code 69 = .ok (.iload 4, 2) := by decide +kernel
theorem d_M_undo_71 : decode prog_5_method_12_code 71 = .ok (.iaload, 1) := by decide +kernel
theorem d_M_undo_72 : decode prog_5_method_12_code 72 = .ok (.iconst 1, 1) := by decide +kernel
theorem d_M_undo_73 : decode prog_5_method_12_code 73 = .ok (.if_icmp .ne 24, 3) := by decide +kernel
theorem d_M_undo_76 : decode prog_5_method_12_code 76 = .ok (.aload_n 0, 1) := by decide +kernel
theorem d_M_undo_77 : decode prog_5_method_12_code 77 = .ok (.getfield 50, 3) := by decide +kernel
theorem d_M_undo_80 : decode prog_5_method_12_code 80 = .ok (.iload 5, 2) := by decide +kernel
theorem d_M_undo_82 : decode prog_5_method_12_code 82 = .ok (.iaload, 1) := by decide +kernel
theorem d_M_undo_83 : decode prog_5_method_12_code 83 = .ok (.ifCond .ne 44, 3) := by decide +kernel
theorem d_M_undo_86 : decode prog_5_method_12_code 86 = .ok (.aload_n 0, 1) := by decide +kernel
theorem d_M_undo_87 : decode prog_5_method_12_code 87 = .ok (.getfield 50, 3) := by decide +kernel
theorem d_M_undo_90 : decode prog_5_method_12_code 90 = .ok (.iload 5, 2) := by decide +kernel
theorem d_M_undo_92 : decode prog_5_method_12_code 92 = .ok (.iconst 3, 1) := by decide +kernel
theorem d_M_undo_93 : decode prog_5_method_12_code 93 = .ok (.iastore, 1) := by decide +kernel
theorem d_M_undo_94 : decode prog_5_method_12_code 94 = .ok (.goto 33, 3) := by decide +kernel
theorem d_M_undo_97 : decode prog_5_method_12_code 97 = .ok (.aload_n 0, 1) := by decide +kernel
theorem d_M_undo_98 : decode prog_5_method_12_code 98 = .ok (.getfield 7, 3) := by decide +kernel
theorem d_M_undo_101 : decode prog_5_method_12_code 101 = .ok (.aload_n 0, 1) := by decide +kernel
theorem d_M_undo_102 : decode prog_5_method_12_code 102 = .ok (.getfield 37, 3) := by decide +kernel
theorem d_M_undo_105 : decode prog_5_method_12_code 105 = .ok (.iload 4, 2) := by decide +kernel
theorem d_M_undo_107 : decode prog_5_method_12_code 107 = .ok (.iaload, 1) := by decide +kernel
theorem d_M_undo_108 : decode prog_5_method_12_code 108 = .ok (.dup2, 1) := by decide +kernel
theorem d_M_undo_109 : decode prog_5_method_12_code 109 = .ok (.iaload, 1) := by decide +kernel
theorem d_M_undo_110 : decode prog_5_method_12_code 110 = .ok (.aload_n 0, 1) := by decide +kernel
theorem d_M_undo_111 : decode prog_5_method_12_code 111 = .ok (.getfield 59, 3) := by decide +kernel
theorem d_M_undo_114 : decode prog_5_method_12_code 114 = .ok (.iload 5, 2) := by decide +kernel
theorem d_M_undo_116 : decode prog_5_method_12_code 116 = .ok (.iaload, 1) := by decide +kernel
theorem d_M_undo_117 : decode prog_5_method_12_code 117 = .ok (.isub, 1) := by decide +kernel
theorem d_M_undo_118 : decode prog_5_method_12_code 118 = .ok (.iastore, 1) := by decide +kernel
theorem d_M_undo_119 : decode prog_5_method_12_code 119 = .ok (.aload_n 0, 1) := by decide +kernel
theorem d_M_undo_120 : decode prog_5_method_12_code 120 = .ok (.getfield 50, 3) := by decide +kernel
theorem d_M_undo_123 : decode prog_5_method_12_code 123 = .ok (.iload 5, 2) := by decide +kernel
theorem d_M_undo_125 : decode prog_5_method_12_code 125 = .ok (.iconst 0, 1) := by decide +kernel
theorem d_M_undo_126 : decode prog_5_method_12_code 126 = .ok (.iastore, 1) := by decide +kernel
theorem d_M_undo_127 : decode prog_5_method_12_code 127 = .ok (.iinc 3 (-1), 3) := by decide +kernel
theorem d_M_undo_130 : decode prog_5_method_12_code 130 = .ok (.goto (-121), 3) := by decide +kernel
theorem d_M_undo_133 : decode prog_5_method_12_code 133 = .ok (.aload_n 0, 1) := by decide +kernel
theorem d_M_undo_134 : decode prog_5_method_12_code 134 = .ok (.iload_n 1, 1) := by decide +kernel
theorem d_M_undo_135 : decode prog_5_method_12_code 135 = .ok (.invokevirtual 90, 3) := by decide +kernel
theorem d_M_undo_138 : decode prog_5_method_12_code 138 = .ok (.aload_n 0, 1) := by decide +kernel
theorem d_M_undo_139 : decode prog_5_method_12_code 139 = .ok (.getfield 25, 3) := by decide +kernel
theorem d_M_undo_142 : decode prog_5_method_12_code 142 = .ok (.iload_n 1, 1) := by decide +kernel
theorem d_M_undo_143 : decode prog_5_method_12_code 143 = .ok (.iconst 0, 1) := by decide +kernel
theorem d_M_undo_144 : decode prog_5_method_12_code 144 = .ok (.iastore, 1) := by decide +kernel
theorem d_M_undo_145 : decode prog_5_method_12_code 145 = .ok (.aload_n 0, 1) := by decide +kernel
theorem d_M_undo_146 : decode prog_5_method_12_code 146 = .ok (.getfield 28, 3) := by decide +kernel
theorem d_M_undo_149 : decode prog_5_method_12_code 149 = .ok (.iload_n 1, 1) := by decide +kernel
theorem d_M_undo_150 : decode prog_5_method_12_code 150 = .ok (.iconst (-1), 1) := by decide +kernel
theorem d_M_undo_151 : decode prog_5_method_12_code 151 = .ok (.iastore, 1) := by decide +kernel
theorem d_M_undo_152 : decode prog_5_method_12_code 152 = .ok (.aload_n 0, 1) := by decide +kernel
theorem d_M_undo_153 : decode prog_5_method_12_code 153 = .ok (.getfield 19, 3) := by decide +kernel
theorem d_M_undo_156 : decode prog_5_method_12_code 156 = .ok (.iload_n 1, 1) := by decide +kernel
theorem d_M_undo_157 : decode prog_5_method_12_code 157 = .ok (.iload_n 2, 1) := by decide +kernel
theorem d_M_undo_158 : decode prog_5_method_12_code 158 = .ok (.iastore, 1) := by decide +kernel
theorem d_M_undo_159 : decode prog_5_method_12_code 159 = .ok (.aload_n 0, 1) := by decide +kernel
theorem d_M_undo_160 : decode prog_5_method_12_code 160 = .ok (.getfield 31, 3) := by decide +kernel
theorem d_M_undo_163 : decode prog_5_method_12_code 163 = .ok (.iload_n 1, 1) := by decide +kernel
theorem d_M_undo_164 : decode prog_5_method_12_code 164 = .ok (.dup2, 1) := by decide +kernel
theorem d_M_undo_165 : decode prog_5_method_12_code 165 = .ok (.iaload, 1) := by decide +kernel
theorem d_M_undo_166 : decode prog_5_method_12_code 166 = .ok (.iconst 1, 1) := by decide +kernel
theorem d_M_undo_167 : decode prog_5_method_12_code 167 = .ok (.iadd, 1) := by decide +kernel
theorem d_M_undo_168 : decode prog_5_method_12_code 168 = .ok (.iastore, 1) := by decide +kernel
theorem d_M_undo_169 : decode prog_5_method_12_code 169 = .ok (.return_, 1) := by decide +kernel
theorem d_M_breakRing_0 : decode prog_5_method_13_code 0 = .ok (.iload_n 1, 1) := by decide +kernel
theorem d_M_breakRing_1 : decode prog_5_method_13_code 1 = .ok (.istore_n 2, 1) := by decide +kernel
theorem d_M_breakRing_2 : decode prog_5_method_13_code 2 = .ok (.aload_n 0, 1) := by decide +kernel
theorem d_M_breakRing_3 : decode prog_5_method_13_code 3 = .ok (.getfield 13, 3) := by decide +kernel
theorem d_M_breakRing_6 : decode prog_5_method_13_code 6 = .ok (.aload_n 0, 1) := by decide +kernel
theorem d_M_breakRing_7 : decode prog_5_method_13_code 7 = .ok (.getfield 28, 3) := by decide +kernel
theorem d_M_breakRing_10 : decode prog_5_method_13_code 10 = .ok (.iload_n 1, 1) := by decide +kernel
theorem d_M_breakRing_11 : decode prog_5_method_13_code 11 = .ok (.iaload, 1) := by decide +kernel
theorem d_M_breakRing_12 : decode prog_5_method_13_code 12 = .ok (.iaload, 1) := by decide +kernel
theorem d_M_breakRing_13 : decode prog_5_method_13_code 13 = .ok (.istore_n 3, 1) := by decide +kernel
theorem d_M_breakRing_14 : decode prog_5_method_13_code 14 = .ok (.iconst 0, 1) := by decide +kernel
theorem d_M_breakRing_15 : decode prog_5_method_13_code 15 = .ok (.istore 4, 2) := by decide +kernel
theorem d_M_breakRing_17 : decode prog_5_method_13_code 17 = .ok (.iload 4, 2) := by decide +kernel
theorem d_M_breakRing_19 : decode prog_5_method_13_code 19 = .ok (.bipush 6, 2) := by decide +kernel
theorem d_M_breakRing_21 : decode prog_5_method_13_code 21 = .ok (.if_icmp .ge 82, 3) := by decide +kernel
theorem d_M_breakRing_24 : decode prog_5_method_13_code 24 = .ok (.iload_n 3, 1) := by decide +kernel
theorem d_M_breakRing_25 : decode prog_5_method_13_code 25 = .ok (.iconst (-1), 1) := by decide +kernel
theorem d_M_breakRing_26 : decode prog_5_method_13_code 26 = .ok (.if_icmp .eq 77, 3) := by decide +kernel
theorem d_M_breakRing_29 : decode prog_5_method_13_code 29 = .ok (.iload_n 3, 1) := by decide +kernel
theorem d_M_breakRing_30 : decode prog_5_method_13_code 30 = .ok (.iload_n 1, 1) := by decide +kernel
theorem d_M_breakRing_31 : decode prog_5_method_13_code 31 = .ok (.if_icmp .eq 72, 3) := by decide +kernel
theorem d_M_breakRing_34 : decode prog_5_method_13_code 34 = .ok (.aload_n 0, 1) := by decide +kernel
theorem d_M_breakRing_35 : decode prog_5_method_13_code 35 = .ok (.getfield 16, 3) := by decide +kernel
theorem d_M_breakRing_38 : decode prog_5_method_13_code 38 = .ok (.iload_n 3, 1) := by decide +kernel
theorem d_M_breakRing_39 : decode prog_5_method_13_code 39 = .ok (.iaload, 1) := by decide +kernel
theorem d_M_breakRing_40 : decode prog_5_method_13_code 40 = .ok (.aload_n 0, 1) := by decide +kernel
theorem d_M_breakRing_41 : decode prog_5_method_13_code 41 = .ok (.getfield 16, 3) := by decide +kernel
theorem d_M_breakRing_44 : decode prog_5_method_13_code 44 = .ok (.iload_n 2, 1) := by decide +kernel
theorem d_M_breakRing_45 : decode prog_5_method_13_code 45 = .ok (.iaload, 1) := by decide +kernel
theorem d_M_breakRing_46 : decode prog_5_method_13_code 46 = .ok (.if_icmp .lt 23, 3) := by decide +kernel
theorem d_M_breakRing_49 : decode prog_5_method_13_code 49 = .ok (.aload_n 0, 1) := by decide +kernel
theorem d_M_breakRing_50 : decode prog_5_method_13_code 50 = .ok (.getfield 16, 3) := by decide +kernel
theorem d_M_breakRing_53 : decode prog_5_method_13_code 53 = .ok (.iload_n 3, 1) := by decide +kernel
theorem d_M_breakRing_54 : decode prog_5_method_13_code 54 = .ok (.iaload, 1) := by decide +kernel
theorem d_M_breakRing_55 : decode prog_5_method_13_code 55 = .ok (.aload_n 0, 1) := by decide +kernel
theorem d_M_breakRing_56 : decode prog_5_method_13_code 56 = .ok (.getfield 16, 3) := by decide +kernel
theorem d_M_breakRing_59 : decode prog_5_method_13_code 59 = .ok (.iload_n 2, 1) := by decide +kernel
theorem d_M_breakRing_60 : decode prog_5_method_13_code 60 = .ok (.iaload, 1) := by decide +kernel
theorem d_M_breakRing_61 : decode prog_5_method_13_code 61 = .ok (.if_icmp .ne 10, 3) := by decide +kernel
theorem d_M_breakRing_64 : decode prog_5_method_13_code 64 = .ok (.iload_n 3, 1) := by decide +kernel
theorem d_M_breakRing_65 : decode prog_5_method_13_code 65 = .ok (.iload_n 2, 1) := by decide +kernel
theorem d_M_breakRing_66 : decode prog_5_method_13_code 66 = .ok (.if_icmp .le 5, 3) := by decide +kernel
theorem d_M_breakRing_69 : decode prog_5_method_13_code 69 = .ok (.iload_n 3, 1) := by decide +kernel
theorem d_M_breakRing_70 : decode prog_5_method_13_code 70 = .ok (.istore_n 2, 1) := by decide +kernel
theorem d_M_breakRing_71 : decode prog_5_method_13_code 71 = .ok (.aload_n 0, 1) := by decide +kernel
theorem d_M_breakRing_72 : decode prog_5_method_13_code 72 = .ok (.getfield 28, 3) := by decide +kernel
theorem d_M_breakRing_75 : decode prog_5_method_13_code 75 = .ok (.iload_n 3, 1) := by decide +kernel
theorem d_M_breakRing_76 : decode prog_5_method_13_code 76 = .ok (.iaload, 1) := by decide +kernel
theorem d_M_breakRing_77 : decode prog_5_method_13_code 77 = .ok (.iconst (-1), 1) := by decide +kernel
theorem d_M_breakRing_78 : decode prog_5_method_13_code 78 = .ok (.if_icmp .ne 7, 3) := by decide +kernel
theorem d_M_breakRing_81 : decode prog_5_method_13_code 81 = .ok (.iconst (-1), 1) := by decide +kernel
theorem d_M_breakRing_82 : decode prog_5_method_13_code 82 = .ok (.goto 14, 3) := by decide +kernel
theorem d_M_breakRing_85 : decode prog_5_method_13_code 85 = .ok (.aload_n 0, 1) := by decide +kernel
theorem d_M_breakRing_86 : decode prog_5_method_13_code 86 = .ok (.getfield 13, 3) := by decide +kernel
theorem d_M_breakRing_89 : decode prog_5_method_13_code 89 = .ok (.aload_n 0, 1) := by decide +kernel
theorem d_M_breakRing_90 : decode prog_5_method_13_code 90 = .ok (.getfield 28, 3) := by decide +kernel
theorem d_M_breakRing_93 : decode prog_5_method_13_code 93 = .ok (.iload_n 3, 1) := by decide +kernel
theorem d_M_breakRing_94 : decode prog_5_method_13_code 94 = .ok (.iaload, 1) := by decide +kernel
theorem d_M_breakRing_95 : decode prog_5_method_13_code 95 = .ok (.iaload, 1) := by decide +kernel
theorem d_M_breakRing_96 : decode prog_5_method_13_code 96 = .ok (.istore_n 3, 1) := by decide +kernel
theorem d_M_breakRing_97 : decode prog_5_method_13_code 97 = .ok (.iinc 4 1, 3) := by decide +kernel
theorem d_M_breakRing_100 : decode prog_5_method_13_code 100 = .ok (.goto (-83), 3) := by decide +kernel
theorem d_M_breakRing_103 : decode prog_5_method_13_code 103 = .ok (.iload_n 3, 1) := by decide +kernel
theorem d_M_breakRing_104 : decode prog_5_method_13_code 104 = .ok (.iload_n 1, 1) := by decide +kernel
theorem d_M_breakRing_105 : decode prog_5_method_13_code 105 = .ok (.if_icmp .eq 4, 3) := by decide +kernel
theorem d_M_breakRing_108 : decode prog_5_method_13_code 108 = .ok (.return_, 1) := by decide +kernel
theorem d_M_breakRing_109 : decode prog_5_method_13_code 109 = .ok (.aload_n 0, 1) := by decide +kernel
theorem d_M_breakRing_110 : decode prog_5_method_13_code 110 = .ok (.iload_n 2, 1) := by decide +kernel
theorem d_M_breakRing_111 : decode prog_5_method_13_code 111 = .ok (.iconst 0, 1) := by decide +kernel
theorem d_M_breakRing_112 : decode prog_5_method_13_code 112 = .ok (.invokevirtual 94, 3) := by decide +kernel
theorem d_M_breakRing_115 : decode prog_5_method_13_code 115 = .ok (.aload_n 0, 1) := by decide +kernel
theorem d_M_breakRing_116 : decode prog_5_method_13_code 116 = .ok (.dup, 1) := by decide +kernel
theorem d_M_breakRing_117 : decode prog_5_method_13_code 117 = .ok (.getfield 98, 3) := by decide +kernel
theorem d_M_breakRing_120 : decode prog_5_method_13_code 120 = .ok (.iconst 1, 1) := by decide +kernel
theorem d_M_breakRing_121 : decode prog_5_method_13_code 121 = .ok (.iadd, 1) := by decide +kernel
theorem d_M_breakRing_122 : decode prog_5_method_13_code 122 = .ok (.putfield 98, 3) := by decide +kernel
theorem d_M_breakRing_125 : decode prog_5_method_13_code 125 = .ok (.return_, 1) := by decide +kernel
theorem d_M_takes_0 : decode prog_5_method_14_code 0 = .ok (.aload_n 0, 1) := by decide +kernel
theorem d_M_takes_1 : decode prog_5_method_14_code 1 = .ok (.getfield 13, 3) := by decide +kernel
theorem d_M_takes_4 : decode prog_5_method_14_code 4 = .ok (.iload_n 2, 1) := by decide +kernel
theorem d_M_takes_5 : decode prog_5_method_14_code 5 = .ok (.iaload, 1) := by decide +kernel
theorem d_M_takes_6 : decode prog_5_method_14_code 6 = .ok (.iconst (-1), 1) := by decide +kernel
theorem d_M_takes_7 : decode prog_5_method_14_code 7 = .ok (.if_icmp .eq 13, 3) := by decide +kernel
theorem d_M_takes_10 : decode prog_5_method_14_code 10 = .ok (.aload_n 0, 1) := by decide +kernel
theorem d_M_takes_11 : decode prog_5_method_14_code 11 = .ok (.getfield 13, 3) := by decide +kernel
theorem d_M_takes_14 : decode prog_5_method_14_code 14 = .ok (.iload_n 2, 1) := by decide +kernel
theorem d_M_takes_15 : decode prog_5_method_14_code 15 = .ok (.iaload, 1) := by decide +kernel
theorem d_M_takes_16 : decode prog_5_method_14_code 16 = .ok (.iload_n 1, 1) := by decide +kernel
theorem d_M_takes_17 : decode prog_5_method_14_code 17 = .ok (.if_icmp .ne 19, 3) := by decide +kernel
theorem d_M_takes_20 : decode prog_5_method_14_code 20 = .ok (.aload_n 0, 1) := by decide +kernel
theorem d_M_takes_21 : decode prog_5_method_14_code 21 = .ok (.getfield 13, 3) := by decide +kernel
theorem d_M_takes_24 : decode prog_5_method_14_code 24 = .ok (.iload_n 2, 1) := by decide +kernel
theorem d_M_takes_25 : decode prog_5_method_14_code 25 = .ok (.iload_n 1, 1) := by decide +kernel
theorem d_M_takes_26 : decode prog_5_method_14_code 26 = .ok (.iastore, 1) := by decide +kernel
theorem d_M_takes_27 : decode prog_5_method_14_code 27 = .ok (.aload_n 0, 1) := by decide +kernel
theorem d_M_takes_28 : decode prog_5_method_14_code 28 = .ok (.getfield 28, 3) := by decide +kernel
theorem d_M_takes_31 : decode prog_5_method_14_code 31 = .ok (.iload_n 1, 1) := by decide +kernel
theorem d_M_takes_32 : decode prog_5_method_14_code 32 = .ok (.iconst (-1), 1) := by decide +kernel
theorem d_M_takes_33 : decode prog_5_method_14_code 33 = .ok (.iastore, 1) := by decide +kernel
theorem d_M_takes_34 : decode prog_5_method_14_code 34 = .ok (.iconst 1, 1) := by decide +kernel
theorem d_M_takes_35 : decode prog_5_method_14_code 35 = .ok (.ireturn, 1) := by decide +kernel
theorem d_M_takes_36 : decode prog_5_method_14_code 36 = .ok (.aload_n 0, 1) := by decide +kernel
theorem d_M_takes_37 : decode prog_5_method_14_code 37 = .ok (.getfield 19, 3) := by decide +kernel
theorem d_M_takes_40 : decode prog_5_method_14_code 40 = .ok (.iload_n 1, 1) := by decide +kernel
theorem d_M_takes_41 : decode prog_5_method_14_code 41 = .ok (.iconst 1, 1) := by decide +kernel
theorem d_M_takes_42 : decode prog_5_method_14_code 42 = .ok (.iastore, 1) := by decide +kernel
theorem d_M_takes_43 : decode prog_5_method_14_code 43 = .ok (.aload_n 0, 1) := by decide +kernel
theorem d_M_takes_44 : decode prog_5_method_14_code 44 = .ok (.getfield 28, 3) := by decide +kernel
theorem d_M_takes_47 : decode prog_5_method_14_code 47 = .ok (.iload_n 1, 1) := by decide +kernel
theorem d_M_takes_48 : decode prog_5_method_14_code 48 = .ok (.iload_n 2, 1) := by decide +kernel
theorem d_M_takes_49 : decode prog_5_method_14_code 49 = .ok (.iastore, 1) := by decide +kernel
theorem d_M_takes_50 : decode prog_5_method_14_code 50 = .ok (.aload_n 0, 1) := by decide +kernel
theorem d_M_takes_51 : decode prog_5_method_14_code 51 = .ok (.iload_n 1, 1) := by decide +kernel
theorem d_M_takes_52 : decode prog_5_method_14_code 52 = .ok (.invokevirtual 101, 3) := by decide +kernel
theorem d_M_takes_55 : decode prog_5_method_14_code 55 = .ok (.iconst 0, 1) := by decide +kernel
theorem d_M_takes_56 : decode prog_5_method_14_code 56 = .ok (.ireturn, 1) := by decide +kernel
theorem d_M_wasDone_0 : decode prog_5_method_15_code 0 = .ok (.aload_n 0, 1) := by decide +kernel
theorem d_M_wasDone_1 : decode prog_5_method_15_code 1 = .ok (.getfield 104, 3) := by decide +kernel
theorem d_M_wasDone_4 : decode prog_5_method_15_code 4 = .ok (.sipush 400, 3) := by decide +kernel
theorem d_M_wasDone_7 : decode prog_5_method_15_code 7 = .ok (.if_icmp .ge 23, 3) := by decide +kernel
theorem d_M_wasDone_10 : decode prog_5_method_15_code 10 = .ok (.aload_n 0, 1) := by decide +kernel
theorem d_M_wasDone_11 : decode prog_5_method_15_code 11 = .ok (.getfield 62, 3) := by decide +kernel
theorem d_M_wasDone_14 : decode prog_5_method_15_code 14 = .ok (.aload_n 0, 1) := by decide +kernel
theorem d_M_wasDone_15 : decode prog_5_method_15_code 15 = .ok (.getfield 104, 3) := by decide +kernel
theorem d_M_wasDone_18 : decode prog_5_method_15_code 18 = .ok (.bipush 100, 2) := by decide +kernel
theorem d_M_wasDone_20 : decode prog_5_method_15_code 20 = .ok (.iload_n 1, 1) := by decide +kernel
theorem d_M_wasDone_21 : decode prog_5_method_15_code 21 = .ok (.imul, 1) := by decide +kernel
theorem d_M_wasDone_22 : decode prog_5_method_15_code 22 = .ok (.aload_n 0, 1) := by decide +kernel
theorem d_M_wasDone_23 : decode prog_5_method_15_code 23 = .ok (.getfield 25, 3) := by decide +kernel
theorem d_M_wasDone_26 : decode prog_5_method_15_code 26 = .ok (.iload_n 1, 1) := by decide +kernel
theorem d_M_wasDone_27 : decode prog_5_method_15_code 27 = .ok (.iaload, 1) := by decide +kernel
theorem d_M_wasDone_28 : decode prog_5_method_15_code 28 = .ok (.iadd, 1) := by decide +kernel
theorem d_M_wasDone_29 : decode prog_5_method_15_code 29 = .ok (.iastore, 1) := by decide +kernel
theorem d_M_wasDone_30 : decode prog_5_method_15_code 30 = .ok (.aload_n 0, 1) := by decide +kernel
theorem d_M_wasDone_31 : decode prog_5_method_15_code 31 = .ok (.dup, 1) := by decide +kernel
theorem d_M_wasDone_32 : decode prog_5_method_15_code 32 = .ok (.getfield 104, 3) := by decide +kernel
theorem d_M_wasDone_35 : decode prog_5_method_15_code 35 = .ok (.iconst 1, 1) := by decide +kernel
theorem d_M_wasDone_36 : decode prog_5_method_15_code 36 = .ok (.iadd, 1) := by decide +kernel
theorem d_M_wasDone_37 : decode prog_5_method_15_code 37 = .ok (.putfield 104, 3) := by decide +kernel
theorem d_M_wasDone_40 : decode prog_5_method_15_code 40 = .ok (.aload_n 0, 1) := by decide +kernel
theorem d_M_wasDone_41 : decode prog_5_method_15_code 41 = .ok (.getfield 25, 3) := by decide +kernel
theorem d_M_wasDone_44 : decode prog_5_method_15_code 44 = .ok (.iload_n 1, 1) := by decide +kernel
theorem d_M_wasDone_45 : decode prog_5_method_15_code 45 = .ok (.dup2, 1) := by decide +kernel
theorem d_M_wasDone_46 : decode prog_5_method_15_code 46 = .ok (.iaload, 1) := by decide +kernel
theorem d_M_wasDone_47 : decode prog_5_method_15_code 47 = .ok (.iconst 1, 1) := by decide +kernel
theorem d_M_wasDone_48 : decode prog_5_method_15_code 48 = .ok (.iadd, 1) := by decide +kernel
theorem d_M_wasDone_49 : decode prog_5_method_15_code 49 = .ok (.iastore, 1) := by decide +kernel
theorem d_M_wasDone_50 : decode prog_5_method_15_code 50 = .ok (.aload_n 0, 1) := by decide +kernel
theorem d_M_wasDone_51 : decode prog_5_method_15_code 51 = .ok (.getfield 19, 3) := by decide +kernel
theorem d_M_wasDone_54 : decode prog_5_method_15_code 54 = .ok (.iload_n 1, 1) := by decide +kernel
theorem d_M_wasDone_55 : decode prog_5_method_15_code 55 = .ok (.iconst 0, 1) := by decide +kernel
theorem d_M_wasDone_56 : decode prog_5_method_15_code 56 = .ok (.iastore, 1) := by decide +kernel
theorem d_M_wasDone_57 : decode prog_5_method_15_code 57 = .ok (.return_, 1) := by decide +kernel
theorem d_M_send_0 : decode prog_5_method_16_code 0 = .ok (.aload_n 0, 1) := by decide +kernel
theorem d_M_send_1 : decode prog_5_method_16_code 1 = .ok (.getfield 76, 3) := by decide +kernel
theorem d_M_send_4 : decode prog_5_method_16_code 4 = .ok (.bipush 60, 2) := by decide +kernel
theorem d_M_send_6 : decode prog_5_method_16_code 6 = .ok (.if_icmp .ne 10, 3) := by decide +kernel
theorem d_M_send_9 : decode prog_5_method_16_code 9 = .ok (.aload_n 0, 1) := by decide +kernel
theorem d_M_send_10 : decode prog_5_method_16_code 10 = .ok (.iload_n 1, 1) := by decide +kernel
theorem d_M_send_11 : decode prog_5_method_16_code 11 = .ok (.iconst 4, 1) := by decide +kernel
theorem d_M_send_12 : decode prog_5_method_16_code 12 = .ok (.invokevirtual 94, 3) := by decide +kernel
theorem d_M_send_15 : decode prog_5_method_16_code 15 = .ok (.return_, 1) := by decide +kernel
theorem d_M_send_16 : decode prog_5_method_16_code 16 = .ok (.aload_n 0, 1) := by decide +kernel
theorem d_M_send_17 : decode prog_5_method_16_code 17 = .ok (.dup, 1) := by decide +kernel
theorem d_M_send_18 : decode prog_5_method_16_code 18 = .ok (.getfield 76, 3) := by decide +kernel
theorem d_M_send_21 : decode prog_5_method_16_code 21 = .ok (.iconst 1, 1) := by decide +kernel
theorem d_M_send_22 : decode prog_5_method_16_code 22 = .ok (.iadd, 1) := by decide +kernel
theorem d_M_send_23 : decode prog_5_method_16_code 23 = .ok (.putfield 76, 3) := by decide +kernel
theorem d_M_send_26 : decode prog_5_method_16_code 26 = .ok (.aload_n 0, 1) := by decide +kernel
theorem d_M_send_27 : decode prog_5_method_16_code 27 = .ok (.getfield 53, 3) := by decide +kernel
theorem d_M_send_30 : decode prog_5_method_16_code 30 = .ok (.aload_n 0, 1) := by decide +kernel
theorem d_M_send_31 : decode prog_5_method_16_code 31 = .ok (.getfield 76, 3) := by decide +kernel
theorem d_M_send_34 : decode prog_5_method_16_code 34 = .ok (.iload_n 1, 1) := by decide +kernel
theorem d_M_send_35 : decode prog_5_method_16_code 35 = .ok (.iastore, 1) := by decide +kernel
theorem d_M_send_36 : decode prog_5_method_16_code 36 = .ok (.aload_n 0, 1) := by decide +kernel
theorem d_M_send_37 : decode prog_5_method_16_code 37 = .ok (.getfield 56, 3) := by decide +kernel
theorem d_M_send_40 : decode prog_5_method_16_code 40 = .ok (.aload_n 0, 1) := by decide +kernel
theorem d_M_send_41 : decode prog_5_method_16_code 41 = .ok (.getfield 76, 3) := by decide +kernel
theorem d_M_send_44 : decode prog_5_method_16_code 44 = .ok (.aload_n 0, 1) := by decide +kernel
theorem d_M_send_45 : decode prog_5_method_16_code 45 = .ok (.getfield 37, 3) := by decide +kernel
theorem d_M_send_48 : decode prog_5_method_16_code 48 = .ok (.iload_n 2, 1) := by decide +kernel
theorem d_M_send_49 : decode prog_5_method_16_code 49 = .ok (.iaload, 1) := by decide +kernel
theorem d_M_send_50 : decode prog_5_method_16_code 50 = .ok (.iastore, 1) := by decide +kernel
theorem d_M_send_51 : decode prog_5_method_16_code 51 = .ok (.aload_n 0, 1) := by decide +kernel
theorem d_M_send_52 : decode prog_5_method_16_code 52 = .ok (.getfield 59, 3) := by decide +kernel
theorem d_M_send_55 : decode prog_5_method_16_code 55 = .ok (.aload_n 0, 1) := by decide +kernel
theorem d_M_send_56 : decode prog_5_method_16_code 56 = .ok (.getfield 76, 3) := by decide +kernel
theorem d_M_send_59 : decode prog_5_method_16_code 59 = .ok (.aload_n 0, 1) := by decide +kernel
theorem d_M_send_60 : decode prog_5_method_16_code 60 = .ok (.getfield 40, 3) := by decide +kernel
theorem d_M_send_63 : decode prog_5_method_16_code 63 = .ok (.iload_n 2, 1) := by decide +kernel
theorem d_M_send_64 : decode prog_5_method_16_code 64 = .ok (.iaload, 1) := by decide +kernel
theorem d_M_send_65 : decode prog_5_method_16_code 65 = .ok (.iastore, 1) := by decide +kernel
theorem d_M_send_66 : decode prog_5_method_16_code 66 = .ok (.aload_n 0, 1) := by decide +kernel
theorem d_M_send_67 : decode prog_5_method_16_code 67 = .ok (.getfield 50, 3) := by decide +kernel
theorem d_M_send_70 : decode prog_5_method_16_code 70 = .ok (.aload_n 0, 1) := by decide +kernel
theorem d_M_send_71 : decode prog_5_method_16_code 71 = .ok (.getfield 76, 3) := by decide +kernel
theorem d_M_send_74 : decode prog_5_method_16_code 74 = .ok (.aload_n 0, 1) := by decide +kernel
theorem d_M_send_75 : decode prog_5_method_16_code 75 = .ok (.getfield 86, 3) := by decide +kernel
theorem d_M_send_78 : decode prog_5_method_16_code 78 = .ok (.ifCond .eq 7, 3) := by decide +kernel
theorem d_M_send_81 : decode prog_5_method_16_code 81 = .ok (.iconst 2, 1) := by decide +kernel
theorem d_M_send_82 : decode prog_5_method_16_code 82 = .ok (.goto 4, 3) := by decide +kernel
theorem d_M_send_85 : decode prog_5_method_16_code 85 = .ok (.iconst 0, 1) := by decide +kernel
theorem d_M_send_86 : decode prog_5_method_16_code 86 = .ok (.iastore, 1) := by decide +kernel
theorem d_M_send_87 : decode prog_5_method_16_code 87 = .ok (.aload_n 0, 1) := by decide +kernel
theorem d_M_send_88 : decode prog_5_method_16_code 88 = .ok (.getfield 47, 3) := by decide +kernel
theorem d_M_send_91 : decode prog_5_method_16_code 91 = .ok (.iload_n 2, 1) := by decide +kernel
theorem d_M_send_92 : decode prog_5_method_16_code 92 = .ok (.aload_n 0, 1) := by decide +kernel
theorem d_M_send_93 : decode prog_5_method_16_code 93 = .ok (.getfield 76, 3) := by decide +kernel
theorem d_M_send_96 : decode prog_5_method_16_code 96 = .ok (.iastore, 1) := by decide +kernel
theorem d_M_send_97 : decode prog_5_method_16_code 97 = .ok (.aload_n 0, 1) := by decide +kernel
theorem d_M_send_98 : decode prog_5_method_16_code 98 = .ok (.iload_n 1, 1) := by decide +kernel
theorem d_M_send_99 : decode prog_5_method_16_code 99 = .ok (.invokevirtual 107, 3) := by decide +kernel
theorem d_M_send_102 : decode prog_5_method_16_code 102 = .ok (.return_, 1) := by decide +kernel
theorem d_M_hear_0 : decode prog_5_method_17_code 0 = .ok (.iconst 1, 1) := by decide +kernel
theorem d_M_hear_1 : decode prog_5_method_17_code 1 = .ok (.istore_n 3, 1) := by decide +kernel
theorem d_M_hear_2 : decode prog_5_method_17_code 2 = .ok (.iload_n 3, 1) := by decide +kernel
theorem d_M_hear_3 : decode prog_5_method_17_code 3 = .ok (.aload_n 0, 1) := by decide +kernel
theorem d_M_hear_4 : decode prog_5_method_17_code 4 = .ok (.getfield 76, 3) := by decide +kernel
theorem d_M_hear_7 : decode prog_5_method_17_code 7 = .ok (.if_icmp .gt 28, 3) := by decide +kernel
theorem d_M_hear_10 : decode prog_5_method_17_code 10 = .ok (.aload_n 0, 1) := by decide +kernel
theorem d_M_hear_11 : decode prog_5_method_17_code 11 = .ok (.getfield 50, 3) := by decide +kernel
theorem d_M_hear_14 : decode prog_5_method_17_code 14 = .ok (.iload_n 3, 1) := by decide +kernel
theorem d_M_hear_15 : decode prog_5_method_17_code 15 = .ok (.iaload, 1) := by decide +kernel
theorem d_M_hear_16 : decode prog_5_method_17_code 16 = .ok (.ifCond .ne 13, 3) := by decide +kernel
theorem d_M_hear_19 : decode prog_5_method_17_code 19 = .ok (.aload_n 0, 1) := by decide +kernel
theorem d_M_hear_20 : decode prog_5_method_17_code 20 = .ok (.getfield 56, 3) := by decide +kernel
theorem d_M_hear_23 : decode prog_5_method_17_code 23 = .ok (.iload_n 3, 1) := by decide +kernel
theorem d_M_hear_24 : decode prog_5_method_17_code 24 = .ok (.iaload, 1) := by decide +kernel
theorem d_M_hear_25 : decode prog_5_method_17_code 25 = .ok (.iload_n 1, 1) := by decide +kernel
theorem d_M_hear_26 : decode prog_5_method_17_code 26 = .ok (.if_icmp .eq 9, 3) := by decide +kernel
theorem d_M_hear_29 : decode prog_5_method_17_code 29 = .ok (.iinc 3 1, 3) := by decide +kernel
theorem d_M_hear_32 : decode prog_5_method_17_code 32 = .ok (.goto (-30), 3) := by decide +kernel
theorem d_M_hear_35 : decode prog_5_method_17_code 35 = .ok (.iload_n 3, 1) := by decide +kernel
theorem d_M_hear_36 : decode prog_5_method_17_code 36 = .ok (.aload_n 0, 1) := by decide +kernel
theorem d_M_hear_37 : decode prog_5_method_17_code 37 = .ok (.getfield 76, 3) := by decide +kernel
theorem d_M_hear_40 : decode prog_5_method_17_code 40 = .ok (.if_icmp .le 11, 3) := by decide +kernel
theorem d_M_hear_43 : decode prog_5_method_17_code 43 = .ok (.aload_n 0, 1) := by decide +kernel
theorem d_M_hear_44 : decode prog_5_method_17_code 44 = .ok (.getfield 19, 3) := by decide +kernel
theorem d_M_hear_47 : decode prog_5_method_17_code 47 = .ok (.iload_n 1, 1) := by decide +kernel
theorem d_M_hear_48 : decode prog_5_method_17_code 48 = .ok (.iconst 2, 1) := by decide +kernel
theorem d_M_hear_49 : decode prog_5_method_17_code 49 = .ok (.iastore, 1) := by decide +kernel
theorem d_M_hear_50 : decode prog_5_method_17_code 50 = .ok (.return_, 1) := by decide +kernel
theorem d_M_hear_51 : decode prog_5_method_17_code 51 = .ok (.aload_n 0, 1) := by decide +kernel
theorem d_M_hear_52 : decode prog_5_method_17_code 52 = .ok (.getfield 50, 3) := by decide +kernel
theorem d_M_hear_55 : decode prog_5_method_17_code 55 = .ok (.iload_n 3, 1) := by decide +kernel
theorem d_M_hear_56 : decode prog_5_method_17_code 56 = .ok (.iconst 1, 1) := by decide +kernel
theorem d_M_hear_57 : decode prog_5_method_17_code 57 = .ok (.iastore, 1) := by decide +kernel
theorem d_M_hear_58 : decode prog_5_method_17_code 58 = .ok (.aload_n 0, 1) := by decide +kernel
theorem d_M_hear_59 : decode prog_5_method_17_code 59 = .ok (.getfield 7, 3) := by decide +kernel
theorem d_M_hear_62 : decode prog_5_method_17_code 62 = .ok (.aload_n 0, 1) := by decide +kernel
theorem d_M_hear_63 : decode prog_5_method_17_code 63 = .ok (.getfield 37, 3) := by decide +kernel
theorem d_M_hear_66 : decode prog_5_method_17_code 66 = .ok (.iload_n 2, 1) := by decide +kernel
theorem d_M_hear_67 : decode prog_5_method_17_code 67 = .ok (.iaload, 1) := by decide +kernel
theorem d_M_hear_68 : decode prog_5_method_17_code 68 = .ok (.dup2, 1) := by decide +kernel
theorem d_M_hear_69 : decode prog_5_method_17_code 69 = .ok (.iaload, 1) := by decide +kernel
theorem d_M_hear_70 : decode prog_5_method_17_code 70 = .ok (.aload_n 0, 1) := by decide +kernel
theorem d_M_hear_71 : decode prog_5_method_17_code 71 = .ok (.getfield 59, 3) := by decide +kernel
theorem d_M_hear_74 : decode prog_5_method_17_code 74 = .ok (.iload_n 3, 1) := by decide +kernel
theorem d_M_hear_75 : decode prog_5_method_17_code 75 = .ok (.iaload, 1) := by decide +kernel
theorem d_M_hear_76 : decode prog_5_method_17_code 76 = .ok (.iadd, 1) := by decide +kernel
theorem d_M_hear_77 : decode prog_5_method_17_code 77 = .ok (.iastore, 1) := by decide +kernel
theorem d_M_hear_78 : decode prog_5_method_17_code 78 = .ok (.aload_n 0, 1) := by decide +kernel
theorem d_M_hear_79 : decode prog_5_method_17_code 79 = .ok (.getfield 47, 3) := by decide +kernel
theorem d_M_hear_82 : decode prog_5_method_17_code 82 = .ok (.iload_n 2, 1) := by decide +kernel
theorem d_M_hear_83 : decode prog_5_method_17_code 83 = .ok (.iload_n 3, 1) := by decide +kernel
theorem d_M_hear_84 : decode prog_5_method_17_code 84 = .ok (.iastore, 1) := by decide +kernel
theorem d_M_hear_85 : decode prog_5_method_17_code 85 = .ok (.aload_n 0, 1) := by decide +kernel
theorem d_M_hear_86 : decode prog_5_method_17_code 86 = .ok (.iload_n 1, 1) := by decide +kernel
theorem d_M_hear_87 : decode prog_5_method_17_code 87 = .ok (.invokevirtual 107, 3) := by decide +kernel
theorem d_M_hear_90 : decode prog_5_method_17_code 90 = .ok (.return_, 1) := by decide +kernel
theorem d_M_tryStep_0 : decode prog_5_method_18_code 0 = .ok (.bipush 10, 2) := by decide +kernel
theorem d_M_tryStep_2 : decode prog_5_method_18_code 2 = .ok (.iload_n 1, 1) := by decide +kernel
theorem d_M_tryStep_3 : decode prog_5_method_18_code 3 = .ok (.imul, 1) := by decide +kernel
theorem d_M_tryStep_4 : decode prog_5_method_18_code 4 = .ok (.aload_n 0, 1) := by decide +kernel
theorem d_M_tryStep_5 : decode prog_5_method_18_code 5 = .ok (.getfield 25, 3) := by decide +kernel
theorem d_M_tryStep_8 : decode prog_5_method_18_code 8 = .ok (.iload_n 1, 1) := by decide +kernel
theorem d_M_tryStep_9 : decode prog_5_method_18_code 9 = .ok (.iaload, 1) := by decide +kernel
theorem d_M_tryStep_10 : decode prog_5_method_18_code 10 = .ok (.iadd, 1) := by decide +kernel
theorem d_M_tryStep_11 : decode prog_5_method_18_code 11 = .ok (.istore_n 2, 1) := by decide +kernel
theorem d_M_tryStep_12 : decode prog_5_method_18_code 12 = .ok (.aload_n 0, 1) := by decide +kernel
theorem d_M_tryStep_13 : decode prog_5_method_18_code 13 = .ok (.getfield 43, 3) := by decide +kernel
theorem d_M_tryStep_16 : decode prog_5_method_18_code 16 = .ok (.iload_n 2, 1) := by decide +kernel
theorem d_M_tryStep_17 : decode prog_5_method_18_code 17 = .ok (.baload, 1) := by decide +kernel
theorem d_M_tryStep_18 : decode prog_5_method_18_code 18 = .ok (.ifCond .eq 19, 3) := by decide +kernel
theorem d_M_tryStep_21 : decode prog_5_method_18_code 21 = .ok (.aload_n 0, 1) := by decide +kernel
theorem d_M_tryStep_22 : decode prog_5_method_18_code 22 = .ok (.getfield 43, 3) := by decide +kernel
theorem d_M_tryStep_25 : decode prog_5_method_18_code 25 = .ok (.iload_n 2, 1) := by decide +kernel
theorem d_M_tryStep_26 : decode prog_5_method_18_code 26 = .ok (.iconst 0, 1) := by decide +kernel
theorem d_M_tryStep_27 : decode prog_5_method_18_code 27 = .ok (.bastore, 1) := by decide +kernel
theorem d_M_tryStep_28 : decode prog_5_method_18_code 28 = .ok (.aload_n 0, 1) := by decide +kernel
theorem d_M_tryStep_29 : decode prog_5_method_18_code 29 = .ok (.iload_n 1, 1) := by decide +kernel
theorem d_M_tryStep_30 : decode prog_5_method_18_code 30 = .ok (.iconst 4, 1) := by decide +kernel
theorem d_M_tryStep_31 : decode prog_5_method_18_code 31 = .ok (.invokevirtual 94, 3) := by decide +kernel
theorem d_M_tryStep_34 : decode prog_5_method_18_code 34 = .ok (.goto 79, 3) := by decide +kernel
theorem d_M_tryStep_37 : decode prog_5_method_18_code 37 = .ok (.aload_n 0, 1) := by decide +kernel
theorem d_M_tryStep_38 : decode prog_5_method_18_code 38 = .ok (.getfield 34, 3) := by decide +kernel
theorem d_M_tryStep_41 : decode prog_5_method_18_code 41 = .ok (.iload_n 2, 1) := by decide +kernel
theorem d_M_tryStep_42 : decode prog_5_method_18_code 42 = .ok (.iaload, 1) := by decide +kernel
theorem d_M_tryStep_43 : decode prog_5_method_18_code 43 = .ok (.iconst 1, 1) := by decide +kernel
theorem d_M_tryStep_44 : decode prog_5_method_18_code 44 = .ok (.if_icmp .ne 12, 3) := by decide +kernel
theorem d_M_tryStep_47 : decode prog_5_method_18_code 47 = .ok (.aload_n 0, 1) := by decide +kernel
theorem d_M_tryStep_48 : decode prog_5_method_18_code 48 = .ok (.iload_n 1, 1) := by decide +kernel
theorem d_M_tryStep_49 : decode prog_5_method_18_code 49 = .ok (.iload_n 2, 1) := by decide +kernel
theorem d_M_tryStep_50 : decode prog_5_method_18_code 50 = .ok (.invokevirtual 110, 3) := by decide +kernel
theorem d_M_tryStep_53 : decode prog_5_method_18_code 53 = .ok (.goto 60, 3) := by decide +kernel
theorem d_M_tryStep_56 : decode prog_5_method_18_code 56 = .ok (.aload_n 0, 1) := by decide +kernel
theorem d_M_tryStep_57 : decode prog_5_method_18_code 57 = .ok (.iload_n 1, 1) := by decide +kernel
theorem d_M_tryStep_58 : decode prog_5_method_18_code 58 = .ok (.aload_n 0, 1) := by decide +kernel
theorem d_M_tryStep_59 : decode prog_5_method_18_code 59 = .ok (.getfield 37, 3) := by decide +kernel
theorem d_M_tryStep_62 : decode prog_5_method_18_code 62 = .ok (.iload_n 2, 1) := by decide +kernel
theorem d_M_tryStep_63 : decode prog_5_method_18_code 63 = .ok (.iaload, 1) := by decide +kernel
theorem d_M_tryStep_64 : decode prog_5_method_18_code 64 = .ok (.invokevirtual 113, 3) := by decide +kernel
theorem d_M_tryStep_67 : decode prog_5_method_18_code 67 = .ok (.ifCond .eq 46, 3) := by decide +kernel
theorem d_M_tryStep_70 : decode prog_5_method_18_code 70 = .ok (.aload_n 0, 1) := by decide +kernel
theorem d_M_tryStep_71 : decode prog_5_method_18_code 71 = .ok (.getfield 34, 3) := by decide +kernel
theorem d_M_tryStep_74 : decode prog_5_method_18_code 74 = .ok (.iload_n 2, 1) := by decide +kernel
theorem d_M_tryStep_75 : decode prog_5_method_18_code 75 = .ok (.iaload, 1) := by decide +kernel
theorem d_M_tryStep_76 : decode prog_5_method_18_code 76 = .ok (.ifCond .ne 31, 3) := by decide +kernel
theorem d_M_tryStep_79 : decode prog_5_method_18_code 79 = .ok (.aload_n 0, 1) := by decide +kernel
theorem d_M_tryStep_80 : decode prog_5_method_18_code 80 = .ok (.getfield 7, 3) := by decide +kernel
theorem d_M_tryStep_83 : decode prog_5_method_18_code 83 = .ok (.aload_n 0, 1) := by decide +kernel
theorem d_M_tryStep_84 : decode prog_5_method_18_code 84 = .ok (.getfield 37, 3) := by decide +kernel
theorem d_M_tryStep_87 : decode prog_5_method_18_code 87 = .ok (.iload_n 2, 1) := by decide +kernel
theorem d_M_tryStep_88 : decode prog_5_method_18_code 88 = .ok (.iaload, 1) := by decide +kernel
theorem d_M_tryStep_89 : decode prog_5_method_18_code 89 = .ok (.dup2, 1) := by decide +kernel
theorem d_M_tryStep_90 : decode prog_5_method_18_code 90 = .ok (.iaload, 1) := by decide +kernel
theorem d_M_tryStep_91 : decode prog_5_method_18_code 91 = .ok (.aload_n 0, 1) := by decide +kernel
theorem d_M_tryStep_92 : decode prog_5_method_18_code 92 = .ok (.getfield 40, 3) := by decide +kernel
theorem d_M_tryStep_95 : decode prog_5_method_18_code 95 = .ok (.iload_n 2, 1) := by decide +kernel
theorem d_M_tryStep_96 : decode prog_5_method_18_code 96 = .ok (.iaload, 1) := by decide +kernel
theorem d_M_tryStep_97 : decode prog_5_method_18_code 97 = .ok (.iadd, 1) := by decide +kernel
theorem d_M_tryStep_98 : decode prog_5_method_18_code 98 = .ok (.iastore, 1) := by decide +kernel
theorem d_M_tryStep_99 : decode prog_5_method_18_code 99 = .ok (.aload_n 0, 1) := by decide +kernel
theorem d_M_tryStep_100 : decode prog_5_method_18_code 100 = .ok (.iload_n 1, 1) := by decide +kernel
theorem d_M_tryStep_101 : decode prog_5_method_18_code 101 = .ok (.invokevirtual 107, 3) := by decide +kernel
theorem d_M_tryStep_104 : decode prog_5_method_18_code 104 = .ok (.goto 9, 3) := by decide +kernel
theorem d_M_tryStep_107 : decode prog_5_method_18_code 107 = .ok (.aload_n 0, 1) := by decide +kernel
theorem d_M_tryStep_108 : decode prog_5_method_18_code 108 = .ok (.iload_n 1, 1) := by decide +kernel
theorem d_M_tryStep_109 : decode prog_5_method_18_code 109 = .ok (.iload_n 2, 1) := by decide +kernel
theorem d_M_tryStep_110 : decode prog_5_method_18_code 110 = .ok (.invokevirtual 117, 3) := by decide +kernel
theorem d_M_tryStep_113 : decode prog_5_method_18_code 113 = .ok (.return_, 1) := by decide +kernel
theorem d_M_haveTurn_0 : decode prog_5_method_19_code 0 = .ok (.aload_n 0, 1) := by decide +kernel
theorem d_M_haveTurn_1 : decode prog_5_method_19_code 1 = .ok (.getfield 25, 3) := by decide +kernel
theorem d_M_haveTurn_4 : decode prog_5_method_19_code 4 = .ok (.iload_n 1, 1) := by decide +kernel
theorem d_M_haveTurn_5 : decode prog_5_method_19_code 5 = .ok (.iaload, 1) := by decide +kernel
theorem d_M_haveTurn_6 : decode prog_5_method_19_code 6 = .ok (.aload_n 0, 1) := by decide +kernel
theorem d_M_haveTurn_7 : decode prog_5_method_19_code 7 = .ok (.getfield 22, 3) := by decide +kernel
theorem d_M_haveTurn_10 : decode prog_5_method_19_code 10 = .ok (.iload_n 1, 1) := by decide +kernel
theorem d_M_haveTurn_11 : decode prog_5_method_19_code 11 = .ok (.iaload, 1) := by decide +kernel
theorem d_M_haveTurn_12 : decode prog_5_method_19_code 12 = .ok (.if_icmp .ge 8, 3) := by decide +kernel
theorem d_M_haveTurn_15 : decode prog_5_method_19_code 15 = .ok (.aload_n 0, 1) := by decide +kernel
theorem d_M_haveTurn_16 : decode prog_5_method_19_code 16 = .ok (.iload_n 1, 1) := by decide +kernel
theorem d_M_haveTurn_17 : decode prog_5_method_19_code 17 = .ok (.invokevirtual 120, 3) := by decide +kernel
theorem d_M_haveTurn_20 : decode prog_5_method_19_code 20 = .ok (.aload_n 0, 1) := by decide +kernel
theorem d_M_haveTurn_21 : decode prog_5_method_19_code 21 = .ok (.getfield 19, 3) := by decide +kernel
theorem d_M_haveTurn_24 : decode prog_5_method_19_code 24 = .ok (.iload_n 1, 1) := by decide +kernel
theorem d_M_haveTurn_25 : decode prog_5_method_19_code 25 = .ok (.iaload, 1) := by decide +kernel
theorem d_M_haveTurn_26 : decode prog_5_method_19_code 26 = .ok (.ifCond .ne 18, 3) := by decide +kernel
theorem d_M_haveTurn_29 : decode prog_5_method_19_code 29 = .ok (.aload_n 0, 1) := by decide +kernel
theorem d_M_haveTurn_30 : decode prog_5_method_19_code 30 = .ok (.getfield 25, 3) := by decide +kernel
theorem d_M_haveTurn_33 : decode prog_5_method_19_code 33 = .ok (.iload_n 1, 1) := by decide +kernel
theorem d_M_haveTurn_34 : decode prog_5_method_19_code 34 = .ok (.iaload, 1) := by decide +kernel
theorem d_M_haveTurn_35 : decode prog_5_method_19_code 35 = .ok (.aload_n 0, 1) := by decide +kernel
theorem d_M_haveTurn_36 : decode prog_5_method_19_code 36 = .ok (.getfield 22, 3) := by decide +kernel
theorem d_M_haveTurn_39 : decode prog_5_method_19_code 39 = .ok (.iload_n 1, 1) := by decide +kernel
theorem d_M_haveTurn_40 : decode prog_5_method_19_code 40 = .ok (.iaload, 1) := by decide +kernel
theorem d_M_haveTurn_41 : decode prog_5_method_19_code 41 = .ok (.if_icmp .ge 4, 3) := by decide +kernel
theorem d_M_haveTurn_44 : decode prog_5_method_19_code 44 = .ok (.return_, 1) := by decide +kernel
theorem d_M_haveTurn_45 : decode prog_5_method_19_code 45 = .ok (.aload_n 0, 1) := by decide +kernel
theorem d_M_haveTurn_46 : decode prog_5_method_19_code 46 = .ok (.getfield 19, 3) := by decide +kernel
theorem d_M_haveTurn_49 : decode prog_5_method_19_code 49 = .ok (.iload_n 1, 1) := by decide +kernel
theorem d_M_haveTurn_50 : decode prog_5_method_19_code 50 = .ok (.iconst 3, 1) := by decide +kernel
theorem d_M_haveTurn_51 : decode prog_5_method_19_code 51 = .ok (.iastore, 1) := by decide +kernel
theorem d_M_haveTurn_52 : decode prog_5_method_19_code 52 = .ok (.aload_n 0, 1) := by decide +kernel
theorem d_M_haveTurn_53 : decode prog_5_method_19_code 53 = .ok (.iload_n 1, 1) := by decide +kernel
theorem d_M_haveTurn_54 : decode prog_5_method_19_code 54 = .ok (.invokevirtual 90, 3) := by decide +kernel
theorem d_M_haveTurn_57 : decode prog_5_method_19_code 57 = .ok (.return_, 1) := by decide +kernel
theorem d_M_turn_0 : decode prog_5_method_20_code 0 = .ok (.aload_n 0, 1) := by decide +kernel
theorem d_M_turn_1 : decode prog_5_method_20_code 1 = .ok (.aload_n 0, 1) := by decide +kernel
theorem d_M_turn_2 : decode prog_5_method_20_code 2 = .ok (.iload_n 1, 1) := by decide +kernel
theorem d_M_turn_3 : decode prog_5_method_20_code 3 = .ok (.invokevirtual 79, 3) := by decide +kernel
theorem d_M_turn_6 : decode prog_5_method_20_code 6 = .ok (.ifCond .ne 7, 3) := by decide +kernel
theorem d_M_turn_9 : decode prog_5_method_20_code 9 = .ok (.iconst 1, 1) := by decide +kernel
theorem d_M_turn_10 : decode prog_5_method_20_code 10 = .ok (.goto 4, 3) := by decide +kernel
theorem d_M_turn_13 : decode prog_5_method_20_code 13 = .ok (.iconst 0, 1) := by decide +kernel
theorem d_M_turn_14 : decode prog_5_method_20_code 14 = .ok (.putfield 65, 3) := by decide +kernel
theorem d_M_turn_17 : decode prog_5_method_20_code 17 = .ok (.aload_n 0, 1) := by decide +kernel
theorem d_M_turn_18 : decode prog_5_method_20_code 18 = .ok (.getfield 65, 3) := by decide +kernel
theorem d_M_turn_21 : decode prog_5_method_20_code 21 = .ok (.ifCond .ne 22, 3) := by decide +kernel
theorem d_M_turn_24 : decode prog_5_method_20_code 24 = .ok (.aload_n 0, 1) := by decide +kernel
theorem d_M_turn_25 : decode prog_5_method_20_code 25 = .ok (.aload_n 0, 1) := by decide +kernel
theorem d_M_turn_26 : decode prog_5_method_20_code 26 = .ok (.getfield 19, 3) := by decide +kernel
theorem d_M_turn_29 : decode prog_5_method_20_code 29 = .ok (.iload_n 1, 1) := by decide +kernel
theorem d_M_turn_30 : decode prog_5_method_20_code 30 = .ok (.iaload, 1) := by decide +kernel
theorem d_M_turn_31 : decode prog_5_method_20_code 31 = .ok (.iconst 2, 1) := by decide +kernel
theorem d_M_turn_32 : decode prog_5_method_20_code 32 = .ok (.if_icmp .le 7, 3) := by decide +kernel
theorem d_M_turn_35 : decode prog_5_method_20_code 35 = .ok (.iconst 2, 1) := by decide +kernel
theorem d_M_turn_36 : decode prog_5_method_20_code 36 = .ok (.goto 4, 3) := by decide +kernel
theorem d_M_turn_39 : decode prog_5_method_20_code 39 = .ok (.iconst 0, 1) := by decide +kernel
theorem d_M_turn_40 : decode prog_5_method_20_code 40 = .ok (.putfield 65, 3) := by decide +kernel
theorem d_M_turn_43 : decode prog_5_method_20_code 43 = .ok (.aload_n 0, 1) := by decide +kernel
theorem d_M_turn_44 : decode prog_5_method_20_code 44 = .ok (.getfield 65, 3) := by decide +kernel
theorem d_M_turn_47 : decode prog_5_method_20_code 47 = .ok (.ifCond .le 5, 3) := by decide +kernel
theorem d_M_turn_50 : decode prog_5_method_20_code 50 = .ok (.iconst 0, 1) := by decide +kernel
theorem d_M_turn_51 : decode prog_5_method_20_code 51 = .ok (.ireturn, 1) := by decide +kernel
theorem d_M_turn_52 : decode prog_5_method_20_code 52 = .ok (.aload_n 0, 1) := by decide +kernel
theorem d_M_turn_53 : decode prog_5_method_20_code 53 = .ok (.iload_n 1, 1) := by decide +kernel
theorem d_M_turn_54 : decode prog_5_method_20_code 54 = .ok (.invokevirtual 123, 3) := by decide +kernel
theorem d_M_turn_57 : decode prog_5_method_20_code 57 = .ok (.aload_n 0, 1) := by decide +kernel
theorem d_M_turn_58 : decode prog_5_method_20_code 58 = .ok (.getfield 19, 3) := by decide +kernel
theorem d_M_turn_61 : decode prog_5_method_20_code 61 = .ok (.iload_n 1, 1) := by decide +kernel
theorem d_M_turn_62 : decode prog_5_method_20_code 62 = .ok (.iaload, 1) := by decide +kernel
theorem d_M_turn_63 : decode prog_5_method_20_code 63 = .ok (.ireturn, 1) := by decide +kernel
theorem d_M_run_0 : decode prog_5_method_21_code 0 = .ok (.aload_n 0, 1) := by decide +kernel
theorem d_M_run_1 : decode prog_5_method_21_code 1 = .ok (.iload_n 1, 1) := by decide +kernel
theorem d_M_run_2 : decode prog_5_method_21_code 2 = .ok (.iconst 0, 1) := by decide +kernel
theorem d_M_run_3 : decode prog_5_method_21_code 3 = .ok (.bipush 50, 2) := by decide +kernel
theorem d_M_run_5 : decode prog_5_method_21_code 5 = .ok (.invokestatic 72, 3) := by decide +kernel
theorem d_M_run_8 : decode prog_5_method_21_code 8 = .ok (.ifCond .eq 7, 3) := by decide +kernel
theorem d_M_run_11 : decode prog_5_method_21_code 11 = .ok (.iconst 0, 1) := by decide +kernel
theorem d_M_run_12 : decode prog_5_method_21_code 12 = .ok (.goto 4, 3) := by decide +kernel
theorem d_M_run_15 : decode prog_5_method_21_code 15 = .ok (.iconst 1, 1) := by decide +kernel
theorem d_M_run_16 : decode prog_5_method_21_code 16 = .ok (.putfield 65, 3) := by decide +kernel
theorem d_M_run_19 : decode prog_5_method_21_code 19 = .ok (.aload_n 0, 1) := by decide +kernel
theorem d_M_run_20 : decode prog_5_method_21_code 20 = .ok (.getfield 65, 3) := by decide +kernel
theorem d_M_run_23 : decode prog_5_method_21_code 23 = .ok (.ifCond .le 5, 3) := by decide +kernel
theorem d_M_run_26 : decode prog_5_method_21_code 26 = .ok (.iconst 0, 1) := by decide +kernel
theorem d_M_run_27 : decode prog_5_method_21_code 27 = .ok (.ireturn, 1) := by decide +kernel
theorem d_M_run_28 : decode prog_5_method_21_code 28 = .ok (.aload_n 0, 1) := by decide +kernel
theorem d_M_run_29 : decode prog_5_method_21_code 29 = .ok (.getfield 104, 3) := by decide +kernel
theorem d_M_run_32 : decode prog_5_method_21_code 32 = .ok (.istore_n 2, 1) := by decide +kernel
theorem d_M_run_33 : decode prog_5_method_21_code 33 = .ok (.iconst 0, 1) := by decide +kernel
theorem d_M_run_34 : decode prog_5_method_21_code 34 = .ok (.istore_n 3, 1) := by decide +kernel
theorem d_M_run_35 : decode prog_5_method_21_code 35 = .ok (.iload_n 3, 1) := by decide +kernel
theorem d_M_run_36 : decode prog_5_method_21_code 36 = .ok (.iload_n 1, 1) := by decide +kernel
theorem d_M_run_37 : decode prog_5_method_21_code 37 = .ok (.if_icmp .ge 44, 3) := by decide +kernel
theorem d_M_run_40 : decode prog_5_method_21_code 40 = .ok (.iconst 0, 1) := by decide +kernel
theorem d_M_run_41 : decode prog_5_method_21_code 41 = .ok (.istore 4, 2) := by decide +kernel
theorem d_M_run_43 : decode prog_5_method_21_code 43 = .ok (.iload 4, 2) := by decide +kernel
theorem d_M_run_45 : decode prog_5_method_21_code 45 = .ok (.aload_n 0, 1) := by decide +kernel
theorem d_M_run_46 : decode prog_5_method_21_code 46 = .ok (.getfield 69, 3) := by decide +kernel
theorem d_M_run_49 : decode prog_5_method_21_code 49 = .ok (.if_icmp .ge 26, 3) := by decide +kernel
theorem d_M_run_52 : decode prog_5_method_21_code 52 = .ok (.aload_n 0, 1) := by decide +kernel
theorem d_M_run_53 : decode prog_5_method_21_code 53 = .ok (.getfield 19, 3) := by decide +kernel
theorem d_M_run_56 : decode prog_5_method_21_code 56 = .ok (.iload 4, 2) := by decide +kernel
theorem d_M_run_58 : decode prog_5_method_21_code 58 = .ok (.iaload, 1) := by decide +kernel
theorem d_M_run_59 : decode prog_5_method_21_code 59 = .ok (.iconst 2, 1) := by decide +kernel
theorem d_M_run_60 : decode prog_5_method_21_code 60 = .ok (.if_icmp .gt 9, 3) := by decide +kernel
theorem d_M_run_63 : decode prog_5_method_21_code 63 = .ok (.aload_n 0, 1) := by decide +kernel
theorem d_M_run_64 : decode prog_5_method_21_code 64 = .ok (.iload 4, 2) := by decide +kernel
theorem d_M_run_66 : decode prog_5_method_21_code 66 = .ok (.invokevirtual 123, 3) := by decide +kernel
theorem d_M_run_69 : decode prog_5_method_21_code 69 = .ok (.iinc 4 1, 3) := by decide +kernel
theorem d_M_run_72 : decode prog_5_method_21_code 72 = .ok (.goto (-29), 3) := by decide +kernel
theorem d_M_run_75 : decode prog_5_method_21_code 75 = .ok (.iinc 3 1, 3) := by decide +kernel
theorem d_M_run_78 : decode prog_5_method_21_code 78 = .ok (.goto (-43), 3) := by decide +kernel
theorem d_M_run_81 : decode prog_5_method_21_code 81 = .ok (.aload_n 0, 1) := by decide +kernel
theorem d_M_run_82 : decode prog_5_method_21_code 82 = .ok (.getfield 104, 3) := by decide +kernel
theorem d_M_run_85 : decode prog_5_method_21_code 85 = .ok (.iload_n 2, 1) := by decide +kernel
theorem d_M_run_86 : decode prog_5_method_21_code 86 = .ok (.isub, 1) := by decide +kernel
theorem d_M_run_87 : decode prog_5_method_21_code 87 = .ok (.ireturn, 1) := by decide +kernel
theorem d_M_again_0 : decode prog_5_method_22_code 0 = .ok (.aload_n 0, 1) := by decide +kernel
theorem d_M_again_1 : decode prog_5_method_22_code 1 = .ok (.aload_n 0, 1) := by decide +kernel
theorem d_M_again_2 : decode prog_5_method_22_code 2 = .ok (.iload_n 1, 1) := by decide +kernel
theorem d_M_again_3 : decode prog_5_method_22_code 3 = .ok (.invokevirtual 126, 3) := by decide +kernel
theorem d_M_again_6 : decode prog_5_method_22_code 6 = .ok (.ifCond .ne 7, 3) := by decide +kernel
theorem d_M_again_9 : decode prog_5_method_22_code 9 = .ok (.iconst 1, 1) := by decide +kernel
theorem d_M_again_10 : decode prog_5_method_22_code 10 = .ok (.goto 4, 3) := by decide +kernel
theorem d_M_again_13 : decode prog_5_method_22_code 13 = .ok (.iconst 0, 1) := by decide +kernel
theorem d_M_again_14 : decode prog_5_method_22_code 14 = .ok (.putfield 65, 3) := by decide +kernel
theorem d_M_again_17 : decode prog_5_method_22_code 17 = .ok (.aload_n 0, 1) := by decide +kernel
theorem d_M_again_18 : decode prog_5_method_22_code 18 = .ok (.getfield 65, 3) := by decide +kernel
theorem d_M_again_21 : decode prog_5_method_22_code 21 = .ok (.ifCond .ne 22, 3) := by decide +kernel
theorem d_M_again_24 : decode prog_5_method_22_code 24 = .ok (.aload_n 0, 1) := by decide +kernel
theorem d_M_again_25 : decode prog_5_method_22_code 25 = .ok (.aload_n 0, 1) := by decide +kernel
theorem d_M_again_26 : decode prog_5_method_22_code 26 = .ok (.getfield 50, 3) := by decide +kernel
theorem d_M_again_29 : decode prog_5_method_22_code 29 = .ok (.iload_n 1, 1) := by decide +kernel
theorem d_M_again_30 : decode prog_5_method_22_code 30 = .ok (.iaload, 1) := by decide +kernel
theorem d_M_again_31 : decode prog_5_method_22_code 31 = .ok (.iconst 2, 1) := by decide +kernel
theorem d_M_again_32 : decode prog_5_method_22_code 32 = .ok (.if_icmp .eq 7, 3) := by decide +kernel
theorem d_M_again_35 : decode prog_5_method_22_code 35 = .ok (.iconst 2, 1) := by decide +kernel
theorem d_M_again_36 : decode prog_5_method_22_code 36 = .ok (.goto 4, 3) := by decide +kernel
theorem d_M_again_39 : decode prog_5_method_22_code 39 = .ok (.iconst 0, 1) := by decide +kernel
theorem d_M_again_40 : decode prog_5_method_22_code 40 = .ok (.putfield 65, 3) := by decide +kernel
theorem d_M_again_43 : decode prog_5_method_22_code 43 = .ok (.aload_n 0, 1) := by decide +kernel
theorem d_M_again_44 : decode prog_5_method_22_code 44 = .ok (.getfield 65, 3) := by decide +kernel
theorem d_M_again_47 : decode prog_5_method_22_code 47 = .ok (.ifCond .le 5, 3) := by decide +kernel
theorem d_M_again_50 : decode prog_5_method_22_code 50 = .ok (.iconst 0, 1) := by decide +kernel
theorem d_M_again_51 : decode prog_5_method_22_code 51 = .ok (.ireturn, 1) := by decide +kernel
theorem d_M_again_52 : decode prog_5_method_22_code 52 = .ok (.aload_n 0, 1) := by decide +kernel
theorem d_M_again_53 : decode prog_5_method_22_code 53 = .ok (.getfield 50, 3) := by decide +kernel
theorem d_M_again_56 : decode prog_5_method_22_code 56 = .ok (.iload_n 1, 1) := by decide +kernel
theorem d_M_again_57 : decode prog_5_method_22_code 57 = .ok (.iconst 0, 1) := by decide +kernel
theorem d_M_again_58 : decode prog_5_method_22_code 58 = .ok (.iastore, 1) := by decide +kernel
theorem d_M_again_59 : decode prog_5_method_22_code 59 = .ok (.aload_n 0, 1) := by decide +kernel
theorem d_M_again_60 : decode prog_5_method_22_code 60 = .ok (.getfield 56, 3) := by decide +kernel
theorem d_M_again_63 : decode prog_5_method_22_code 63 = .ok (.iload_n 1, 1) := by decide +kernel
theorem d_M_again_64 : decode prog_5_method_22_code 64 = .ok (.iaload, 1) := by decide +kernel
theorem d_M_again_65 : decode prog_5_method_22_code 65 = .ok (.ireturn, 1) := by decide +kernel
theorem d_M_interrupt_0 : decode prog_5_method_23_code 0 = .ok (.aload_n 0, 1) := by decide +kernel
theorem d_M_interrupt_1 : decode prog_5_method_23_code 1 = .ok (.aload_n 0, 1) := by decide +kernel
theorem d_M_interrupt_2 : decode prog_5_method_23_code 2 = .ok (.iload_n 1, 1) := by decide +kernel
theorem d_M_interrupt_3 : decode prog_5_method_23_code 3 = .ok (.invokevirtual 79, 3) := by decide +kernel
theorem d_M_interrupt_6 : decode prog_5_method_23_code 6 = .ok (.ifCond .ne 7, 3) := by decide +kernel
theorem d_M_interrupt_9 : decode prog_5_method_23_code 9 = .ok (.iconst 1, 1) := by decide +kernel
theorem d_M_interrupt_10 : decode prog_5_method_23_code 10 = .ok (.goto 4, 3) := by decide +kernel
theorem d_M_interrupt_13 : decode prog_5_method_23_code 13 = .ok (.iconst 0, 1) := by decide +kernel
theorem d_M_interrupt_14 : decode prog_5_method_23_code 14 = .ok (.putfield 65, 3) := by decide +kernel
theorem d_M_interrupt_17 : decode prog_5_method_23_code 17 = .ok (.aload_n 0, 1) := by decide +kernel
theorem d_M_interrupt_18 : decode prog_5_method_23_code 18 = .ok (.getfield 65, 3) := by decide +kernel
theorem d_M_interrupt_21 : decode prog_5_method_23_code 21 = .ok (.ifCond .ne 32, 3) := by decide +kernel
theorem d_M_interrupt_24 : decode prog_5_method_23_code 24 = .ok (.aload_n 0, 1) := by decide +kernel
theorem d_M_interrupt_25 : decode prog_5_method_23_code 25 = .ok (.aload_n 0, 1) := by decide +kernel
theorem d_M_interrupt_26 : decode prog_5_method_23_code 26 = .ok (.getfield 19, 3) := by decide +kernel
theorem d_M_interrupt_29 : decode prog_5_method_23_code 29 = .ok (.iload_n 1, 1) := by decide +kernel
theorem d_M_interrupt_30 : decode prog_5_method_23_code 30 = .ok (.iaload, 1) := by decide +kernel
theorem d_M_interrupt_31 : decode prog_5_method_23_code 31 = .ok (.iconst 1, 1) := by decide +kernel
theorem d_M_interrupt_32 : decode prog_5_method_23_code 32 = .ok (.if_icmp .eq 17, 3) := by decide +kernel
theorem d_M_interrupt_35 : decode prog_5_method_23_code 35 = .ok (.aload_n 0, 1) := by decide +kernel
theorem d_M_interrupt_36 : decode prog_5_method_23_code 36 = .ok (.getfield 19, 3) := by decide +kernel
theorem d_M_interrupt_39 : decode prog_5_method_23_code 39 = .ok (.iload_n 1, 1) := by decide +kernel
theorem d_M_interrupt_40 : decode prog_5_method_23_code 40 = .ok (.iaload, 1) := by decide +kernel
theorem d_M_interrupt_41 : decode prog_5_method_23_code 41 = .ok (.iconst 2, 1) := by decide +kernel
theorem d_M_interrupt_42 : decode prog_5_method_23_code 42 = .ok (.if_icmp .eq 7, 3) := by decide +kernel
theorem d_M_interrupt_45 : decode prog_5_method_23_code 45 = .ok (.iconst 2, 1) := by decide +kernel
theorem d_M_interrupt_46 : decode prog_5_method_23_code 46 = .ok (.goto 4, 3) := by decide +kernel
theorem d_M_interrupt_49 : decode prog_5_method_23_code 49 = .ok (.iconst 0, 1) := by decide +kernel
theorem d_M_interrupt_50 : decode prog_5_method_23_code 50 = .ok (.putfield 65, 3) := by decide +kernel
theorem d_M_interrupt_53 : decode prog_5_method_23_code 53 = .ok (.aload_n 0, 1) := by decide +kernel
theorem d_M_interrupt_54 : decode prog_5_method_23_code 54 = .ok (.getfield 65, 3) := by decide +kernel
theorem d_M_interrupt_57 : decode prog_5_method_23_code 57 = .ok (.ifCond .le 5, 3) := by decide +kernel
theorem d_M_interrupt_60 : decode prog_5_method_23_code 60 = .ok (.iconst 0, 1) := by decide +kernel
theorem d_M_interrupt_61 : decode prog_5_method_23_code 61 = .ok (.ireturn, 1) := by decide +kernel
theorem d_M_interrupt_62 : decode prog_5_method_23_code 62 = .ok (.aload_n 0, 1) := by decide +kernel
theorem d_M_interrupt_63 : decode prog_5_method_23_code 63 = .ok (.getfield 25, 3) := by decide +kernel
theorem d_M_interrupt_66 : decode prog_5_method_23_code 66 = .ok (.iload_n 1, 1) := by decide +kernel
theorem d_M_interrupt_67 : decode prog_5_method_23_code 67 = .ok (.iaload, 1) := by decide +kernel
theorem d_M_interrupt_68 : decode prog_5_method_23_code 68 = .ok (.istore_n 2, 1) := by decide +kernel
theorem d_M_interrupt_69 : decode prog_5_method_23_code 69 = .ok (.aload_n 0, 1) := by decide +kernel
theorem d_M_interrupt_70 : decode prog_5_method_23_code 70 = .ok (.iload_n 1, 1) := by decide +kernel
theorem d_M_interrupt_71 : decode prog_5_method_23_code 71 = .ok (.iconst 0, 1) := by decide +kernel
theorem d_M_interrupt_72 : decode prog_5_method_23_code 72 = .ok (.invokevirtual 94, 3) := by decide +kernel
theorem d_M_interrupt_75 : decode prog_5_method_23_code 75 = .ok (.iload_n 2, 1) := by decide +kernel
theorem d_M_interrupt_76 : decode prog_5_method_23_code 76 = .ok (.ireturn, 1) := by decide +kernel
theorem d_M_restart_0 : decode prog_5_method_24_code 0 = .ok (.aload_n 0, 1) := by decide +kernel
theorem d_M_restart_1 : decode prog_5_method_24_code 1 = .ok (.aload_n 0, 1) := by decide +kernel
theorem d_M_restart_2 : decode prog_5_method_24_code 2 = .ok (.iload_n 1, 1) := by decide +kernel
theorem d_M_restart_3 : decode prog_5_method_24_code 3 = .ok (.invokevirtual 79, 3) := by decide +kernel
theorem d_M_restart_6 : decode prog_5_method_24_code 6 = .ok (.ifCond .ne 7, 3) := by decide +kernel
theorem d_M_restart_9 : decode prog_5_method_24_code 9 = .ok (.iconst 1, 1) := by decide +kernel
theorem d_M_restart_10 : decode prog_5_method_24_code 10 = .ok (.goto 4, 3) := by decide +kernel
theorem d_M_restart_13 : decode prog_5_method_24_code 13 = .ok (.iconst 0, 1) := by decide +kernel
theorem d_M_restart_14 : decode prog_5_method_24_code 14 = .ok (.putfield 65, 3) := by decide +kernel
theorem d_M_restart_17 : decode prog_5_method_24_code 17 = .ok (.aload_n 0, 1) := by decide +kernel
theorem d_M_restart_18 : decode prog_5_method_24_code 18 = .ok (.getfield 65, 3) := by decide +kernel
theorem d_M_restart_21 : decode prog_5_method_24_code 21 = .ok (.ifCond .ne 32, 3) := by decide +kernel
theorem d_M_restart_24 : decode prog_5_method_24_code 24 = .ok (.aload_n 0, 1) := by decide +kernel
theorem d_M_restart_25 : decode prog_5_method_24_code 25 = .ok (.aload_n 0, 1) := by decide +kernel
theorem d_M_restart_26 : decode prog_5_method_24_code 26 = .ok (.getfield 19, 3) := by decide +kernel
theorem d_M_restart_29 : decode prog_5_method_24_code 29 = .ok (.iload_n 1, 1) := by decide +kernel
theorem d_M_restart_30 : decode prog_5_method_24_code 30 = .ok (.iaload, 1) := by decide +kernel
theorem d_M_restart_31 : decode prog_5_method_24_code 31 = .ok (.iconst 3, 1) := by decide +kernel
theorem d_M_restart_32 : decode prog_5_method_24_code 32 = .ok (.if_icmp .eq 17, 3) := by decide +kernel
theorem d_M_restart_35 : decode prog_5_method_24_code 35 = .ok (.aload_n 0, 1) := by decide +kernel
theorem d_M_restart_36 : decode prog_5_method_24_code 36 = .ok (.getfield 19, 3) := by decide +kernel
theorem d_M_restart_39 : decode prog_5_method_24_code 39 = .ok (.iload_n 1, 1) := by decide +kernel
theorem d_M_restart_40 : decode prog_5_method_24_code 40 = .ok (.iaload, 1) := by decide +kernel
theorem d_M_restart_41 : decode prog_5_method_24_code 41 = .ok (.iconst 4, 1) := by decide +kernel
theorem d_M_restart_42 : decode prog_5_method_24_code 42 = .ok (.if_icmp .eq 7, 3) := by decide +kernel
theorem d_M_restart_45 : decode prog_5_method_24_code 45 = .ok (.iconst 2, 1) := by decide +kernel
theorem d_M_restart_46 : decode prog_5_method_24_code 46 = .ok (.goto 4, 3) := by decide +kernel
theorem d_M_restart_49 : decode prog_5_method_24_code 49 = .ok (.iconst 0, 1) := by decide +kernel
theorem d_M_restart_50 : decode prog_5_method_24_code 50 = .ok (.putfield 65, 3) := by decide +kernel
theorem d_M_restart_53 : decode prog_5_method_24_code 53 = .ok (.aload_n 0, 1) := by decide +kernel
theorem d_M_restart_54 : decode prog_5_method_24_code 54 = .ok (.getfield 65, 3) := by decide +kernel
theorem d_M_restart_57 : decode prog_5_method_24_code 57 = .ok (.ifCond .le 4, 3) := by decide +kernel
theorem d_M_restart_60 : decode prog_5_method_24_code 60 = .ok (.return_, 1) := by decide +kernel
theorem d_M_restart_61 : decode prog_5_method_24_code 61 = .ok (.aload_n 0, 1) := by decide +kernel
theorem d_M_restart_62 : decode prog_5_method_24_code 62 = .ok (.getfield 19, 3) := by decide +kernel
theorem d_M_restart_65 : decode prog_5_method_24_code 65 = .ok (.iload_n 1, 1) := by decide +kernel
theorem d_M_restart_66 : decode prog_5_method_24_code 66 = .ok (.iconst 0, 1) := by decide +kernel
theorem d_M_restart_67 : decode prog_5_method_24_code 67 = .ok (.iastore, 1) := by decide +kernel
theorem d_M_restart_68 : decode prog_5_method_24_code 68 = .ok (.aload_n 0, 1) := by decide +kernel
theorem d_M_restart_69 : decode prog_5_method_24_code 69 = .ok (.getfield 25, 3) := by decide +kernel
theorem d_M_restart_72 : decode prog_5_method_24_code 72 = .ok (.iload_n 1, 1) := by decide +kernel
theorem d_M_restart_73 : decode prog_5_method_24_code 73 = .ok (.iconst 0, 1) := by decide +kernel
theorem d_M_restart_74 : decode prog_5_method_24_code 74 = .ok (.iastore, 1) := by decide +kernel
theorem d_M_restart_75 : decode prog_5_method_24_code 75 = .ok (.return_, 1) := by decide +kernel
theorem d_M_close_0 : decode prog_5_method_25_code 0 = .ok (.aload_n 0, 1) := by decide +kernel
theorem d_M_close_1 : decode prog_5_method_25_code 1 = .ok (.iconst 0, 1) := by decide +kernel
theorem d_M_close_2 : decode prog_5_method_25_code 2 = .ok (.putfield 65, 3) := by decide +kernel
theorem d_M_close_5 : decode prog_5_method_25_code 5 = .ok (.iconst 0, 1) := by decide +kernel
theorem d_M_close_6 : decode prog_5_method_25_code 6 = .ok (.istore_n 1, 1) := by decide +kernel
theorem d_M_close_7 : decode prog_5_method_25_code 7 = .ok (.iconst 0, 1) := by decide +kernel
theorem d_M_close_8 : decode prog_5_method_25_code 8 = .ok (.istore_n 2, 1) := by decide +kernel
theorem d_M_close_9 : decode prog_5_method_25_code 9 = .ok (.iload_n 2, 1) := by decide +kernel
theorem d_M_close_10 : decode prog_5_method_25_code 10 = .ok (.aload_n 0, 1) := by decide +kernel
theorem d_M_close_11 : decode prog_5_method_25_code 11 = .ok (.getfield 69, 3) := by decide +kernel
theorem d_M_close_14 : decode prog_5_method_25_code 14 = .ok (.if_icmp .ge 41, 3) := by decide +kernel
theorem d_M_close_17 : decode prog_5_method_25_code 17 = .ok (.aload_n 0, 1) := by decide +kernel
theorem d_M_close_18 : decode prog_5_method_25_code 18 = .ok (.getfield 19, 3) := by decide +kernel
theorem d_M_close_21 : decode prog_5_method_25_code 21 = .ok (.iload_n 2, 1) := by decide +kernel
theorem d_M_close_22 : decode prog_5_method_25_code 22 = .ok (.iaload, 1) := by decide +kernel
theorem d_M_close_23 : decode prog_5_method_25_code 23 = .ok (.iconst 3, 1) := by decide +kernel
theorem d_M_close_24 : decode prog_5_method_25_code 24 = .ok (.if_icmp .eq 25, 3) := by decide +kernel
theorem d_M_close_27 : decode prog_5_method_25_code 27 = .ok (.aload_n 0, 1) := by decide +kernel
theorem d_M_close_28 : decode prog_5_method_25_code 28 = .ok (.getfield 19, 3) := by decide +kernel
theorem d_M_close_31 : decode prog_5_method_25_code 31 = .ok (.iload_n 2, 1) := by decide +kernel
theorem d_M_close_32 : decode prog_5_method_25_code 32 = .ok (.iaload, 1) := by decide +kernel
theorem d_M_close_33 : decode prog_5_method_25_code 33 = .ok (.iconst 5, 1) := by decide +kernel
theorem d_M_close_34 : decode prog_5_method_25_code 34 = .ok (.if_icmp .ne 6, 3) := by decide +kernel
theorem d_M_close_37 : decode prog_5_method_25_code 37 = .ok (.goto 12, 3) := by decide +kernel
theorem d_M_close_40 : decode prog_5_method_25_code 40 = .ok (.aload_n 0, 1) := by decide +kernel
theorem d_M_close_41 : decode prog_5_method_25_code 41 = .ok (.iload_n 2, 1) := by decide +kernel
theorem d_M_close_42 : decode prog_5_method_25_code 42 = .ok (.iconst 5, 1) := by decide +kernel
theorem d_M_close_43 : decode prog_5_method_25_code 43 = .ok (.invokevirtual 94, 3) := by decide +kernel
theorem d_M_close_46 : decode prog_5_method_25_code 46 = .ok (.iinc 1 1, 3) := by decide +kernel
theorem d_M_close_49 : decode prog_5_method_25_code 49 = .ok (.iinc 2 1, 3) := by decide +kernel
theorem d_M_close_52 : decode prog_5_method_25_code 52 = .ok (.goto (-43), 3) := by decide +kernel
theorem d_M_close_55 : decode prog_5_method_25_code 55 = .ok (.iload_n 1, 1) := by decide +kernel
theorem d_M_close_56 : decode prog_5_method_25_code 56 = .ok (.ireturn, 1) := by decide +kernel
theorem d_M_log_0 : decode prog_5_method_26_code 0 = .ok (.aload_n 0, 1) := by decide +kernel
theorem d_M_log_1 : decode prog_5_method_26_code 1 = .ok (.iload_n 1, 1) := by decide +kernel
theorem d_M_log_2 : decode prog_5_method_26_code 2 = .ok (.iconst 0, 1) := by decide +kernel
theorem d_M_log_3 : decode prog_5_method_26_code 3 = .ok (.aload_n 0, 1) := by decide +kernel
theorem d_M_log_4 : decode prog_5_method_26_code 4 = .ok (.getfield 104, 3) := by decide +kernel
theorem d_M_log_7 : decode prog_5_method_26_code 7 = .ok (.sipush 400, 3) := by decide +kernel
theorem d_M_log_10 : decode prog_5_method_26_code 10 = .ok (.if_icmp .ge 10, 3) := by decide +kernel
theorem d_M_log_13 : decode prog_5_method_26_code 13 = .ok (.aload_n 0, 1) := by decide +kernel
theorem d_M_log_14 : decode prog_5_method_26_code 14 = .ok (.getfield 104, 3) := by decide +kernel
theorem d_M_log_17 : decode prog_5_method_26_code 17 = .ok (.goto 6, 3) := by decide +kernel
theorem d_M_log_20 : decode prog_5_method_26_code 20 = .ok (.sipush 400, 3) := by decide +kernel
theorem d_M_log_23 : decode prog_5_method_26_code 23 = .ok (.iconst 1, 1) := by decide +kernel
theorem d_M_log_24 : decode prog_5_method_26_code 24 = .ok (.isub, 1) := by decide +kernel
theorem d_M_log_25 : decode prog_5_method_26_code 25 = .ok (.invokestatic 72, 3) := by decide +kernel
theorem d_M_log_28 : decode prog_5_method_26_code 28 = .ok (.ifCond .eq 7, 3) := by decide +kernel
theorem d_M_log_31 : decode prog_5_method_26_code 31 = .ok (.iconst 0, 1) := by decide +kernel
theorem d_M_log_32 : decode prog_5_method_26_code 32 = .ok (.goto 4, 3) := by decide +kernel
theorem d_M_log_35 : decode prog_5_method_26_code 35 = .ok (.iconst 1, 1) := by decide +kernel
theorem d_M_log_36 : decode prog_5_method_26_code 36 = .ok (.putfield 65, 3) := by decide +kernel
theorem d_M_log_39 : decode prog_5_method_26_code 39 = .ok (.aload_n 0, 1) := by decide +kernel
theorem d_M_log_40 : decode prog_5_method_26_code 40 = .ok (.getfield 65, 3) := by decide +kernel
theorem d_M_log_43 : decode prog_5_method_26_code 43 = .ok (.ifCond .le 7, 3) := by decide +kernel
theorem d_M_log_46 : decode prog_5_method_26_code 46 = .ok (.iconst 0, 1) := by decide +kernel
theorem d_M_log_47 : decode prog_5_method_26_code 47 = .ok (.goto 9, 3) := by decide +kernel
theorem d_M_log_50 : decode prog_5_method_26_code 50 = .ok (.aload_n 0, 1) := by decide +kernel
theorem d_M_log_51 : decode prog_5_method_26_code 51 = .ok (.getfield 62, 3) := by decide +kernel
theorem d_M_log_54 : decode prog_5_method_26_code 54 = .ok (.iload_n 1, 1) := by decide +kernel
theorem d_M_log_55 : decode prog_5_method_26_code 55 = .ok (.iaload, 1) := by decide +kernel
theorem d_M_log_56 : decode prog_5_method_26_code 56 = .ok (.ireturn, 1) := by decide +kernel
theorem d_M_place_0 : decode prog_5_method_27_code 0 = .ok (.aload_n 0, 1) := by decide +kernel
theorem d_M_place_1 : decode prog_5_method_27_code 1 = .ok (.iload_n 1, 1) := by decide +kernel
theorem d_M_place_2 : decode prog_5_method_27_code 2 = .ok (.iconst 0, 1) := by decide +kernel
theorem d_M_place_3 : decode prog_5_method_27_code 3 = .ok (.bipush 7, 2) := by decide +kernel
theorem d_M_place_5 : decode prog_5_method_27_code 5 = .ok (.invokestatic 72, 3) := by decide +kernel
theorem d_M_place_8 : decode prog_5_method_27_code 8 = .ok (.ifCond .eq 12, 3) := by decide +kernel
theorem d_M_place_11 : decode prog_5_method_27_code 11 = .ok (.iload_n 2, 1) := by decide +kernel
theorem d_M_place_12 : decode prog_5_method_27_code 12 = .ok (.iconst 0, 1) := by decide +kernel
theorem d_M_place_13 : decode prog_5_method_27_code 13 = .ok (.iconst 1, 1) := by decide +kernel
theorem d_M_place_14 : decode prog_5_method_27_code 14 = .ok (.invokestatic 72, 3) := by decide +kernel
theorem d_M_place_17 : decode prog_5_method_27_code 17 = .ok (.ifCond .ne 7, 3) := by decide +kernel
theorem d_M_place_20 : decode prog_5_method_27_code 20 = .ok (.iconst 1, 1) := by decide +kernel
theorem d_M_place_21 : decode prog_5_method_27_code 21 = .ok (.goto 4, 3) := by decide +kernel
theorem d_M_place_24 : decode prog_5_method_27_code 24 = .ok (.iconst 0, 1) := by decide +kernel
theorem d_M_place_25 : decode prog_5_method_27_code 25 = .ok (.putfield 65, 3) := by decide +kernel
theorem d_M_place_28 : decode prog_5_method_27_code 28 = .ok (.aload_n 0, 1) := by decide +kernel
theorem d_M_place_29 : decode prog_5_method_27_code 29 = .ok (.getfield 65, 3) := by decide +kernel
theorem d_M_place_32 : decode prog_5_method_27_code 32 = .ok (.ifCond .le 5, 3) := by decide +kernel
theorem d_M_place_35 : decode prog_5_method_27_code 35 = .ok (.iconst 0, 1) := by decide +kernel
theorem d_M_place_36 : decode prog_5_method_27_code 36 = .ok (.ireturn, 1) := by decide +kernel
theorem d_M_place_37 : decode prog_5_method_27_code 37 = .ok (.iload_n 2, 1) := by decide +kernel
theorem d_M_place_38 : decode prog_5_method_27_code 38 = .ok (.ifCond .ne 12, 3) := by decide +kernel
theorem d_M_place_41 : decode prog_5_method_27_code 41 = .ok (.aload_n 0, 1) := by decide +kernel
theorem d_M_place_42 : decode prog_5_method_27_code 42 = .ok (.getfield 7, 3) := by decide +kernel
theorem d_M_place_45 : decode prog_5_method_27_code 45 = .ok (.iload_n 1, 1) := by decide +kernel
theorem d_M_place_46 : decode prog_5_method_27_code 46 = .ok (.iaload, 1) := by decide +kernel
theorem d_M_place_47 : decode prog_5_method_27_code 47 = .ok (.goto 9, 3) := by decide +kernel
theorem d_M_place_50 : decode prog_5_method_27_code 50 = .ok (.aload_n 0, 1) := by decide +kernel
theorem d_M_place_51 : decode prog_5_method_27_code 51 = .ok (.getfield 13, 3) := by decide +kernel
theorem d_M_place_54 : decode prog_5_method_27_code 54 = .ok (.iload_n 1, 1) := by decide +kernel
theorem d_M_place_55 : decode prog_5_method_27_code 55 = .ok (.iaload, 1) := by decide +kernel
theorem d_M_place_56 : decode prog_5_method_27_code 56 = .ok (.ireturn, 1) := by decide +kernel
theorem d_M_message_0 : decode prog_5_method_28_code 0 = .ok (.aload_n 0, 1) := by decide +kernel
theorem d_M_message_1 : decode prog_5_method_28_code 1 = .ok (.aload_n 0, 1) := by decide +kernel
theorem d_M_message_2 : decode prog_5_method_28_code 2 = .ok (.iload_n 1, 1) := by decide +kernel
theorem d_M_message_3 : decode prog_5_method_28_code 3 = .ok (.invokevirtual 126, 3) := by decide +kernel
theorem d_M_message_6 : decode prog_5_method_28_code 6 = .ok (.ifCond .ne 7, 3) := by decide +kernel
theorem d_M_message_9 : decode prog_5_method_28_code 9 = .ok (.iconst 1, 1) := by decide +kernel
theorem d_M_message_10 : decode prog_5_method_28_code 10 = .ok (.goto 17, 3) := by decide +kernel
theorem d_M_message_13 : decode prog_5_method_28_code 13 = .ok (.iload_n 2, 1) := by decide +kernel
theorem d_M_message_14 : decode prog_5_method_28_code 14 = .ok (.iconst 0, 1) := by decide +kernel
theorem d_M_message_15 : decode prog_5_method_28_code 15 = .ok (.iconst 3, 1) := by decide +kernel
theorem d_M_message_16 : decode prog_5_method_28_code 16 = .ok (.invokestatic 72, 3) := by decide +kernel
theorem d_M_message_19 : decode prog_5_method_28_code 19 = .ok (.ifCond .ne 7, 3) := by decide +kernel
theorem d_M_message_22 : decode prog_5_method_28_code 22 = .ok (.iconst 2, 1) := by decide +kernel
theorem d_M_message_23 : decode prog_5_method_28_code 23 = .ok (.goto 4, 3) := by decide +kernel
theorem d_M_message_26 : decode prog_5_method_28_code 26 = .ok (.iconst 0, 1) := by decide +kernel
theorem d_M_message_27 : decode prog_5_method_28_code 27 = .ok (.putfield 65, 3) := by decide +kernel
theorem d_M_message_30 : decode prog_5_method_28_code 30 = .ok (.aload_n 0, 1) := by decide +kernel
theorem d_M_message_31 : decode prog_5_method_28_code 31 = .ok (.getfield 65, 3) := by decide +kernel
theorem d_M_message_34 : decode prog_5_method_28_code 34 = .ok (.ifCond .le 5, 3) := by decide +kernel
theorem d_M_message_37 : decode prog_5_method_28_code 37 = .ok (.iconst 0, 1) := by decide +kernel
theorem d_M_message_38 : decode prog_5_method_28_code 38 = .ok (.ireturn, 1) := by decide +kernel
theorem d_M_message_39 : decode prog_5_method_28_code 39 = .ok (.iload_n 2, 1) := by decide +kernel
theorem d_M_message_40 : decode prog_5_method_28_code 40 = .ok (.ifCond .ne 12, 3) := by decide +kernel
theorem d_M_message_43 : decode prog_5_method_28_code 43 = .ok (.aload_n 0, 1) := by decide +kernel
theorem d_M_message_44 : decode prog_5_method_28_code 44 = .ok (.getfield 50, 3) := by decide +kernel
theorem d_M_message_47 : decode prog_5_method_28_code 47 = .ok (.iload_n 1, 1) := by decide +kernel
theorem d_M_message_48 : decode prog_5_method_28_code 48 = .ok (.iaload, 1) := by decide +kernel
theorem d_M_message_49 : decode prog_5_method_28_code 49 = .ok (.goto 37, 3) := by decide +kernel
theorem d_M_message_52 : decode prog_5_method_28_code 52 = .ok (.iload_n 2, 1) := by decide +kernel
theorem d_M_message_53 : decode prog_5_method_28_code 53 = .ok (.iconst 1, 1) := by decide +kernel
theorem d_M_message_54 : decode prog_5_method_28_code 54 = .ok (.if_icmp .ne 12, 3) := by decide +kernel
theorem d_M_message_57 : decode prog_5_method_28_code 57 = .ok (.aload_n 0, 1) := by decide +kernel
theorem d_M_message_58 : decode prog_5_method_28_code 58 = .ok (.getfield 53, 3) := by decide +kernel
theorem d_M_message_61 : decode prog_5_method_28_code 61 = .ok (.iload_n 1, 1) := by decide +kernel
theorem d_M_message_62 : decode prog_5_method_28_code 62 = .ok (.iaload, 1) := by decide +kernel
theorem d_M_message_63 : decode prog_5_method_28_code 63 = .ok (.goto 23, 3) := by decide +kernel
theorem d_M_message_66 : decode prog_5_method_28_code 66 = .ok (.iload_n 2, 1) := by decide +kernel
theorem d_M_message_67 : decode prog_5_method_28_code 67 = .ok (.iconst 2, 1) := by decide +kernel
theorem d_M_message_68 : decode prog_5_method_28_code 68 = .ok (.if_icmp .ne 12, 3) := by decide +kernel
theorem d_M_message_71 : decode prog_5_method_28_code 71 = .ok (.aload_n 0, 1) := by decide +kernel
theorem d_M_message_72 : decode prog_5_method_28_code 72 = .ok (.getfield 56, 3) := by decide +kernel
theorem d_M_message_75 : decode prog_5_method_28_code 75 = .ok (.iload_n 1, 1) := by decide +kernel
theorem d_M_message_76 : decode prog_5_method_28_code 76 = .ok (.iaload, 1) := by decide +kernel
theorem d_M_message_77 : decode prog_5_method_28_code 77 = .ok (.goto 9, 3) := by decide +kernel
theorem d_M_message_80 : decode prog_5_method_28_code 80 = .ok (.aload_n 0, 1) := by decide +kernel
theorem d_M_message_81 : decode prog_5_method_28_code 81 = .ok (.getfield 59, 3) := by decide +kernel
theorem d_M_message_84 : decode prog_5_method_28_code 84 = .ok (.iload_n 1, 1) := by decide +kernel
theorem d_M_message_85 : decode prog_5_method_28_code 85 = .ok (.iaload, 1) := by decide +kernel
theorem d_M_message_86 : decode prog_5_method_28_code 86 = .ok (.ireturn, 1) := by decide +kernel
theorem d_M_told_0 : decode prog_5_method_29_code 0 = .ok (.aload_n 0, 1) := by decide +kernel
theorem d_M_told_1 : decode prog_5_method_29_code 1 = .ok (.aload_n 0, 1) := by decide +kernel
theorem d_M_told_2 : decode prog_5_method_29_code 2 = .ok (.iload_n 1, 1) := by decide +kernel
theorem d_M_told_3 : decode prog_5_method_29_code 3 = .ok (.invokevirtual 79, 3) := by decide +kernel
theorem d_M_told_6 : decode prog_5_method_29_code 6 = .ok (.ifCond .ne 7, 3) := by decide +kernel
theorem d_M_told_9 : decode prog_5_method_29_code 9 = .ok (.iconst 1, 1) := by decide +kernel
theorem d_M_told_10 : decode prog_5_method_29_code 10 = .ok (.goto 18, 3) := by decide +kernel
theorem d_M_told_13 : decode prog_5_method_29_code 13 = .ok (.iload_n 2, 1) := by decide +kernel
theorem d_M_told_14 : decode prog_5_method_29_code 14 = .ok (.iconst 0, 1) := by decide +kernel
theorem d_M_told_15 : decode prog_5_method_29_code 15 = .ok (.bipush 6, 2) := by decide +kernel
theorem d_M_told_17 : decode prog_5_method_29_code 17 = .ok (.invokestatic 72, 3) := by decide +kernel
theorem d_M_told_20 : decode prog_5_method_29_code 20 = .ok (.ifCond .ne 7, 3) := by decide +kernel
theorem d_M_told_23 : decode prog_5_method_29_code 23 = .ok (.iconst 2, 1) := by decide +kernel
theorem d_M_told_24 : decode prog_5_method_29_code 24 = .ok (.goto 4, 3) := by decide +kernel
theorem d_M_told_27 : decode prog_5_method_29_code 27 = .ok (.iconst 0, 1) := by decide +kernel
theorem d_M_told_28 : decode prog_5_method_29_code 28 = .ok (.putfield 65, 3) := by decide +kernel
theorem d_M_told_31 : decode prog_5_method_29_code 31 = .ok (.aload_n 0, 1) := by decide +kernel
theorem d_M_told_32 : decode prog_5_method_29_code 32 = .ok (.getfield 65, 3) := by decide +kernel
theorem d_M_told_35 : decode prog_5_method_29_code 35 = .ok (.ifCond .le 5, 3) := by decide +kernel
theorem d_M_told_38 : decode prog_5_method_29_code 38 = .ok (.iconst 0, 1) := by decide +kernel
theorem d_M_told_39 : decode prog_5_method_29_code 39 = .ok (.ireturn, 1) := by decide +kernel
theorem d_M_told_40 : decode prog_5_method_29_code 40 = .ok (.iload_n 2, 1) := by decide +kernel
theorem d_M_told_41 : decode prog_5_method_29_code 41 = .ok (.ifCond .ne 10, 3) := by decide +kernel
theorem d_M_told_44 : decode prog_5_method_29_code 44 = .ok (.aload_n 0, 1) := by decide +kernel
theorem d_M_told_45 : decode prog_5_method_29_code 45 = .ok (.getfield 19, 3) := by decide +kernel
theorem d_M_told_48 : decode prog_5_method_29_code 48 = .ok (.iload_n 1, 1) := by decide +kernel
theorem d_M_told_49 : decode prog_5_method_29_code 49 = .ok (.iaload, 1) := by decide +kernel
theorem d_M_told_50 : decode prog_5_method_29_code 50 = .ok (.ireturn, 1) := by decide +kernel
theorem d_M_told_51 : decode prog_5_method_29_code 51 = .ok (.iload_n 2, 1) := by decide +kernel
theorem d_M_told_52 : decode prog_5_method_29_code 52 = .ok (.iconst 1, 1) := by decide +kernel
theorem d_M_told_53 : decode prog_5_method_29_code 53 = .ok (.if_icmp .ne 10, 3) := by decide +kernel
theorem d_M_told_56 : decode prog_5_method_29_code 56 = .ok (.aload_n 0, 1) := by decide +kernel
theorem d_M_told_57 : decode prog_5_method_29_code 57 = .ok (.getfield 16, 3) := by decide +kernel
theorem d_M_told_60 : decode prog_5_method_29_code 60 = .ok (.iload_n 1, 1) := by decide +kernel
theorem d_M_told_61 : decode prog_5_method_29_code 61 = .ok (.iaload, 1) := by decide +kernel
theorem d_M_told_62 : decode prog_5_method_29_code 62 = .ok (.ireturn, 1) := by decide +kernel
theorem d_M_told_63 : decode prog_5_method_29_code 63 = .ok (.iload_n 2, 1) := by decide +kernel
theorem d_M_told_64 : decode prog_5_method_29_code 64 = .ok (.iconst 2, 1) := by decide +kernel
theorem d_M_told_65 : decode prog_5_method_29_code 65 = .ok (.if_icmp .ne 10, 3) := by decide +kernel
theorem d_M_told_68 : decode prog_5_method_29_code 68 = .ok (.aload_n 0, 1) := by decide +kernel
theorem d_M_told_69 : decode prog_5_method_29_code 69 = .ok (.getfield 22, 3) := by decide +kernel
theorem d_M_told_72 : decode prog_5_method_29_code 72 = .ok (.iload_n 1, 1) := by decide +kernel
theorem d_M_told_73 : decode prog_5_method_29_code 73 = .ok (.iaload, 1) := by decide +kernel
theorem d_M_told_74 : decode prog_5_method_29_code 74 = .ok (.ireturn, 1) := by decide +kernel
theorem d_M_told_75 : decode prog_5_method_29_code 75 = .ok (.iload_n 2, 1) := by decide +kernel
theorem d_M_told_76 : decode prog_5_method_29_code 76 = .ok (.iconst 3, 1) := by decide +kernel
theorem d_M_told_77 : decode prog_5_method_29_code 77 = .ok (.if_icmp .ne 10, 3) := by decide +kernel
theorem d_M_told_80 : decode prog_5_method_29_code 80 = .ok (.aload_n 0, 1) := by decide +kernel
theorem d_M_told_81 : decode prog_5_method_29_code 81 = .ok (.getfield 25, 3) := by decide +kernel
theorem d_M_told_84 : decode prog_5_method_29_code 84 = .ok (.iload_n 1, 1) := by decide +kernel
theorem d_M_told_85 : decode prog_5_method_29_code 85 = .ok (.iaload, 1) := by decide +kernel
theorem d_M_told_86 : decode prog_5_method_29_code 86 = .ok (.ireturn, 1) := by decide +kernel
theorem d_M_told_87 : decode prog_5_method_29_code 87 = .ok (.iload_n 2, 1) := by decide +kernel
theorem d_M_told_88 : decode prog_5_method_29_code 88 = .ok (.iconst 4, 1) := by decide +kernel
theorem d_M_told_89 : decode prog_5_method_29_code 89 = .ok (.if_icmp .ne 10, 3) := by decide +kernel
theorem d_M_told_92 : decode prog_5_method_29_code 92 = .ok (.aload_n 0, 1) := by decide +kernel
theorem d_M_told_93 : decode prog_5_method_29_code 93 = .ok (.getfield 28, 3) := by decide +kernel
theorem d_M_told_96 : decode prog_5_method_29_code 96 = .ok (.iload_n 1, 1) := by decide +kernel
theorem d_M_told_97 : decode prog_5_method_29_code 97 = .ok (.iaload, 1) := by decide +kernel
theorem d_M_told_98 : decode prog_5_method_29_code 98 = .ok (.ireturn, 1) := by decide +kernel
theorem d_M_told_99 : decode prog_5_method_29_code 99 = .ok (.iload_n 2, 1) := by decide +kernel
theorem d_M_told_100 : decode prog_5_method_29_code 100 = .ok (.bipush 6, 2) := by decide +kernel
theorem d_M_told_102 : decode prog_5_method_29_code 102 = .ok (.if_icmp .ne 10, 3) := by decide +kernel
theorem d_M_told_105 : decode prog_5_method_29_code 105 = .ok (.aload_n 0, 1) := by decide +kernel
theorem d_M_told_106 : decode prog_5_method_29_code 106 = .ok (.getfield 31, 3) := by decide +kernel
theorem d_M_told_109 : decode prog_5_method_29_code 109 = .ok (.iload_n 1, 1) := by decide +kernel
theorem d_M_told_110 : decode prog_5_method_29_code 110 = .ok (.iaload, 1) := by decide +kernel
theorem d_M_told_111 : decode prog_5_method_29_code 111 = .ok (.ireturn, 1) := by decide +kernel
theorem d_M_told_112 : decode prog_5_method_29_code 112 = .ok (.iconst 0, 1) := by decide +kernel
theorem d_M_told_113 : decode prog_5_method_29_code 113 = .ok (.istore_n 3, 1) := by decide +kernel
theorem d_M_told_114 : decode prog_5_method_29_code 114 = .ok (.iconst 0, 1) := by decide +kernel
theorem d_M_told_115 : decode prog_5_method_29_code 115 = .ok (.istore 4, 2) := by decide +kernel
theorem d_M_told_117 : decode prog_5_method_29_code 117 = .ok (.iload 4, 2) := by decide +kernel
theorem d_M_told_119 : decode prog_5_method_29_code 119 = .ok (.bipush 8, 2) := by decide +kernel
theorem d_M_told_121 : decode prog_5_method_29_code 121 = .ok (.if_icmp .ge 28, 3) := by decide +kernel
theorem d_M_told_124 : decode prog_5_method_29_code 124 = .ok (.iload_n 3, 1) := by decide +kernel
theorem d_M_told_125 : decode prog_5_method_29_code 125 = .ok (.aload_n 0, 1) := by decide +kernel
theorem d_M_told_126 : decode prog_5_method_29_code 126 = .ok (.getfield 13, 3) := by decide +kernel
theorem d_M_told_129 : decode prog_5_method_29_code 129 = .ok (.iload 4, 2) := by decide +kernel
theorem d_M_told_131 : decode prog_5_method_29_code 131 = .ok (.iaload, 1) := by decide +kernel
theorem d_M_told_132 : decode prog_5_method_29_code 132 = .ok (.iload_n 1, 1) := by decide +kernel
theorem d_M_told_133 : decode prog_5_method_29_code 133 = .ok (.if_icmp .ne 7, 3) := by decide +kernel
theorem d_M_told_136 : decode prog_5_method_29_code 136 = .ok (.iconst 1, 1) := by decide +kernel
theorem d_M_told_137 : decode prog_5_method_29_code 137 = .ok (.goto 4, 3) := by decide +kernel
theorem d_M_told_140 : decode prog_5_method_29_code 140 = .ok (.iconst 0, 1) := by decide +kernel
theorem d_M_told_141 : decode prog_5_method_29_code 141 = .ok (.iadd, 1) := by decide +kernel
theorem d_M_told_142 : decode prog_5_method_29_code 142 = .ok (.istore_n 3, 1) := by decide +kernel
theorem d_M_told_143 : decode prog_5_method_29_code 143 = .ok (.iinc 4 1, 3) := by decide +kernel
theorem d_M_told_146 : decode prog_5_method_29_code 146 = .ok (.goto (-29), 3) := by decide +kernel
theorem d_M_told_149 : decode prog_5_method_29_code 149 = .ok (.iload_n 3, 1) := by decide +kernel
theorem d_M_told_150 : decode prog_5_method_29_code 150 = .ok (.ireturn, 1) := by decide +kernel
theorem d_M_count_0 : decode prog_5_method_30_code 0 = .ok (.aload_n 0, 1) := by decide +kernel
theorem d_M_count_1 : decode prog_5_method_30_code 1 = .ok (.iconst 0, 1) := by decide +kernel
theorem d_M_count_2 : decode prog_5_method_30_code 2 = .ok (.putfield 65, 3) := by decide +kernel
theorem d_M_count_5 : decode prog_5_method_30_code 5 = .ok (.iload_n 1, 1) := by decide +kernel
theorem d_M_count_6 : decode prog_5_method_30_code 6 = .ok (.ifCond .ne 8, 3) := by decide +kernel
theorem d_M_count_9 : decode prog_5_method_30_code 9 = .ok (.aload_n 0, 1) := by decide +kernel
theorem d_M_count_10 : decode prog_5_method_30_code 10 = .ok (.getfield 69, 3) := by decide +kernel
theorem d_M_count_13 : decode prog_5_method_30_code 13 = .ok (.ireturn, 1) := by decide +kernel
theorem d_M_count_14 : decode prog_5_method_30_code 14 = .ok (.iload_n 1, 1) := by decide +kernel
theorem d_M_count_15 : decode prog_5_method_30_code 15 = .ok (.iconst 1, 1) := by decide +kernel
theorem d_M_count_16 : decode prog_5_method_30_code 16 = .ok (.if_icmp .ne 8, 3) := by decide +kernel
theorem d_M_count_19 : decode prog_5_method_30_code 19 = .ok (.aload_n 0, 1) := by decide +kernel
theorem d_M_count_20 : decode prog_5_method_30_code 20 = .ok (.getfield 76, 3) := by decide +kernel
theorem d_M_count_23 : decode prog_5_method_30_code 23 = .ok (.ireturn, 1) := by decide +kernel
theorem d_M_count_24 : decode prog_5_method_30_code 24 = .ok (.iload_n 1, 1) := by decide +kernel
theorem d_M_count_25 : decode prog_5_method_30_code 25 = .ok (.iconst 2, 1) := by decide +kernel
theorem d_M_count_26 : decode prog_5_method_30_code 26 = .ok (.if_icmp .ne 8, 3) := by decide +kernel
theorem d_M_count_29 : decode prog_5_method_30_code 29 = .ok (.aload_n 0, 1) := by decide +kernel
theorem d_M_count_30 : decode prog_5_method_30_code 30 = .ok (.getfield 104, 3) := by decide +kernel
theorem d_M_count_33 : decode prog_5_method_30_code 33 = .ok (.ireturn, 1) := by decide +kernel
theorem d_M_count_34 : decode prog_5_method_30_code 34 = .ok (.iload_n 1, 1) := by decide +kernel
theorem d_M_count_35 : decode prog_5_method_30_code 35 = .ok (.iconst 3, 1) := by decide +kernel
theorem d_M_count_36 : decode prog_5_method_30_code 36 = .ok (.if_icmp .ne 8, 3) := by decide +kernel
theorem d_M_count_39 : decode prog_5_method_30_code 39 = .ok (.aload_n 0, 1) := by decide +kernel
theorem d_M_count_40 : decode prog_5_method_30_code 40 = .ok (.getfield 98, 3) := by decide +kernel
theorem d_M_count_43 : decode prog_5_method_30_code 43 = .ok (.ireturn, 1) := by decide +kernel
theorem d_M_count_44 : decode prog_5_method_30_code 44 = .ok (.iconst 0, 1) := by decide +kernel
theorem d_M_count_45 : decode prog_5_method_30_code 45 = .ok (.istore_n 2, 1) := by decide +kernel
theorem d_M_count_46 : decode prog_5_method_30_code 46 = .ok (.iconst 0, 1) := by decide +kernel
theorem d_M_count_47 : decode prog_5_method_30_code 47 = .ok (.istore_n 3, 1) := by decide +kernel
theorem d_M_count_48 : decode prog_5_method_30_code 48 = .ok (.iload_n 3, 1) := by decide +kernel
theorem d_M_count_49 : decode prog_5_method_30_code 49 = .ok (.aload_n 0, 1) := by decide +kernel
theorem d_M_count_50 : decode prog_5_method_30_code 50 = .ok (.getfield 69, 3) := by decide +kernel
theorem d_M_count_53 : decode prog_5_method_30_code 53 = .ok (.if_icmp .ge 32, 3) := by decide +kernel
theorem d_M_count_56 : decode prog_5_method_30_code 56 = .ok (.iload_n 1, 1) := by decide +kernel
theorem d_M_count_57 : decode prog_5_method_30_code 57 = .ok (.iconst 4, 1) := by decide +kernel
theorem d_M_count_58 : decode prog_5_method_30_code 58 = .ok (.if_icmp .ne 27, 3) := by decide +kernel
theorem d_M_count_61 : decode prog_5_method_30_code 61 = .ok (.iload_n 2, 1) := by decide +kernel
theorem d_M_count_62 : decode prog_5_method_30_code 62 = .ok (.aload_n 0, 1) := by decide +kernel
theorem d_M_count_63 : decode prog_5_method_30_code 63 = .ok (.getfield 19, 3) := by decide +kernel
theorem d_M_count_66 : decode prog_5_method_30_code 66 = .ok (.iload_n 3, 1) := by decide +kernel
theorem d_M_count_67 : decode prog_5_method_30_code 67 = .ok (.iaload, 1) := by decide +kernel
theorem d_M_count_68 : decode prog_5_method_30_code 68 = .ok (.iconst 3, 1) := by decide +kernel
theorem d_M_count_69 : decode prog_5_method_30_code 69 = .ok (.if_icmp .ne 7, 3) := by decide +kernel
theorem d_M_count_72 : decode prog_5_method_30_code 72 = .ok (.iconst 1, 1) := by decide +kernel
theorem d_M_count_73 : decode prog_5_method_30_code 73 = .ok (.goto 4, 3) := by decide +kernel
theorem d_M_count_76 : decode prog_5_method_30_code 76 = .ok (.iconst 0, 1) := by decide +kernel
theorem d_M_count_77 : decode prog_5_method_30_code 77 = .ok (.iadd, 1) := by decide +kernel
theorem d_M_count_78 : decode prog_5_method_30_code 78 = .ok (.istore_n 2, 1) := by decide +kernel
theorem d_M_count_79 : decode prog_5_method_30_code 79 = .ok (.iinc 3 1, 3) := by decide +kernel
theorem d_M_count_82 : decode prog_5_method_30_code 82 = .ok (.goto (-34), 3) := by decide +kernel
theorem d_M_count_85 : decode prog_5_method_30_code 85 = .ok (.iconst 1, 1) := by decide +kernel
theorem d_M_count_86 : decode prog_5_method_30_code 86 = .ok (.istore_n 3, 1) := by decide +kernel
theorem d_M_count_87 : decode prog_5_method_30_code 87 = .ok (.iload_n 3, 1) := by decide +kernel
theorem d_M_count_88 : decode prog_5_method_30_code 88 = .ok (.aload_n 0, 1) := by decide +kernel
theorem d_M_count_89 : decode prog_5_method_30_code 89 = .ok (.getfield 76, 3) := by decide +kernel
theorem d_M_count_92 : decode prog_5_method_30_code 92 = .ok (.if_icmp .gt 31, 3) := by decide +kernel
theorem d_M_count_95 : decode prog_5_method_30_code 95 = .ok (.iload_n 1, 1) := by decide +kernel
theorem d_M_count_96 : decode prog_5_method_30_code 96 = .ok (.iconst 5, 1) := by decide +kernel
theorem d_M_count_97 : decode prog_5_method_30_code 97 = .ok (.if_icmp .ne 26, 3) := by decide +kernel
theorem d_M_count_100 : decode prog_5_method_30_code 100 = .ok (.iload_n 2, 1) := by decide +kernel
theorem d_M_count_101 : decode prog_5_method_30_code 101 = .ok (.aload_n 0, 1) := by decide +kernel
theorem d_M_count_102 : decode prog_5_method_30_code 102 = .ok (.getfield 50, 3) := by decide +kernel
theorem d_M_count_105 : decode prog_5_method_30_code 105 = .ok (.iload_n 3, 1) := by decide +kernel
theorem d_M_count_106 : decode prog_5_method_30_code 106 = .ok (.iaload, 1) := by decide +kernel
theorem d_M_count_107 : decode prog_5_method_30_code 107 = .ok (.ifCond .ne 7, 3) := by decide +kernel
theorem d_M_count_110 : decode prog_5_method_30_code 110 = .ok (.iconst 1, 1) := by decide +kernel
theorem d_M_count_111 : decode prog_5_method_30_code 111 = .ok (.goto 4, 3) := by decide +kernel
theorem d_M_count_114 : decode prog_5_method_30_code 114 = .ok (.iconst 0, 1) := by decide +kernel
theorem d_M_count_115 : decode prog_5_method_30_code 115 = .ok (.iadd, 1) := by decide +kernel
theorem d_M_count_116 : decode prog_5_method_30_code 116 = .ok (.istore_n 2, 1) := by decide +kernel
theorem d_M_count_117 : decode prog_5_method_30_code 117 = .ok (.iinc 3 1, 3) := by decide +kernel
theorem d_M_count_120 : decode prog_5_method_30_code 120 = .ok (.goto (-33), 3) := by decide +kernel
theorem d_M_count_123 : decode prog_5_method_30_code 123 = .ok (.iload_n 1, 1) := by decide +kernel
theorem d_M_count_124 : decode prog_5_method_30_code 124 = .ok (.iconst 4, 1) := by decide +kernel
theorem d_M_count_125 : decode prog_5_method_30_code 125 = .ok (.if_icmp .eq 8, 3) := by decide +kernel
theorem d_M_count_128 : decode prog_5_method_30_code 128 = .ok (.iload_n 1, 1) := by decide +kernel
theorem d_M_count_129 : decode prog_5_method_30_code 129 = .ok (.iconst 5, 1) := by decide +kernel
theorem d_M_count_130 : decode prog_5_method_30_code 130 = .ok (.if_icmp .ne 7, 3) := by decide +kernel
theorem d_M_count_133 : decode prog_5_method_30_code 133 = .ok (.iload_n 2, 1) := by decide +kernel
theorem d_M_count_134 : decode prog_5_method_30_code 134 = .ok (.goto 4, 3) := by decide +kernel
theorem d_M_count_137 : decode prog_5_method_30_code 137 = .ok (.iconst (-1), 1) := by decide +kernel
theorem d_M_count_138 : decode prog_5_method_30_code 138 = .ok (.ireturn, 1) := by decide +kernel
