theorem eHa_init_0 : decode prog_2_method_1_code 0 = .ok (.aload_n 0, 1) := by decide +kernel
theorem eHa_init_1 : decode prog_2_method_1_code 1 = .ok (.invokespecial 3, 3) := by decide +kernel
theorem eHa_init_4 : decode prog_2_method_1_code 4 = .ok (.aload_n 0, 1) := by decide +kernel
theorem eHa_init_5 : decode prog_2_method_1_code 5 = .ok (.aload_n 1, 1) := by decide +kernel
theorem eHa_init_6 : decode prog_2_method_1_code 6 = .ok (.putfield 9, 3) := by decide +kernel
theorem eHa_init_9 : decode prog_2_method_1_code 9 = .ok (.aload_n 0, 1) := by decide +kernel
theorem eHa_init_10 : decode prog_2_method_1_code 10 = .ok (.aload_n 2, 1) := by decide +kernel
theorem eHa_init_11 : decode prog_2_method_1_code 11 = .ok (.putfield 15, 3) := by decide +kernel
theorem eHa_init_14 : decode prog_2_method_1_code 14 = .ok (.aload_n 0, 1) := by decide +kernel
theorem eHa_init_15 : decode prog_2_method_1_code 15 = .ok (.aload_n 3, 1) := by decide +kernel
theorem eHa_init_16 : decode prog_2_method_1_code 16 = .ok (.putfield 19, 3) := by decide +kernel
theorem eHa_init_19 : decode prog_2_method_1_code 19 = .ok (.aload_n 0, 1) := by decide +kernel
theorem eHa_init_20 : decode prog_2_method_1_code 20 = .ok (.bipush 16, 2) := by decide +kernel
theorem eHa_init_22 : decode prog_2_method_1_code 22 = .ok (.newarray .int, 2) := by decide +kernel
theorem eHa_init_24 : decode prog_2_method_1_code 24 = .ok (.putfield 23, 3) := by decide +kernel
theorem eHa_init_27 : decode prog_2_method_1_code 27 = .ok (.aload_n 0, 1) := by decide +kernel
theorem eHa_init_28 : decode prog_2_method_1_code 28 = .ok (.iconst 3, 1) := by decide +kernel
theorem eHa_init_29 : decode prog_2_method_1_code 29 = .ok (.newarray .int, 2) := by decide +kernel
theorem eHa_init_31 : decode prog_2_method_1_code 31 = .ok (.putfield 27, 3) := by decide +kernel
theorem eHa_init_34 : decode prog_2_method_1_code 34 = .ok (.aload_n 0, 1) := by decide +kernel
theorem eHa_init_35 : decode prog_2_method_1_code 35 = .ok (.iconst 3, 1) := by decide +kernel
theorem eHa_init_36 : decode prog_2_method_1_code 36 = .ok (.newarray .int, 2) := by decide +kernel
theorem eHa_init_38 : decode prog_2_method_1_code 38 = .ok (.putfield 30, 3) := by decide +kernel
theorem eHa_init_41 : decode prog_2_method_1_code 41 = .ok (.aload_n 0, 1) := by decide +kernel
theorem eHa_init_42 : decode prog_2_method_1_code 42 = .ok (.iconst (-1), 1) := by decide +kernel
theorem eHa_init_43 : decode prog_2_method_1_code 43 = .ok (.putfield 33, 3) := by decide +kernel
theorem eHa_init_46 : decode prog_2_method_1_code 46 = .ok (.return_, 1) := by decide +kernel
theorem eHa_fromNow_0 : decode prog_2_method_2_code 0 = .ok (.aload_n 0, 1) := by decide +kernel
theorem eHa_fromNow_1 : decode prog_2_method_2_code 1 = .ok (.getfield 15, 3) := by decide +kernel
theorem eHa_fromNow_4 : decode prog_2_method_2_code 4 = .ok (.getfield 37, 3) := by decide +kernel
theorem eHa_fromNow_7 : decode prog_2_method_2_code 7 = .ok (.aload_n 0, 1) := by decide +kernel
theorem eHa_fromNow_8 : decode prog_2_method_2_code 8 = .ok (.getfield 23, 3) := by decide +kernel
theorem eHa_fromNow_11 : decode prog_2_method_2_code 11 = .ok (.invokestatic 40, 3) := by decide +kernel
theorem eHa_fromNow_14 : decode prog_2_method_2_code 14 = .ok (.aload_n 0, 1) := by decide +kernel
theorem eHa_fromNow_15 : decode prog_2_method_2_code 15 = .ok (.iconst (-1), 1) := by decide +kernel
theorem eHa_fromNow_16 : decode prog_2_method_2_code 16 = .ok (.iconst (-1), 1) := by decide +kernel
theorem eHa_fromNow_17 : decode prog_2_method_2_code 17 = .ok (.iload_n 1, 1) := by decide +kernel
theorem eHa_fromNow_18 : decode prog_2_method_2_code 18 = .ok (.iload_n 2, 1) := by decide +kernel
theorem eHa_fromNow_19 : decode prog_2_method_2_code 19 = .ok (.invokevirtual 44, 3) := by decide +kernel
theorem eHa_fromNow_22 : decode prog_2_method_2_code 22 = .ok (.ireturn, 1) := by decide +kernel
theorem eHa_fewestInAll_0 : decode prog_2_method_3_code 0 = .ok (.aload_n 0, 1) := by decide +kernel
theorem eHa_fewestInAll_1 : decode prog_2_method_3_code 1 = .ok (.getfield 33, 3) := by decide +kernel
theorem eHa_fewestInAll_4 : decode prog_2_method_3_code 4 = .ok (.aload_n 0, 1) := by decide +kernel
theorem eHa_fewestInAll_5 : decode prog_2_method_3_code 5 = .ok (.getfield 19, 3) := by decide +kernel
theorem eHa_fewestInAll_8 : decode prog_2_method_3_code 8 = .ok (.getfield 48, 3) := by decide +kernel
theorem eHa_fewestInAll_11 : decode prog_2_method_3_code 11 = .ok (.if_icmp .eq 43, 3) := by decide +kernel
theorem eHa_fewestInAll_14 : decode prog_2_method_3_code 14 = .ok (.aload_n 0, 1) := by decide +kernel
theorem eHa_fewestInAll_15 : decode prog_2_method_3_code 15 = .ok (.bipush (-2), 2) := by decide +kernel
theorem eHa_fewestInAll_17 : decode prog_2_method_3_code 17 = .ok (.putfield 51, 3) := by decide +kernel
theorem eHa_fewestInAll_20 : decode prog_2_method_3_code 20 = .ok (.aload_n 0, 1) := by decide +kernel
theorem eHa_fewestInAll_21 : decode prog_2_method_3_code 21 = .ok (.getfield 15, 3) := by decide +kernel
theorem eHa_fewestInAll_24 : decode prog_2_method_3_code 24 = .ok (.getfield 37, 3) := by decide +kernel
theorem eHa_fewestInAll_27 : decode prog_2_method_3_code 27 = .ok (.aload_n 0, 1) := by decide +kernel
theorem eHa_fewestInAll_28 : decode prog_2_method_3_code 28 = .ok (.getfield 23, 3) := by decide +kernel
theorem eHa_fewestInAll_31 : decode prog_2_method_3_code 31 = .ok (.invokestatic 40, 3) := by decide +kernel
theorem eHa_fewestInAll_34 : decode prog_2_method_3_code 34 = .ok (.aload_n 0, 1) := by decide +kernel
theorem eHa_fewestInAll_35 : decode prog_2_method_3_code 35 = .ok (.iconst 0, 1) := by decide +kernel
theorem eHa_fewestInAll_36 : decode prog_2_method_3_code 36 = .ok (.iconst 0, 1) := by decide +kernel
theorem eHa_fewestInAll_37 : decode prog_2_method_3_code 37 = .ok (.iconst 0, 1) := by decide +kernel
theorem eHa_fewestInAll_38 : decode prog_2_method_3_code 38 = .ok (.iconst (-1), 1) := by decide +kernel
theorem eHa_fewestInAll_39 : decode prog_2_method_3_code 39 = .ok (.iconst (-1), 1) := by decide +kernel
theorem eHa_fewestInAll_40 : decode prog_2_method_3_code 40 = .ok (.invokevirtual 54, 3) := by decide +kernel
theorem eHa_fewestInAll_43 : decode prog_2_method_3_code 43 = .ok (.aload_n 0, 1) := by decide +kernel
theorem eHa_fewestInAll_44 : decode prog_2_method_3_code 44 = .ok (.aload_n 0, 1) := by decide +kernel
theorem eHa_fewestInAll_45 : decode prog_2_method_3_code 45 = .ok (.getfield 19, 3) := by decide +kernel
theorem eHa_fewestInAll_48 : decode prog_2_method_3_code 48 = .ok (.getfield 48, 3) := by decide +kernel
theorem eHa_fewestInAll_51 : decode prog_2_method_3_code 51 = .ok (.putfield 33, 3) := by decide +kernel
theorem eHa_fewestInAll_54 : decode prog_2_method_3_code 54 = .ok (.aload_n 0, 1) := by decide +kernel
theorem eHa_fewestInAll_55 : decode prog_2_method_3_code 55 = .ok (.getfield 51, 3) := by decide +kernel
theorem eHa_fewestInAll_58 : decode prog_2_method_3_code 58 = .ok (.ireturn, 1) := by decide +kernel
theorem eHa_stepsOf_0 : decode prog_2_method_4_code 0 = .ok (.aload_n 0, 1) := by decide +kernel
theorem eHa_stepsOf_1 : decode prog_2_method_4_code 1 = .ok (.getfield 9, 3) := by decide +kernel
theorem eHa_stepsOf_4 : decode prog_2_method_4_code 4 = .ok (.iload_n 3, 1) := by decide +kernel
theorem eHa_stepsOf_5 : decode prog_2_method_4_code 5 = .ok (.invokevirtual 58, 3) := by decide +kernel
theorem eHa_stepsOf_8 : decode prog_2_method_4_code 8 = .ok (.ifCond .eq 25, 3) := by decide +kernel
theorem eHa_stepsOf_11 : decode prog_2_method_4_code 11 = .ok (.aload_n 0, 1) := by decide +kernel
theorem eHa_stepsOf_12 : decode prog_2_method_4_code 12 = .ok (.getfield 9, 3) := by decide +kernel
theorem eHa_stepsOf_15 : decode prog_2_method_4_code 15 = .ok (.iload 4, 2) := by decide +kernel
theorem eHa_stepsOf_17 : decode prog_2_method_4_code 17 = .ok (.invokevirtual 58, 3) := by decide +kernel
theorem eHa_stepsOf_20 : decode prog_2_method_4_code 20 = .ok (.ifCond .eq 13, 3) := by decide +kernel
theorem eHa_stepsOf_23 : decode prog_2_method_4_code 23 = .ok (.aload_n 0, 1) := by decide +kernel
theorem eHa_stepsOf_24 : decode prog_2_method_4_code 24 = .ok (.getfield 23, 3) := by decide +kernel
theorem eHa_stepsOf_27 : decode prog_2_method_4_code 27 = .ok (.iload_n 3, 1) := by decide +kernel
theorem eHa_stepsOf_28 : decode prog_2_method_4_code 28 = .ok (.iaload, 1) := by decide +kernel
theorem eHa_stepsOf_29 : decode prog_2_method_4_code 29 = .ok (.iconst 1, 1) := by decide +kernel
theorem eHa_stepsOf_30 : decode prog_2_method_4_code 30 = .ok (.if_icmp .ge 6, 3) := by decide +kernel
theorem eHa_stepsOf_33 : decode prog_2_method_4_code 33 = .ok (.bipush (-2), 2) := by decide +kernel
theorem eHa_stepsOf_35 : decode prog_2_method_4_code 35 = .ok (.ireturn, 1) := by decide +kernel
theorem eHa_stepsOf_36 : decode prog_2_method_4_code 36 = .ok (.aload_n 0, 1) := by decide +kernel
theorem eHa_stepsOf_37 : decode prog_2_method_4_code 37 = .ok (.getfield 9, 3) := by decide +kernel
theorem eHa_stepsOf_40 : decode prog_2_method_4_code 40 = .ok (.aload_n 0, 1) := by decide +kernel
theorem eHa_stepsOf_41 : decode prog_2_method_4_code 41 = .ok (.getfield 23, 3) := by decide +kernel
theorem eHa_stepsOf_44 : decode prog_2_method_4_code 44 = .ok (.iload_n 3, 1) := by decide +kernel
theorem eHa_stepsOf_45 : decode prog_2_method_4_code 45 = .ok (.invokevirtual 64, 3) := by decide +kernel
theorem eHa_stepsOf_48 : decode prog_2_method_4_code 48 = .ok (.istore 5, 2) := by decide +kernel
theorem eHa_stepsOf_50 : decode prog_2_method_4_code 50 = .ok (.iconst 0, 1) := by decide +kernel
theorem eHa_stepsOf_51 : decode prog_2_method_4_code 51 = .ok (.istore 6, 2) := by decide +kernel
theorem eHa_stepsOf_53 : decode prog_2_method_4_code 53 = .ok (.iload_n 1, 1) := by decide +kernel
theorem eHa_stepsOf_54 : decode prog_2_method_4_code 54 = .ok (.iconst (-1), 1) := by decide +kernel
theorem eHa_stepsOf_55 : decode prog_2_method_4_code 55 = .ok (.if_icmp .ne 18, 3) := by decide +kernel
theorem eHa_stepsOf_58 : decode prog_2_method_4_code 58 = .ok (.aload_n 0, 1) := by decide +kernel
theorem eHa_stepsOf_59 : decode prog_2_method_4_code 59 = .ok (.getfield 19, 3) := by decide +kernel
theorem eHa_stepsOf_62 : decode prog_2_method_4_code 62 = .ok (.iload_n 3, 1) := by decide +kernel
theorem eHa_stepsOf_63 : decode prog_2_method_4_code 63 = .ok (.iload 5, 2) := by decide +kernel
theorem eHa_stepsOf_65 : decode prog_2_method_4_code 65 = .ok (.invokevirtual 68, 3) := by decide +kernel
theorem eHa_stepsOf_68 : decode prog_2_method_4_code 68 = .ok (.istore 6, 2) := by decide +kernel
theorem eHa_stepsOf_70 : decode prog_2_method_4_code 70 = .ok (.goto 36, 3) := by decide +kernel
theorem eHa_stepsOf_73 : decode prog_2_method_4_code 73 = .ok (.aload_n 0, 1) := by decide +kernel
theorem eHa_stepsOf_74 : decode prog_2_method_4_code 74 = .ok (.getfield 19, 3) := by decide +kernel
theorem eHa_stepsOf_77 : decode prog_2_method_4_code 77 = .ok (.getfield 72, 3) := by decide +kernel
theorem eHa_stepsOf_80 : decode prog_2_method_4_code 80 = .ok (.aload_n 0, 1) := by decide +kernel
theorem eHa_stepsOf_81 : decode prog_2_method_4_code 81 = .ok (.getfield 9, 3) := by decide +kernel
theorem eHa_stepsOf_84 : decode prog_2_method_4_code 84 = .ok (.aload_n 0, 1) := by decide +kernel
theorem eHa_stepsOf_85 : decode prog_2_method_4_code 85 = .ok (.getfield 23, 3) := by decide +kernel
theorem eHa_stepsOf_88 : decode prog_2_method_4_code 88 = .ok (.iconst 0, 1) := by decide +kernel
theorem eHa_stepsOf_89 : decode prog_2_method_4_code 89 = .ok (.invokevirtual 76, 3) := by decide +kernel
theorem eHa_stepsOf_92 : decode prog_2_method_4_code 92 = .ok (.aload_n 0, 1) := by decide +kernel
theorem eHa_stepsOf_93 : decode prog_2_method_4_code 93 = .ok (.getfield 19, 3) := by decide +kernel
theorem eHa_stepsOf_96 : decode prog_2_method_4_code 96 = .ok (.iload_n 1, 1) := by decide +kernel
theorem eHa_stepsOf_97 : decode prog_2_method_4_code 97 = .ok (.iload_n 2, 1) := by decide +kernel
theorem eHa_stepsOf_98 : decode prog_2_method_4_code 98 = .ok (.iload_n 3, 1) := by decide +kernel
theorem eHa_stepsOf_99 : decode prog_2_method_4_code 99 = .ok (.iload 5, 2) := by decide +kernel
theorem eHa_stepsOf_101 : decode prog_2_method_4_code 101 = .ok (.invokevirtual 82, 3) := by decide +kernel
theorem eHa_stepsOf_104 : decode prog_2_method_4_code 104 = .ok (.istore 6, 2) := by decide +kernel
theorem eHa_stepsOf_106 : decode prog_2_method_4_code 106 = .ok (.iload 6, 2) := by decide +kernel
theorem eHa_stepsOf_108 : decode prog_2_method_4_code 108 = .ok (.ifCond .ge 6, 3) := by decide +kernel
theorem eHa_stepsOf_111 : decode prog_2_method_4_code 111 = .ok (.bipush (-2), 2) := by decide +kernel
theorem eHa_stepsOf_113 : decode prog_2_method_4_code 113 = .ok (.ireturn, 1) := by decide +kernel
theorem eHa_stepsOf_114 : decode prog_2_method_4_code 114 = .ok (.aload_n 0, 1) := by decide +kernel
theorem eHa_stepsOf_115 : decode prog_2_method_4_code 115 = .ok (.getfield 23, 3) := by decide +kernel
theorem eHa_stepsOf_118 : decode prog_2_method_4_code 118 = .ok (.iload_n 3, 1) := by decide +kernel
theorem eHa_stepsOf_119 : decode prog_2_method_4_code 119 = .ok (.dup2, 1) := by decide +kernel
theorem eHa_stepsOf_120 : decode prog_2_method_4_code 120 = .ok (.iaload, 1) := by decide +kernel
theorem eHa_stepsOf_121 : decode prog_2_method_4_code 121 = .ok (.iconst 1, 1) := by decide +kernel
theorem eHa_stepsOf_122 : decode prog_2_method_4_code 122 = .ok (.isub, 1) := by decide +kernel
theorem eHa_stepsOf_123 : decode prog_2_method_4_code 123 = .ok (.iastore, 1) := by decide +kernel
theorem eHa_stepsOf_124 : decode prog_2_method_4_code 124 = .ok (.aload_n 0, 1) := by decide +kernel
theorem eHa_stepsOf_125 : decode prog_2_method_4_code 125 = .ok (.getfield 19, 3) := by decide +kernel
theorem eHa_stepsOf_128 : decode prog_2_method_4_code 128 = .ok (.getfield 72, 3) := by decide +kernel
theorem eHa_stepsOf_131 : decode prog_2_method_4_code 131 = .ok (.aload_n 0, 1) := by decide +kernel
theorem eHa_stepsOf_132 : decode prog_2_method_4_code 132 = .ok (.getfield 9, 3) := by decide +kernel
theorem eHa_stepsOf_135 : decode prog_2_method_4_code 135 = .ok (.aload_n 0, 1) := by decide +kernel
theorem eHa_stepsOf_136 : decode prog_2_method_4_code 136 = .ok (.getfield 23, 3) := by decide +kernel
theorem eHa_stepsOf_139 : decode prog_2_method_4_code 139 = .ok (.iconst 1, 1) := by decide +kernel
theorem eHa_stepsOf_140 : decode prog_2_method_4_code 140 = .ok (.invokevirtual 76, 3) := by decide +kernel
theorem eHa_stepsOf_143 : decode prog_2_method_4_code 143 = .ok (.aload_n 0, 1) := by decide +kernel
theorem eHa_stepsOf_144 : decode prog_2_method_4_code 144 = .ok (.getfield 23, 3) := by decide +kernel
theorem eHa_stepsOf_147 : decode prog_2_method_4_code 147 = .ok (.iload_n 3, 1) := by decide +kernel
theorem eHa_stepsOf_148 : decode prog_2_method_4_code 148 = .ok (.dup2, 1) := by decide +kernel
theorem eHa_stepsOf_149 : decode prog_2_method_4_code 149 = .ok (.iaload, 1) := by decide +kernel
theorem eHa_stepsOf_150 : decode prog_2_method_4_code 150 = .ok (.iconst 1, 1) := by decide +kernel
theorem eHa_stepsOf_151 : decode prog_2_method_4_code 151 = .ok (.iadd, 1) := by decide +kernel
theorem eHa_stepsOf_152 : decode prog_2_method_4_code 152 = .ok (.iastore, 1) := by decide +kernel
theorem eHa_stepsOf_153 : decode prog_2_method_4_code 153 = .ok (.aload_n 0, 1) := by decide +kernel
theorem eHa_stepsOf_154 : decode prog_2_method_4_code 154 = .ok (.getfield 19, 3) := by decide +kernel
theorem eHa_stepsOf_157 : decode prog_2_method_4_code 157 = .ok (.iload_n 3, 1) := by decide +kernel
theorem eHa_stepsOf_158 : decode prog_2_method_4_code 158 = .ok (.iload 5, 2) := by decide +kernel
theorem eHa_stepsOf_160 : decode prog_2_method_4_code 160 = .ok (.iload 4, 2) := by decide +kernel
theorem eHa_stepsOf_162 : decode prog_2_method_4_code 162 = .ok (.aload_n 0, 1) := by decide +kernel
theorem eHa_stepsOf_163 : decode prog_2_method_4_code 163 = .ok (.iload 4, 2) := by decide +kernel
theorem eHa_stepsOf_165 : decode prog_2_method_4_code 165 = .ok (.invokevirtual 85, 3) := by decide +kernel
theorem eHa_stepsOf_168 : decode prog_2_method_4_code 168 = .ok (.invokevirtual 82, 3) := by decide +kernel
theorem eHa_stepsOf_171 : decode prog_2_method_4_code 171 = .ok (.istore 7, 2) := by decide +kernel
theorem eHa_stepsOf_173 : decode prog_2_method_4_code 173 = .ok (.iload 7, 2) := by decide +kernel
theorem eHa_stepsOf_175 : decode prog_2_method_4_code 175 = .ok (.ifCond .ge 8, 3) := by decide +kernel
theorem eHa_stepsOf_178 : decode prog_2_method_4_code 178 = .ok (.bipush (-2), 2) := by decide +kernel
theorem eHa_stepsOf_180 : decode prog_2_method_4_code 180 = .ok (.goto 8, 3) := by decide +kernel
theorem eHa_stepsOf_183 : decode prog_2_method_4_code 183 = .ok (.iload 6, 2) := by decide +kernel
theorem eHa_stepsOf_185 : decode prog_2_method_4_code 185 = .ok (.iload 7, 2) := by decide +kernel
theorem eHa_stepsOf_187 : decode prog_2_method_4_code 187 = .ok (.iadd, 1) := by decide +kernel
theorem eHa_stepsOf_188 : decode prog_2_method_4_code 188 = .ok (.ireturn, 1) := by decide +kernel
theorem eHa_dropDepth_0 : decode prog_2_method_5_code 0 = .ok (.aload_n 0, 1) := by decide +kernel
theorem eHa_dropDepth_1 : decode prog_2_method_5_code 1 = .ok (.getfield 9, 3) := by decide +kernel
theorem eHa_dropDepth_4 : decode prog_2_method_5_code 4 = .ok (.aload_n 0, 1) := by decide +kernel
theorem eHa_dropDepth_5 : decode prog_2_method_5_code 5 = .ok (.getfield 23, 3) := by decide +kernel
theorem eHa_dropDepth_8 : decode prog_2_method_5_code 8 = .ok (.iload_n 1, 1) := by decide +kernel
theorem eHa_dropDepth_9 : decode prog_2_method_5_code 9 = .ok (.invokevirtual 64, 3) := by decide +kernel
theorem eHa_dropDepth_12 : decode prog_2_method_5_code 12 = .ok (.iconst 1, 1) := by decide +kernel
theorem eHa_dropDepth_13 : decode prog_2_method_5_code 13 = .ok (.isub, 1) := by decide +kernel
theorem eHa_dropDepth_14 : decode prog_2_method_5_code 14 = .ok (.ireturn, 1) := by decide +kernel
theorem eHa_goOn_0 : decode prog_2_method_6_code 0 = .ok (.aload_n 0, 1) := by decide +kernel
theorem eHa_goOn_1 : decode prog_2_method_6_code 1 = .ok (.getfield 51, 3) := by decide +kernel
theorem eHa_goOn_4 : decode prog_2_method_6_code 4 = .ok (.ifCond .lt 12, 3) := by decide +kernel
theorem eHa_goOn_7 : decode prog_2_method_6_code 7 = .ok (.iload_n 3, 1) := by decide +kernel
theorem eHa_goOn_8 : decode prog_2_method_6_code 8 = .ok (.aload_n 0, 1) := by decide +kernel
theorem eHa_goOn_9 : decode prog_2_method_6_code 9 = .ok (.getfield 51, 3) := by decide +kernel
theorem eHa_goOn_12 : decode prog_2_method_6_code 12 = .ok (.if_icmp .lt 4, 3) := by decide +kernel
theorem eHa_goOn_15 : decode prog_2_method_6_code 15 = .ok (.return_, 1) := by decide +kernel
theorem eHa_goOn_16 : decode prog_2_method_6_code 16 = .ok (.iload_n 1, 1) := by decide +kernel
theorem eHa_goOn_17 : decode prog_2_method_6_code 17 = .ok (.aload_n 0, 1) := by decide +kernel
theorem eHa_goOn_18 : decode prog_2_method_6_code 18 = .ok (.getfield 9, 3) := by decide +kernel
theorem eHa_goOn_21 : decode prog_2_method_6_code 21 = .ok (.getfield 89, 3) := by decide +kernel
theorem eHa_goOn_24 : decode prog_2_method_6_code 24 = .ok (.bipush 10, 2) := by decide +kernel
theorem eHa_goOn_26 : decode prog_2_method_6_code 26 = .ok (.iaload, 1) := by decide +kernel
theorem eHa_goOn_27 : decode prog_2_method_6_code 27 = .ok (.if_icmp .ge 12, 3) := by decide +kernel
theorem eHa_goOn_30 : decode prog_2_method_6_code 30 = .ok (.iload_n 1, 1) := by decide +kernel
theorem eHa_goOn_31 : decode prog_2_method_6_code 31 = .ok (.aload_n 0, 1) := by decide +kernel
theorem eHa_goOn_32 : decode prog_2_method_6_code 32 = .ok (.getfield 27, 3) := by decide +kernel
theorem eHa_goOn_35 : decode prog_2_method_6_code 35 = .ok (.arraylength, 1) := by decide +kernel
theorem eHa_goOn_36 : decode prog_2_method_6_code 36 = .ok (.if_icmp .lt 20, 3) := by decide +kernel
theorem eHa_goOn_39 : decode prog_2_method_6_code 39 = .ok (.aload_n 0, 1) := by decide +kernel
theorem eHa_goOn_40 : decode prog_2_method_6_code 40 = .ok (.iload_n 3, 1) := by decide +kernel
theorem eHa_goOn_41 : decode prog_2_method_6_code 41 = .ok (.putfield 51, 3) := by decide +kernel
theorem eHa_goOn_44 : decode prog_2_method_6_code 44 = .ok (.aload_n 0, 1) := by decide +kernel
theorem eHa_goOn_45 : decode prog_2_method_6_code 45 = .ok (.getfield 27, 3) := by decide +kernel
theorem eHa_goOn_48 : decode prog_2_method_6_code 48 = .ok (.aload_n 0, 1) := by decide +kernel
theorem eHa_goOn_49 : decode prog_2_method_6_code 49 = .ok (.getfield 30, 3) := by decide +kernel
theorem eHa_goOn_52 : decode prog_2_method_6_code 52 = .ok (.invokestatic 40, 3) := by decide +kernel
theorem eHa_goOn_55 : decode prog_2_method_6_code 55 = .ok (.return_, 1) := by decide +kernel
theorem eHa_goOn_56 : decode prog_2_method_6_code 56 = .ok (.iconst 0, 1) := by decide +kernel
theorem eHa_goOn_57 : decode prog_2_method_6_code 57 = .ok (.istore 6, 2) := by decide +kernel
theorem eHa_goOn_59 : decode prog_2_method_6_code 59 = .ok (.iload 6, 2) := by decide +kernel
theorem eHa_goOn_61 : decode prog_2_method_6_code 61 = .ok (.aload_n 0, 1) := by decide +kernel
theorem eHa_goOn_62 : decode prog_2_method_6_code 62 = .ok (.getfield 9, 3) := by decide +kernel
theorem eHa_goOn_65 : decode prog_2_method_6_code 65 = .ok (.getfield 89, 3) := by decide +kernel
theorem eHa_goOn_68 : decode prog_2_method_6_code 68 = .ok (.bipush 10, 2) := by decide +kernel
theorem eHa_goOn_70 : decode prog_2_method_6_code 70 = .ok (.iaload, 1) := by decide +kernel
theorem eHa_goOn_71 : decode prog_2_method_6_code 71 = .ok (.if_icmp .ge 181, 3) := by decide +kernel
theorem eHa_goOn_74 : decode prog_2_method_6_code 74 = .ok (.iload 6, 2) := by decide +kernel
theorem eHa_goOn_76 : decode prog_2_method_6_code 76 = .ok (.iconst 3, 1) := by decide +kernel
theorem eHa_goOn_77 : decode prog_2_method_6_code 77 = .ok (.if_icmp .ge 175, 3) := by decide +kernel
theorem eHa_goOn_80 : decode prog_2_method_6_code 80 = .ok (.aload_n 0, 1) := by decide +kernel
theorem eHa_goOn_81 : decode prog_2_method_6_code 81 = .ok (.getfield 9, 3) := by decide +kernel
theorem eHa_goOn_84 : decode prog_2_method_6_code 84 = .ok (.getfield 92, 3) := by decide +kernel
theorem eHa_goOn_87 : decode prog_2_method_6_code 87 = .ok (.iload 6, 2) := by decide +kernel
theorem eHa_goOn_89 : decode prog_2_method_6_code 89 = .ok (.iaload, 1) := by decide +kernel
theorem eHa_goOn_90 : decode prog_2_method_6_code 90 = .ok (.istore 7, 2) := by decide +kernel
theorem eHa_goOn_92 : decode prog_2_method_6_code 92 = .ok (.aload_n 0, 1) := by decide +kernel
theorem eHa_goOn_93 : decode prog_2_method_6_code 93 = .ok (.getfield 9, 3) := by decide +kernel
theorem eHa_goOn_96 : decode prog_2_method_6_code 96 = .ok (.getfield 95, 3) := by decide +kernel
theorem eHa_goOn_99 : decode prog_2_method_6_code 99 = .ok (.iload 6, 2) := by decide +kernel
theorem eHa_goOn_101 : decode prog_2_method_6_code 101 = .ok (.iaload, 1) := by decide +kernel
theorem eHa_goOn_102 : decode prog_2_method_6_code 102 = .ok (.istore 8, 2) := by decide +kernel
theorem eHa_goOn_104 : decode prog_2_method_6_code 104 = .ok (.iload_n 2, 1) := by decide +kernel
theorem eHa_goOn_105 : decode prog_2_method_6_code 105 = .ok (.iload 6, 2) := by decide +kernel
theorem eHa_goOn_107 : decode prog_2_method_6_code 107 = .ok (.ishr, 1) := by decide +kernel
theorem eHa_goOn_108 : decode prog_2_method_6_code 108 = .ok (.iconst 1, 1) := by decide +kernel
theorem eHa_goOn_109 : decode prog_2_method_6_code 109 = .ok (.iand, 1) := by decide +kernel
theorem eHa_goOn_110 : decode prog_2_method_6_code 110 = .ok (.ifCond .eq 8, 3) := by decide +kernel
theorem eHa_goOn_113 : decode prog_2_method_6_code 113 = .ok (.bipush (-2), 2) := by decide +kernel
theorem eHa_goOn_115 : decode prog_2_method_6_code 115 = .ok (.goto 15, 3) := by decide +kernel
theorem eHa_goOn_118 : decode prog_2_method_6_code 118 = .ok (.aload_n 0, 1) := by decide +kernel
theorem eHa_goOn_119 : decode prog_2_method_6_code 119 = .ok (.iload 4, 2) := by decide +kernel
theorem eHa_goOn_121 : decode prog_2_method_6_code 121 = .ok (.iload 5, 2) := by decide +kernel
theorem eHa_goOn_123 : decode prog_2_method_6_code 123 = .ok (.iload 7, 2) := by decide +kernel
theorem eHa_goOn_125 : decode prog_2_method_6_code 125 = .ok (.iload 8, 2) := by decide +kernel
theorem eHa_goOn_127 : decode prog_2_method_6_code 127 = .ok (.invokevirtual 44, 3) := by decide +kernel
theorem eHa_goOn_130 : decode prog_2_method_6_code 130 = .ok (.istore 9, 2) := by decide +kernel
theorem eHa_goOn_132 : decode prog_2_method_6_code 132 = .ok (.iload 9, 2) := by decide +kernel
theorem eHa_goOn_134 : decode prog_2_method_6_code 134 = .ok (.ifCond .lt 112, 3) := by decide +kernel
theorem eHa_goOn_137 : decode prog_2_method_6_code 137 = .ok (.aload_n 0, 1) := by decide +kernel
theorem eHa_goOn_138 : decode prog_2_method_6_code 138 = .ok (.getfield 9, 3) := by decide +kernel
theorem eHa_goOn_141 : decode prog_2_method_6_code 141 = .ok (.iload 7, 2) := by decide +kernel
theorem eHa_goOn_143 : decode prog_2_method_6_code 143 = .ok (.invokevirtual 58, 3) := by decide +kernel
theorem eHa_goOn_146 : decode prog_2_method_6_code 146 = .ok (.ifCond .eq 100, 3) := by decide +kernel
theorem eHa_goOn_149 : decode prog_2_method_6_code 149 = .ok (.aload_n 0, 1) := by decide +kernel
theorem eHa_goOn_150 : decode prog_2_method_6_code 150 = .ok (.getfield 9, 3) := by decide +kernel
theorem eHa_goOn_153 : decode prog_2_method_6_code 153 = .ok (.iload 8, 2) := by decide +kernel
theorem eHa_goOn_155 : decode prog_2_method_6_code 155 = .ok (.invokevirtual 58, 3) := by decide +kernel
theorem eHa_goOn_158 : decode prog_2_method_6_code 158 = .ok (.ifCond .eq 88, 3) := by decide +kernel
theorem eHa_goOn_161 : decode prog_2_method_6_code 161 = .ok (.iload_n 1, 1) := by decide +kernel
theorem eHa_goOn_162 : decode prog_2_method_6_code 162 = .ok (.ifCond .lt 84, 3) := by decide +kernel
theorem eHa_goOn_165 : decode prog_2_method_6_code 165 = .ok (.aload_n 0, 1) := by decide +kernel
theorem eHa_goOn_166 : decode prog_2_method_6_code 166 = .ok (.iload 8, 2) := by decide +kernel
theorem eHa_goOn_168 : decode prog_2_method_6_code 168 = .ok (.invokevirtual 85, 3) := by decide +kernel
theorem eHa_goOn_171 : decode prog_2_method_6_code 171 = .ok (.istore 10, 2) := by decide +kernel
theorem eHa_goOn_173 : decode prog_2_method_6_code 173 = .ok (.aload_n 0, 1) := by decide +kernel
theorem eHa_goOn_174 : decode prog_2_method_6_code 174 = .ok (.getfield 27, 3) := by decide +kernel
theorem eHa_goOn_177 : decode prog_2_method_6_code 177 = .ok (.iload_n 1, 1) := by decide +kernel
theorem eHa_goOn_178 : decode prog_2_method_6_code 178 = .ok (.iload 6, 2) := by decide +kernel
theorem eHa_goOn_180 : decode prog_2_method_6_code 180 = .ok (.iastore, 1) := by decide +kernel
theorem eHa_goOn_181 : decode prog_2_method_6_code 181 = .ok (.aload_n 0, 1) := by decide +kernel
theorem eHa_goOn_182 : decode prog_2_method_6_code 182 = .ok (.getfield 23, 3) := by decide +kernel
theorem eHa_goOn_185 : decode prog_2_method_6_code 185 = .ok (.iload 7, 2) := by decide +kernel
theorem eHa_goOn_187 : decode prog_2_method_6_code 187 = .ok (.dup2, 1) := by decide +kernel
theorem eHa_goOn_188 : decode prog_2_method_6_code 188 = .ok (.iaload, 1) := by decide +kernel
theorem eHa_goOn_189 : decode prog_2_method_6_code 189 = .ok (.iconst 1, 1) := by decide +kernel
theorem eHa_goOn_190 : decode prog_2_method_6_code 190 = .ok (.isub, 1) := by decide +kernel
theorem eHa_goOn_191 : decode prog_2_method_6_code 191 = .ok (.iastore, 1) := by decide +kernel
theorem eHa_goOn_192 : decode prog_2_method_6_code 192 = .ok (.aload_n 0, 1) := by decide +kernel
theorem eHa_goOn_193 : decode prog_2_method_6_code 193 = .ok (.getfield 23, 3) := by decide +kernel
theorem eHa_goOn_196 : decode prog_2_method_6_code 196 = .ok (.iload 8, 2) := by decide +kernel
theorem eHa_goOn_198 : decode prog_2_method_6_code 198 = .ok (.dup2, 1) := by decide +kernel
theorem eHa_goOn_199 : decode prog_2_method_6_code 199 = .ok (.iaload, 1) := by decide +kernel
theorem eHa_goOn_200 : decode prog_2_method_6_code 200 = .ok (.iconst 1, 1) := by decide +kernel
theorem eHa_goOn_201 : decode prog_2_method_6_code 201 = .ok (.iadd, 1) := by decide +kernel
theorem eHa_goOn_202 : decode prog_2_method_6_code 202 = .ok (.iastore, 1) := by decide +kernel
theorem eHa_goOn_203 : decode prog_2_method_6_code 203 = .ok (.aload_n 0, 1) := by decide +kernel
theorem eHa_goOn_204 : decode prog_2_method_6_code 204 = .ok (.iload_n 1, 1) := by decide +kernel
theorem eHa_goOn_205 : decode prog_2_method_6_code 205 = .ok (.iconst 1, 1) := by decide +kernel
theorem eHa_goOn_206 : decode prog_2_method_6_code 206 = .ok (.iadd, 1) := by decide +kernel
theorem eHa_goOn_207 : decode prog_2_method_6_code 207 = .ok (.iload_n 2, 1) := by decide +kernel
theorem eHa_goOn_208 : decode prog_2_method_6_code 208 = .ok (.iconst 1, 1) := by decide +kernel
theorem eHa_goOn_209 : decode prog_2_method_6_code 209 = .ok (.iload 6, 2) := by decide +kernel
theorem eHa_goOn_211 : decode prog_2_method_6_code 211 = .ok (.ishl, 1) := by decide +kernel
theorem eHa_goOn_212 : decode prog_2_method_6_code 212 = .ok (.ior, 1) := by decide +kernel
theorem eHa_goOn_213 : decode prog_2_method_6_code 213 = .ok (.iload_n 3, 1) := by decide +kernel
theorem eHa_goOn_214 : decode prog_2_method_6_code 214 = .ok (.iload 9, 2) := by decide +kernel
theorem eHa_goOn_216 : decode prog_2_method_6_code 216 = .ok (.iadd, 1) := by decide +kernel
theorem eHa_goOn_217 : decode prog_2_method_6_code 217 = .ok (.iload 8, 2) := by decide +kernel
theorem eHa_goOn_219 : decode prog_2_method_6_code 219 = .ok (.iload 10, 2) := by decide +kernel
theorem eHa_goOn_221 : decode prog_2_method_6_code 221 = .ok (.invokevirtual 54, 3) := by decide +kernel
theorem eHa_goOn_224 : decode prog_2_method_6_code 224 = .ok (.aload_n 0, 1) := by decide +kernel
theorem eHa_goOn_225 : decode prog_2_method_6_code 225 = .ok (.getfield 23, 3) := by decide +kernel
theorem eHa_goOn_228 : decode prog_2_method_6_code 228 = .ok (.iload 7, 2) := by decide +kernel
theorem eHa_goOn_230 : decode prog_2_method_6_code 230 = .ok (.dup2, 1) := by decide +kernel
theorem eHa_goOn_231 : decode prog_2_method_6_code 231 = .ok (.iaload, 1) := by decide +kernel
theorem eHa_goOn_232 : decode prog_2_method_6_code 232 = .ok (.iconst 1, 1) := by decide +kernel
theorem eHa_goOn_233 : decode prog_2_method_6_code 233 = .ok (.iadd, 1) := by decide +kernel
theorem eHa_goOn_234 : decode prog_2_method_6_code 234 = .ok (.iastore, 1) := by decide +kernel
theorem eHa_goOn_235 : decode prog_2_method_6_code 235 = .ok (.aload_n 0, 1) := by decide +kernel
theorem eHa_goOn_236 : decode prog_2_method_6_code 236 = .ok (.getfield 23, 3) := by decide +kernel
theorem eHa_goOn_239 : decode prog_2_method_6_code 239 = .ok (.iload 8, 2) := by decide +kernel
theorem eHa_goOn_241 : decode prog_2_method_6_code 241 = .ok (.dup2, 1) := by decide +kernel
theorem eHa_goOn_242 : decode prog_2_method_6_code 242 = .ok (.iaload, 1) := by decide +kernel
theorem eHa_goOn_243 : decode prog_2_method_6_code 243 = .ok (.iconst 1, 1) := by decide +kernel
theorem eHa_goOn_244 : decode prog_2_method_6_code 244 = .ok (.isub, 1) := by decide +kernel
theorem eHa_goOn_245 : decode prog_2_method_6_code 245 = .ok (.iastore, 1) := by decide +kernel
theorem eHa_goOn_246 : decode prog_2_method_6_code 246 = .ok (.iinc 6 1, 3) := by decide +kernel
theorem eHa_goOn_249 : decode prog_2_method_6_code 249 = .ok (.goto (-190), 3) := by decide +kernel
theorem eHa_goOn_252 : decode prog_2_method_6_code 252 = .ok (.return_, 1) := by decide +kernel
theorem eLo_init_0 : decode prog_3_method_1_code 0 = .ok (.aload_n 0, 1) := by decide +kernel
theorem eLo_init_1 : decode prog_3_method_1_code 1 = .ok (.invokespecial 3, 3) := by decide +kernel
theorem eLo_init_4 : decode prog_3_method_1_code 4 = .ok (.aload_n 0, 1) := by decide +kernel
theorem eLo_init_5 : decode prog_3_method_1_code 5 = .ok (.bipush 70, 2) := by decide +kernel
theorem eLo_init_7 : decode prog_3_method_1_code 7 = .ok (.newarray .int, 2) := by decide +kernel
theorem eLo_init_9 : decode prog_3_method_1_code 9 = .ok (.putfield 9, 3) := by decide +kernel
theorem eLo_init_12 : decode prog_3_method_1_code 12 = .ok (.return_, 1) := by decide +kernel
theorem eLo_clear_0 : decode prog_3_method_2_code 0 = .ok (.aload_n 0, 1) := by decide +kernel
theorem eLo_clear_1 : decode prog_3_method_2_code 1 = .ok (.iconst 0, 1) := by decide +kernel
theorem eLo_clear_2 : decode prog_3_method_2_code 2 = .ok (.putfield 15, 3) := by decide +kernel
theorem eLo_clear_5 : decode prog_3_method_2_code 5 = .ok (.aload_n 0, 1) := by decide +kernel
theorem eLo_clear_6 : decode prog_3_method_2_code 6 = .ok (.iconst 0, 1) := by decide +kernel
theorem eLo_clear_7 : decode prog_3_method_2_code 7 = .ok (.putfield 19, 3) := by decide +kernel
theorem eLo_clear_10 : decode prog_3_method_2_code 10 = .ok (.return_, 1) := by decide +kernel
theorem eLo_set_0 : decode prog_3_method_3_code 0 = .ok (.aload_n 1, 1) := by decide +kernel
theorem eLo_set_1 : decode prog_3_method_3_code 1 = .ok (.getfield 9, 3) := by decide +kernel
theorem eLo_set_4 : decode prog_3_method_3_code 4 = .ok (.aload_n 0, 1) := by decide +kernel
theorem eLo_set_5 : decode prog_3_method_3_code 5 = .ok (.getfield 9, 3) := by decide +kernel
theorem eLo_set_8 : decode prog_3_method_3_code 8 = .ok (.invokestatic 22, 3) := by decide +kernel
theorem eLo_set_11 : decode prog_3_method_3_code 11 = .ok (.aload_n 0, 1) := by decide +kernel
theorem eLo_set_12 : decode prog_3_method_3_code 12 = .ok (.aload_n 1, 1) := by decide +kernel
theorem eLo_set_13 : decode prog_3_method_3_code 13 = .ok (.getfield 15, 3) := by decide +kernel
theorem eLo_set_16 : decode prog_3_method_3_code 16 = .ok (.putfield 15, 3) := by decide +kernel
theorem eLo_set_19 : decode prog_3_method_3_code 19 = .ok (.aload_n 0, 1) := by decide +kernel
theorem eLo_set_20 : decode prog_3_method_3_code 20 = .ok (.aload_n 1, 1) := by decide +kernel
theorem eLo_set_21 : decode prog_3_method_3_code 21 = .ok (.getfield 19, 3) := by decide +kernel
theorem eLo_set_24 : decode prog_3_method_3_code 24 = .ok (.putfield 19, 3) := by decide +kernel
theorem eLo_set_27 : decode prog_3_method_3_code 27 = .ok (.return_, 1) := by decide +kernel
theorem eLo_shown_0 : decode prog_3_method_4_code 0 = .ok (.bipush 40, 2) := by decide +kernel
theorem eLo_shown_2 : decode prog_3_method_4_code 2 = .ok (.aload_n 0, 1) := by decide +kernel
theorem eLo_shown_3 : decode prog_3_method_4_code 3 = .ok (.getfield 19, 3) := by decide +kernel
theorem eLo_shown_6 : decode prog_3_method_4_code 6 = .ok (.invokestatic 26, 3) := by decide +kernel
theorem eLo_shown_9 : decode prog_3_method_4_code 9 = .ok (.ireturn, 1) := by decide +kernel
theorem eLo_add_0 : decode prog_3_method_5_code 0 = .ok (.aload_n 0, 1) := by decide +kernel
theorem eLo_add_1 : decode prog_3_method_5_code 1 = .ok (.getfield 15, 3) := by decide +kernel
theorem eLo_add_4 : decode prog_3_method_5_code 4 = .ok (.ifCond .lt 15, 3) := by decide +kernel
theorem eLo_add_7 : decode prog_3_method_5_code 7 = .ok (.aload_n 0, 1) := by decide +kernel
theorem eLo_add_8 : decode prog_3_method_5_code 8 = .ok (.getfield 15, 3) := by decide +kernel
theorem eLo_add_11 : decode prog_3_method_5_code 11 = .ok (.aload_n 0, 1) := by decide +kernel
theorem eLo_add_12 : decode prog_3_method_5_code 12 = .ok (.getfield 9, 3) := by decide +kernel
theorem eLo_add_15 : decode prog_3_method_5_code 15 = .ok (.arraylength, 1) := by decide +kernel
theorem eLo_add_16 : decode prog_3_method_5_code 16 = .ok (.if_icmp .lt 4, 3) := by decide +kernel
theorem eLo_add_19 : decode prog_3_method_5_code 19 = .ok (.return_, 1) := by decide +kernel
theorem eLo_add_20 : decode prog_3_method_5_code 20 = .ok (.iload_n 1, 1) := by decide +kernel
theorem eLo_add_21 : decode prog_3_method_5_code 21 = .ok (.iconst 3, 1) := by decide +kernel
theorem eLo_add_22 : decode prog_3_method_5_code 22 = .ok (.irem, 1) := by decide +kernel
theorem eLo_add_23 : decode prog_3_method_5_code 23 = .ok (.ifCond .ne 7, 3) := by decide +kernel
theorem eLo_add_26 : decode prog_3_method_5_code 26 = .ok (.iconst 1, 1) := by decide +kernel
theorem eLo_add_27 : decode prog_3_method_5_code 27 = .ok (.goto 4, 3) := by decide +kernel
theorem eLo_add_30 : decode prog_3_method_5_code 30 = .ok (.iconst 0, 1) := by decide +kernel
theorem eLo_add_31 : decode prog_3_method_5_code 31 = .ok (.istore_n 3, 1) := by decide +kernel
theorem eLo_add_32 : decode prog_3_method_5_code 32 = .ok (.aload_n 0, 1) := by decide +kernel
theorem eLo_add_33 : decode prog_3_method_5_code 33 = .ok (.getfield 9, 3) := by decide +kernel
theorem eLo_add_36 : decode prog_3_method_5_code 36 = .ok (.aload_n 0, 1) := by decide +kernel
theorem eLo_add_37 : decode prog_3_method_5_code 37 = .ok (.getfield 15, 3) := by decide +kernel
theorem eLo_add_40 : decode prog_3_method_5_code 40 = .ok (.iload_n 2, 1) := by decide +kernel
theorem eLo_add_41 : decode prog_3_method_5_code 41 = .ok (.bipush 9, 2) := by decide +kernel
theorem eLo_add_43 : decode prog_3_method_5_code 43 = .ok (.ishl, 1) := by decide +kernel
theorem eLo_add_44 : decode prog_3_method_5_code 44 = .ok (.iload_n 3, 1) := by decide +kernel
theorem eLo_add_45 : decode prog_3_method_5_code 45 = .ok (.bipush 8, 2) := by decide +kernel
theorem eLo_add_47 : decode prog_3_method_5_code 47 = .ok (.ishl, 1) := by decide +kernel
theorem eLo_add_48 : decode prog_3_method_5_code 48 = .ok (.ior, 1) := by decide +kernel
theorem eLo_add_49 : decode prog_3_method_5_code 49 = .ok (.iload_n 1, 1) := by decide +kernel
theorem eLo_add_50 : decode prog_3_method_5_code 50 = .ok (.invokestatic 32, 3) := by decide +kernel
theorem eLo_add_53 : decode prog_3_method_5_code 53 = .ok (.ior, 1) := by decide +kernel
theorem eLo_add_54 : decode prog_3_method_5_code 54 = .ok (.iastore, 1) := by decide +kernel
theorem eLo_add_55 : decode prog_3_method_5_code 55 = .ok (.aload_n 0, 1) := by decide +kernel
theorem eLo_add_56 : decode prog_3_method_5_code 56 = .ok (.aload_n 0, 1) := by decide +kernel
theorem eLo_add_57 : decode prog_3_method_5_code 57 = .ok (.getfield 15, 3) := by decide +kernel
theorem eLo_add_60 : decode prog_3_method_5_code 60 = .ok (.iconst 1, 1) := by decide +kernel
theorem eLo_add_61 : decode prog_3_method_5_code 61 = .ok (.iadd, 1) := by decide +kernel
theorem eLo_add_62 : decode prog_3_method_5_code 62 = .ok (.aload_n 0, 1) := by decide +kernel
theorem eLo_add_63 : decode prog_3_method_5_code 63 = .ok (.getfield 9, 3) := by decide +kernel
theorem eLo_add_66 : decode prog_3_method_5_code 66 = .ok (.arraylength, 1) := by decide +kernel
theorem eLo_add_67 : decode prog_3_method_5_code 67 = .ok (.if_icmp .ge 12, 3) := by decide +kernel
theorem eLo_add_70 : decode prog_3_method_5_code 70 = .ok (.aload_n 0, 1) := by decide +kernel
theorem eLo_add_71 : decode prog_3_method_5_code 71 = .ok (.getfield 15, 3) := by decide +kernel
theorem eLo_add_74 : decode prog_3_method_5_code 74 = .ok (.iconst 1, 1) := by decide +kernel
theorem eLo_add_75 : decode prog_3_method_5_code 75 = .ok (.iadd, 1) := by decide +kernel
theorem eLo_add_76 : decode prog_3_method_5_code 76 = .ok (.goto 4, 3) := by decide +kernel
theorem eLo_add_79 : decode prog_3_method_5_code 79 = .ok (.iconst 0, 1) := by decide +kernel
theorem eLo_add_80 : decode prog_3_method_5_code 80 = .ok (.putfield 15, 3) := by decide +kernel
theorem eLo_add_83 : decode prog_3_method_5_code 83 = .ok (.aload_n 0, 1) := by decide +kernel
theorem eLo_add_84 : decode prog_3_method_5_code 84 = .ok (.aload_n 0, 1) := by decide +kernel
theorem eLo_add_85 : decode prog_3_method_5_code 85 = .ok (.getfield 9, 3) := by decide +kernel
theorem eLo_add_88 : decode prog_3_method_5_code 88 = .ok (.arraylength, 1) := by decide +kernel
theorem eLo_add_89 : decode prog_3_method_5_code 89 = .ok (.aload_n 0, 1) := by decide +kernel
theorem eLo_add_90 : decode prog_3_method_5_code 90 = .ok (.getfield 19, 3) := by decide +kernel
theorem eLo_add_93 : decode prog_3_method_5_code 93 = .ok (.iconst 1, 1) := by decide +kernel
theorem eLo_add_94 : decode prog_3_method_5_code 94 = .ok (.iadd, 1) := by decide +kernel
theorem eLo_add_95 : decode prog_3_method_5_code 95 = .ok (.invokestatic 26, 3) := by decide +kernel
theorem eLo_add_98 : decode prog_3_method_5_code 98 = .ok (.putfield 19, 3) := by decide +kernel
theorem eLo_add_101 : decode prog_3_method_5_code 101 = .ok (.return_, 1) := by decide +kernel
theorem eLo_letterOf_0 : decode prog_3_method_6_code 0 = .ok (.iload_n 0, 1) := by decide +kernel
theorem eLo_letterOf_1 : decode prog_3_method_6_code 1 = .ok (.iconst 3, 1) := by decide +kernel
theorem eLo_letterOf_2 : decode prog_3_method_6_code 2 = .ok (.if_icmp .ge 8, 3) := by decide +kernel
theorem eLo_letterOf_5 : decode prog_3_method_6_code 5 = .ok (.bipush 119, 2) := by decide +kernel
theorem eLo_letterOf_7 : decode prog_3_method_6_code 7 = .ok (.goto 16, 3) := by decide +kernel
theorem eLo_letterOf_10 : decode prog_3_method_6_code 10 = .ok (.iload_n 0, 1) := by decide +kernel
theorem eLo_letterOf_11 : decode prog_3_method_6_code 11 = .ok (.bipush 6, 2) := by decide +kernel
theorem eLo_letterOf_13 : decode prog_3_method_6_code 13 = .ok (.if_icmp .ge 8, 3) := by decide +kernel
theorem eLo_letterOf_16 : decode prog_3_method_6_code 16 = .ok (.bipush 110, 2) := by decide +kernel
theorem eLo_letterOf_18 : decode prog_3_method_6_code 18 = .ok (.goto 5, 3) := by decide +kernel
theorem eLo_letterOf_21 : decode prog_3_method_6_code 21 = .ok (.bipush 101, 2) := by decide +kernel
theorem eLo_letterOf_23 : decode prog_3_method_6_code 23 = .ok (.istore_n 1, 1) := by decide +kernel
theorem eLo_letterOf_24 : decode prog_3_method_6_code 24 = .ok (.iload_n 0, 1) := by decide +kernel
theorem eLo_letterOf_25 : decode prog_3_method_6_code 25 = .ok (.iconst 3, 1) := by decide +kernel
theorem eLo_letterOf_26 : decode prog_3_method_6_code 26 = .ok (.irem, 1) := by decide +kernel
theorem eLo_letterOf_27 : decode prog_3_method_6_code 27 = .ok (.iconst 2, 1) := by decide +kernel
theorem eLo_letterOf_28 : decode prog_3_method_6_code 28 = .ok (.if_icmp .ne 10, 3) := by decide +kernel
theorem eLo_letterOf_31 : decode prog_3_method_6_code 31 = .ok (.iload_n 1, 1) := by decide +kernel
theorem eLo_letterOf_32 : decode prog_3_method_6_code 32 = .ok (.bipush 32, 2) := by decide +kernel
theorem eLo_letterOf_34 : decode prog_3_method_6_code 34 = .ok (.isub, 1) := by decide +kernel
theorem eLo_letterOf_35 : decode prog_3_method_6_code 35 = .ok (.goto 4, 3) := by decide +kernel
theorem eLo_letterOf_38 : decode prog_3_method_6_code 38 = .ok (.iload_n 1, 1) := by decide +kernel
theorem eLo_letterOf_39 : decode prog_3_method_6_code 39 = .ok (.ireturn, 1) := by decide +kernel
theorem eLo_forget_0 : decode prog_3_method_7_code 0 = .ok (.aload_n 0, 1) := by decide +kernel
theorem eLo_forget_1 : decode prog_3_method_7_code 1 = .ok (.getfield 19, 3) := by decide +kernel
theorem eLo_forget_4 : decode prog_3_method_7_code 4 = .ok (.ifCond .le 40, 3) := by decide +kernel
theorem eLo_forget_7 : decode prog_3_method_7_code 7 = .ok (.aload_n 0, 1) := by decide +kernel
theorem eLo_forget_8 : decode prog_3_method_7_code 8 = .ok (.aload_n 0, 1) := by decide +kernel
theorem eLo_forget_9 : decode prog_3_method_7_code 9 = .ok (.getfield 15, 3) := by decide +kernel
theorem eLo_forget_12 : decode prog_3_method_7_code 12 = .ok (.ifCond .le 12, 3) := by decide +kernel
theorem eLo_forget_15 : decode prog_3_method_7_code 15 = .ok (.aload_n 0, 1) := by decide +kernel
theorem eLo_forget_16 : decode prog_3_method_7_code 16 = .ok (.getfield 15, 3) := by decide +kernel
theorem eLo_forget_19 : decode prog_3_method_7_code 19 = .ok (.iconst 1, 1) := by decide +kernel
theorem eLo_forget_20 : decode prog_3_method_7_code 20 = .ok (.isub, 1) := by decide +kernel
theorem eLo_forget_21 : decode prog_3_method_7_code 21 = .ok (.goto 10, 3) := by decide +kernel
theorem eLo_forget_24 : decode prog_3_method_7_code 24 = .ok (.aload_n 0, 1) := by decide +kernel
theorem eLo_forget_25 : decode prog_3_method_7_code 25 = .ok (.getfield 9, 3) := by decide +kernel
theorem eLo_forget_28 : decode prog_3_method_7_code 28 = .ok (.arraylength, 1) := by decide +kernel
theorem eLo_forget_29 : decode prog_3_method_7_code 29 = .ok (.iconst 1, 1) := by decide +kernel
theorem eLo_forget_30 : decode prog_3_method_7_code 30 = .ok (.isub, 1) := by decide +kernel
theorem eLo_forget_31 : decode prog_3_method_7_code 31 = .ok (.putfield 15, 3) := by decide +kernel
theorem eLo_forget_34 : decode prog_3_method_7_code 34 = .ok (.aload_n 0, 1) := by decide +kernel
theorem eLo_forget_35 : decode prog_3_method_7_code 35 = .ok (.dup, 1) := by decide +kernel
theorem eLo_forget_36 : decode prog_3_method_7_code 36 = .ok (.getfield 19, 3) := by decide +kernel
theorem eLo_forget_39 : decode prog_3_method_7_code 39 = .ok (.iconst 1, 1) := by decide +kernel
theorem eLo_forget_40 : decode prog_3_method_7_code 40 = .ok (.isub, 1) := by decide +kernel
theorem eLo_forget_41 : decode prog_3_method_7_code 41 = .ok (.putfield 19, 3) := by decide +kernel
theorem eLo_forget_44 : decode prog_3_method_7_code 44 = .ok (.return_, 1) := by decide +kernel
theorem eLo_latest_0 : decode prog_3_method_8_code 0 = .ok (.aload_n 0, 1) := by decide +kernel
theorem eLo_latest_1 : decode prog_3_method_8_code 1 = .ok (.getfield 15, 3) := by decide +kernel
theorem eLo_latest_4 : decode prog_3_method_8_code 4 = .ok (.iconst 1, 1) := by decide +kernel
theorem eLo_latest_5 : decode prog_3_method_8_code 5 = .ok (.isub, 1) := by decide +kernel
theorem eLo_latest_6 : decode prog_3_method_8_code 6 = .ok (.iload_n 1, 1) := by decide +kernel
theorem eLo_latest_7 : decode prog_3_method_8_code 7 = .ok (.isub, 1) := by decide +kernel
theorem eLo_latest_8 : decode prog_3_method_8_code 8 = .ok (.istore_n 2, 1) := by decide +kernel
theorem eLo_latest_9 : decode prog_3_method_8_code 9 = .ok (.iload_n 2, 1) := by decide +kernel
theorem eLo_latest_10 : decode prog_3_method_8_code 10 = .ok (.ifCond .ge 11, 3) := by decide +kernel
theorem eLo_latest_13 : decode prog_3_method_8_code 13 = .ok (.iload_n 2, 1) := by decide +kernel
theorem eLo_latest_14 : decode prog_3_method_8_code 14 = .ok (.aload_n 0, 1) := by decide +kernel
theorem eLo_latest_15 : decode prog_3_method_8_code 15 = .ok (.getfield 9, 3) := by decide +kernel
theorem eLo_latest_18 : decode prog_3_method_8_code 18 = .ok (.arraylength, 1) := by decide +kernel
theorem eLo_latest_19 : decode prog_3_method_8_code 19 = .ok (.iadd, 1) := by decide +kernel
theorem eLo_latest_20 : decode prog_3_method_8_code 20 = .ok (.istore_n 2, 1) := by decide +kernel
theorem eLo_latest_21 : decode prog_3_method_8_code 21 = .ok (.iload_n 2, 1) := by decide +kernel
theorem eLo_latest_22 : decode prog_3_method_8_code 22 = .ok (.ifCond .lt 21, 3) := by decide +kernel
theorem eLo_latest_25 : decode prog_3_method_8_code 25 = .ok (.iload_n 2, 1) := by decide +kernel
theorem eLo_latest_26 : decode prog_3_method_8_code 26 = .ok (.aload_n 0, 1) := by decide +kernel
theorem eLo_latest_27 : decode prog_3_method_8_code 27 = .ok (.getfield 9, 3) := by decide +kernel
theorem eLo_latest_30 : decode prog_3_method_8_code 30 = .ok (.arraylength, 1) := by decide +kernel
theorem eLo_latest_31 : decode prog_3_method_8_code 31 = .ok (.if_icmp .ge 12, 3) := by decide +kernel
theorem eLo_latest_34 : decode prog_3_method_8_code 34 = .ok (.aload_n 0, 1) := by decide +kernel
theorem eLo_latest_35 : decode prog_3_method_8_code 35 = .ok (.getfield 9, 3) := by decide +kernel
theorem eLo_latest_38 : decode prog_3_method_8_code 38 = .ok (.iload_n 2, 1) := by decide +kernel
theorem eLo_latest_39 : decode prog_3_method_8_code 39 = .ok (.iaload, 1) := by decide +kernel
theorem eLo_latest_40 : decode prog_3_method_8_code 40 = .ok (.goto 4, 3) := by decide +kernel
theorem eLo_latest_43 : decode prog_3_method_8_code 43 = .ok (.iconst 0, 1) := by decide +kernel
theorem eLo_latest_44 : decode prog_3_method_8_code 44 = .ok (.ireturn, 1) := by decide +kernel
theorem eLo_tell_0 : decode prog_3_method_9_code 0 = .ok (.aload_n 0, 1) := by decide +kernel
theorem eLo_tell_1 : decode prog_3_method_9_code 1 = .ok (.iload_n 1, 1) := by decide +kernel
theorem eLo_tell_2 : decode prog_3_method_9_code 2 = .ok (.invokevirtual 36, 3) := by decide +kernel
theorem eLo_tell_5 : decode prog_3_method_9_code 5 = .ok (.istore_n 3, 1) := by decide +kernel
theorem eLo_tell_6 : decode prog_3_method_9_code 6 = .ok (.iload_n 2, 1) := by decide +kernel
theorem eLo_tell_7 : decode prog_3_method_9_code 7 = .ok (.ifCond .ne 9, 3) := by decide +kernel
theorem eLo_tell_10 : decode prog_3_method_9_code 10 = .ok (.iload_n 3, 1) := by decide +kernel
theorem eLo_tell_11 : decode prog_3_method_9_code 11 = .ok (.sipush 255, 3) := by decide +kernel
theorem eLo_tell_14 : decode prog_3_method_9_code 14 = .ok (.iand, 1) := by decide +kernel
theorem eLo_tell_15 : decode prog_3_method_9_code 15 = .ok (.ireturn, 1) := by decide +kernel
theorem eLo_tell_16 : decode prog_3_method_9_code 16 = .ok (.iload_n 2, 1) := by decide +kernel
theorem eLo_tell_17 : decode prog_3_method_9_code 17 = .ok (.iconst 1, 1) := by decide +kernel
theorem eLo_tell_18 : decode prog_3_method_9_code 18 = .ok (.if_icmp .ne 12, 3) := by decide +kernel
theorem eLo_tell_21 : decode prog_3_method_9_code 21 = .ok (.iload_n 3, 1) := by decide +kernel
theorem eLo_tell_22 : decode prog_3_method_9_code 22 = .ok (.bipush 8, 2) := by decide +kernel
theorem eLo_tell_24 : decode prog_3_method_9_code 24 = .ok (.ishr, 1) := by decide +kernel
theorem eLo_tell_25 : decode prog_3_method_9_code 25 = .ok (.iconst 1, 1) := by decide +kernel
theorem eLo_tell_26 : decode prog_3_method_9_code 26 = .ok (.iand, 1) := by decide +kernel
theorem eLo_tell_27 : decode prog_3_method_9_code 27 = .ok (.goto 7, 3) := by decide +kernel
theorem eLo_tell_30 : decode prog_3_method_9_code 30 = .ok (.iload_n 3, 1) := by decide +kernel
theorem eLo_tell_31 : decode prog_3_method_9_code 31 = .ok (.bipush 9, 2) := by decide +kernel
theorem eLo_tell_33 : decode prog_3_method_9_code 33 = .ok (.ishr, 1) := by decide +kernel
theorem eLo_tell_34 : decode prog_3_method_9_code 34 = .ok (.ireturn, 1) := by decide +kernel
theorem eLo_repeats_0 : decode prog_3_method_10_code 0 = .ok (.iconst 0, 1) := by decide +kernel
theorem eLo_repeats_1 : decode prog_3_method_10_code 1 = .ok (.istore_n 2, 1) := by decide +kernel
theorem eLo_repeats_2 : decode prog_3_method_10_code 2 = .ok (.iload_n 2, 1) := by decide +kernel
theorem eLo_repeats_3 : decode prog_3_method_10_code 3 = .ok (.iload_n 1, 1) := by decide +kernel
theorem eLo_repeats_4 : decode prog_3_method_10_code 4 = .ok (.if_icmp .ge 34, 3) := by decide +kernel
theorem eLo_repeats_7 : decode prog_3_method_10_code 7 = .ok (.aload_n 0, 1) := by decide +kernel
theorem eLo_repeats_8 : decode prog_3_method_10_code 8 = .ok (.iload_n 2, 1) := by decide +kernel
theorem eLo_repeats_9 : decode prog_3_method_10_code 9 = .ok (.invokevirtual 36, 3) := by decide +kernel
theorem eLo_repeats_12 : decode prog_3_method_10_code 12 = .ok (.sipush 255, 3) := by decide +kernel
theorem eLo_repeats_15 : decode prog_3_method_10_code 15 = .ok (.iand, 1) := by decide +kernel
theorem eLo_repeats_16 : decode prog_3_method_10_code 16 = .ok (.aload_n 0, 1) := by decide +kernel
theorem eLo_repeats_17 : decode prog_3_method_10_code 17 = .ok (.iload_n 2, 1) := by decide +kernel
theorem eLo_repeats_18 : decode prog_3_method_10_code 18 = .ok (.iload_n 1, 1) := by decide +kernel
theorem eLo_repeats_19 : decode prog_3_method_10_code 19 = .ok (.iadd, 1) := by decide +kernel
theorem eLo_repeats_20 : decode prog_3_method_10_code 20 = .ok (.invokevirtual 36, 3) := by decide +kernel
theorem eLo_repeats_23 : decode prog_3_method_10_code 23 = .ok (.sipush 255, 3) := by decide +kernel
theorem eLo_repeats_26 : decode prog_3_method_10_code 26 = .ok (.iand, 1) := by decide +kernel
theorem eLo_repeats_27 : decode prog_3_method_10_code 27 = .ok (.if_icmp .eq 5, 3) := by decide +kernel
theorem eLo_repeats_30 : decode prog_3_method_10_code 30 = .ok (.iconst 0, 1) := by decide +kernel
theorem eLo_repeats_31 : decode prog_3_method_10_code 31 = .ok (.ireturn, 1) := by decide +kernel
theorem eLo_repeats_32 : decode prog_3_method_10_code 32 = .ok (.iinc 2 1, 3) := by decide +kernel
theorem eLo_repeats_35 : decode prog_3_method_10_code 35 = .ok (.goto (-33), 3) := by decide +kernel
theorem eLo_repeats_38 : decode prog_3_method_10_code 38 = .ok (.iconst 1, 1) := by decide +kernel
theorem eLo_repeats_39 : decode prog_3_method_10_code 39 = .ok (.ireturn, 1) := by decide +kernel
theorem eMo_init_0 : decode prog_4_method_1_code 0 = .ok (.aload_n 0, 1) := by decide +kernel
theorem eMo_init_1 : decode prog_4_method_1_code 1 = .ok (.invokespecial 3, 3) := by decide +kernel
theorem eMo_init_4 : decode prog_4_method_1_code 4 = .ok (.aload_n 0, 1) := by decide +kernel
theorem eMo_init_5 : decode prog_4_method_1_code 5 = .ok (.new 9, 3) := by decide +kernel
theorem eMo_init_8 : decode prog_4_method_1_code 8 = .ok (.dup, 1) := by decide +kernel
theorem eMo_init_9 : decode prog_4_method_1_code 9 = .ok (.invokespecial 11, 3) := by decide +kernel
theorem eMo_init_12 : decode prog_4_method_1_code 12 = .ok (.putfield 12, 3) := by decide +kernel
theorem eMo_init_15 : decode prog_4_method_1_code 15 = .ok (.aload_n 0, 1) := by decide +kernel
theorem eMo_init_16 : decode prog_4_method_1_code 16 = .ok (.bipush 16, 2) := by decide +kernel
theorem eMo_init_18 : decode prog_4_method_1_code 18 = .ok (.newarray .int, 2) := by decide +kernel
theorem eMo_init_20 : decode prog_4_method_1_code 20 = .ok (.putfield 18, 3) := by decide +kernel
theorem eMo_init_23 : decode prog_4_method_1_code 23 = .ok (.return_, 1) := by decide +kernel
theorem eMo_set_0 : decode prog_4_method_2_code 0 = .ok (.aload_n 0, 1) := by decide +kernel
theorem eMo_set_1 : decode prog_4_method_2_code 1 = .ok (.getfield 12, 3) := by decide +kernel
theorem eMo_set_4 : decode prog_4_method_2_code 4 = .ok (.aload_n 1, 1) := by decide +kernel
theorem eMo_set_5 : decode prog_4_method_2_code 5 = .ok (.getfield 12, 3) := by decide +kernel
theorem eMo_set_8 : decode prog_4_method_2_code 8 = .ok (.invokevirtual 22, 3) := by decide +kernel
theorem eMo_set_11 : decode prog_4_method_2_code 11 = .ok (.aload_n 1, 1) := by decide +kernel
theorem eMo_set_12 : decode prog_4_method_2_code 12 = .ok (.getfield 18, 3) := by decide +kernel
theorem eMo_set_15 : decode prog_4_method_2_code 15 = .ok (.aload_n 0, 1) := by decide +kernel
theorem eMo_set_16 : decode prog_4_method_2_code 16 = .ok (.getfield 18, 3) := by decide +kernel
theorem eMo_set_19 : decode prog_4_method_2_code 19 = .ok (.invokestatic 26, 3) := by decide +kernel
theorem eMo_set_22 : decode prog_4_method_2_code 22 = .ok (.aload_n 0, 1) := by decide +kernel
theorem eMo_set_23 : decode prog_4_method_2_code 23 = .ok (.aload_n 1, 1) := by decide +kernel
theorem eMo_set_24 : decode prog_4_method_2_code 24 = .ok (.getfield 30, 3) := by decide +kernel
theorem eMo_set_27 : decode prog_4_method_2_code 27 = .ok (.putfield 30, 3) := by decide +kernel
theorem eMo_set_30 : decode prog_4_method_2_code 30 = .ok (.aload_n 0, 1) := by decide +kernel
theorem eMo_set_31 : decode prog_4_method_2_code 31 = .ok (.aload_n 1, 1) := by decide +kernel
theorem eMo_set_32 : decode prog_4_method_2_code 32 = .ok (.getfield 34, 3) := by decide +kernel
theorem eMo_set_35 : decode prog_4_method_2_code 35 = .ok (.putfield 34, 3) := by decide +kernel
theorem eMo_set_38 : decode prog_4_method_2_code 38 = .ok (.aload_n 0, 1) := by decide +kernel
theorem eMo_set_39 : decode prog_4_method_2_code 39 = .ok (.aload_n 1, 1) := by decide +kernel
theorem eMo_set_40 : decode prog_4_method_2_code 40 = .ok (.getfield 37, 3) := by decide +kernel
theorem eMo_set_43 : decode prog_4_method_2_code 43 = .ok (.putfield 37, 3) := by decide +kernel
theorem eMo_set_46 : decode prog_4_method_2_code 46 = .ok (.return_, 1) := by decide +kernel
theorem eMo_begin_0 : decode prog_4_method_3_code 0 = .ok (.aload_n 0, 1) := by decide +kernel
theorem eMo_begin_1 : decode prog_4_method_3_code 1 = .ok (.getfield 12, 3) := by decide +kernel
theorem eMo_begin_4 : decode prog_4_method_3_code 4 = .ok (.aload_n 1, 1) := by decide +kernel
theorem eMo_begin_5 : decode prog_4_method_3_code 5 = .ok (.getfield 40, 3) := by decide +kernel
theorem eMo_begin_8 : decode prog_4_method_3_code 8 = .ok (.aload_n 1, 1) := by decide +kernel
theorem eMo_begin_9 : decode prog_4_method_3_code 9 = .ok (.getfield 45, 3) := by decide +kernel
theorem eMo_begin_12 : decode prog_4_method_3_code 12 = .ok (.invokevirtual 48, 3) := by decide +kernel
theorem eMo_begin_15 : decode prog_4_method_3_code 15 = .ok (.aload_n 1, 1) := by decide +kernel
theorem eMo_begin_16 : decode prog_4_method_3_code 16 = .ok (.getfield 52, 3) := by decide +kernel
theorem eMo_begin_19 : decode prog_4_method_3_code 19 = .ok (.aload_n 0, 1) := by decide +kernel
theorem eMo_begin_20 : decode prog_4_method_3_code 20 = .ok (.getfield 18, 3) := by decide +kernel
theorem eMo_begin_23 : decode prog_4_method_3_code 23 = .ok (.invokestatic 26, 3) := by decide +kernel
theorem eMo_begin_26 : decode prog_4_method_3_code 26 = .ok (.aload_n 0, 1) := by decide +kernel
theorem eMo_begin_27 : decode prog_4_method_3_code 27 = .ok (.iconst 0, 1) := by decide +kernel
theorem eMo_begin_28 : decode prog_4_method_3_code 28 = .ok (.putfield 30, 3) := by decide +kernel
theorem eMo_begin_31 : decode prog_4_method_3_code 31 = .ok (.aload_n 0, 1) := by decide +kernel
theorem eMo_begin_32 : decode prog_4_method_3_code 32 = .ok (.iconst 0, 1) := by decide +kernel
theorem eMo_begin_33 : decode prog_4_method_3_code 33 = .ok (.putfield 34, 3) := by decide +kernel
theorem eMo_begin_36 : decode prog_4_method_3_code 36 = .ok (.aload_n 0, 1) := by decide +kernel
theorem eMo_begin_37 : decode prog_4_method_3_code 37 = .ok (.iconst 0, 1) := by decide +kernel
theorem eMo_begin_38 : decode prog_4_method_3_code 38 = .ok (.putfield 37, 3) := by decide +kernel
theorem eMo_begin_41 : decode prog_4_method_3_code 41 = .ok (.return_, 1) := by decide +kernel
theorem eMo_countBoxes_0 : decode prog_4_method_4_code 0 = .ok (.iconst 0, 1) := by decide +kernel
theorem eMo_countBoxes_1 : decode prog_4_method_4_code 1 = .ok (.istore_n 1, 1) := by decide +kernel
theorem eMo_countBoxes_2 : decode prog_4_method_4_code 2 = .ok (.iconst 0, 1) := by decide +kernel
theorem eMo_countBoxes_3 : decode prog_4_method_4_code 3 = .ok (.istore_n 2, 1) := by decide +kernel
theorem eMo_countBoxes_4 : decode prog_4_method_4_code 4 = .ok (.iload_n 2, 1) := by decide +kernel
theorem eMo_countBoxes_5 : decode prog_4_method_4_code 5 = .ok (.aload_n 0, 1) := by decide +kernel
theorem eMo_countBoxes_6 : decode prog_4_method_4_code 6 = .ok (.getfield 18, 3) := by decide +kernel
theorem eMo_countBoxes_9 : decode prog_4_method_4_code 9 = .ok (.arraylength, 1) := by decide +kernel
theorem eMo_countBoxes_10 : decode prog_4_method_4_code 10 = .ok (.if_icmp .ge 18, 3) := by decide +kernel
theorem eMo_countBoxes_13 : decode prog_4_method_4_code 13 = .ok (.iload_n 1, 1) := by decide +kernel
theorem eMo_countBoxes_14 : decode prog_4_method_4_code 14 = .ok (.aload_n 0, 1) := by decide +kernel
theorem eMo_countBoxes_15 : decode prog_4_method_4_code 15 = .ok (.getfield 18, 3) := by decide +kernel
theorem eMo_countBoxes_18 : decode prog_4_method_4_code 18 = .ok (.iload_n 2, 1) := by decide +kernel
theorem eMo_countBoxes_19 : decode prog_4_method_4_code 19 = .ok (.iaload, 1) := by decide +kernel
theorem eMo_countBoxes_20 : decode prog_4_method_4_code 20 = .ok (.iadd, 1) := by decide +kernel
theorem eMo_countBoxes_21 : decode prog_4_method_4_code 21 = .ok (.istore_n 1, 1) := by decide +kernel
theorem eMo_countBoxes_22 : decode prog_4_method_4_code 22 = .ok (.iinc 2 1, 3) := by decide +kernel
theorem eMo_countBoxes_25 : decode prog_4_method_4_code 25 = .ok (.goto (-21), 3) := by decide +kernel
theorem eMo_countBoxes_28 : decode prog_4_method_4_code 28 = .ok (.iload_n 1, 1) := by decide +kernel
theorem eMo_countBoxes_29 : decode prog_4_method_4_code 29 = .ok (.ireturn, 1) := by decide +kernel
theorem ePa_init_0 : decode prog_5_method_1_code 0 = .ok (.aload_n 0, 1) := by decide +kernel
theorem ePa_init_1 : decode prog_5_method_1_code 1 = .ok (.invokespecial 3, 3) := by decide +kernel
theorem ePa_init_4 : decode prog_5_method_1_code 4 = .ok (.aload_n 0, 1) := by decide +kernel
theorem ePa_init_5 : decode prog_5_method_1_code 5 = .ok (.bipush 30, 2) := by decide +kernel
theorem ePa_init_7 : decode prog_5_method_1_code 7 = .ok (.anewarray 9, 3) := by decide +kernel
theorem ePa_init_10 : decode prog_5_method_1_code 10 = .ok (.putfield 11, 3) := by decide +kernel
theorem ePa_init_13 : decode prog_5_method_1_code 13 = .ok (.iconst 0, 1) := by decide +kernel
theorem ePa_init_14 : decode prog_5_method_1_code 14 = .ok (.istore_n 1, 1) := by decide +kernel
theorem ePa_init_15 : decode prog_5_method_1_code 15 = .ok (.iload_n 1, 1) := by decide +kernel
theorem ePa_init_16 : decode prog_5_method_1_code 16 = .ok (.aload_n 0, 1) := by decide +kernel
theorem ePa_init_17 : decode prog_5_method_1_code 17 = .ok (.getfield 11, 3) := by decide +kernel
theorem ePa_init_20 : decode prog_5_method_1_code 20 = .ok (.arraylength, 1) := by decide +kernel
theorem ePa_init_21 : decode prog_5_method_1_code 21 = .ok (.if_icmp .ge 22, 3) := by decide +kernel
theorem ePa_init_24 : decode prog_5_method_1_code 24 = .ok (.aload_n 0, 1) := by decide +kernel
theorem ePa_init_25 : decode prog_5_method_1_code 25 = .ok (.getfield 11, 3) := by decide +kernel
theorem ePa_init_28 : decode prog_5_method_1_code 28 = .ok (.iload_n 1, 1) := by decide +kernel
theorem ePa_init_29 : decode prog_5_method_1_code 29 = .ok (.new 9, 3) := by decide +kernel
theorem ePa_init_32 : decode prog_5_method_1_code 32 = .ok (.dup, 1) := by decide +kernel
theorem ePa_init_33 : decode prog_5_method_1_code 33 = .ok (.invokespecial 17, 3) := by decide +kernel
theorem ePa_init_36 : decode prog_5_method_1_code 36 = .ok (.aastore, 1) := by decide +kernel
theorem ePa_init_37 : decode prog_5_method_1_code 37 = .ok (.iinc 1 1, 3) := by decide +kernel
theorem ePa_init_40 : decode prog_5_method_1_code 40 = .ok (.goto (-25), 3) := by decide +kernel
theorem ePa_init_43 : decode prog_5_method_1_code 43 = .ok (.return_, 1) := by decide +kernel
theorem ePa_clear_0 : decode prog_5_method_2_code 0 = .ok (.aload_n 0, 1) := by decide +kernel
theorem ePa_clear_1 : decode prog_5_method_2_code 1 = .ok (.iconst 0, 1) := by decide +kernel
theorem ePa_clear_2 : decode prog_5_method_2_code 2 = .ok (.putfield 18, 3) := by decide +kernel
theorem ePa_clear_5 : decode prog_5_method_2_code 5 = .ok (.aload_n 0, 1) := by decide +kernel
theorem ePa_clear_6 : decode prog_5_method_2_code 6 = .ok (.iconst 0, 1) := by decide +kernel
theorem ePa_clear_7 : decode prog_5_method_2_code 7 = .ok (.putfield 22, 3) := by decide +kernel
theorem ePa_clear_10 : decode prog_5_method_2_code 10 = .ok (.return_, 1) := by decide +kernel
theorem ePa_push_0 : decode prog_5_method_3_code 0 = .ok (.aload_n 0, 1) := by decide +kernel
theorem ePa_push_1 : decode prog_5_method_3_code 1 = .ok (.getfield 18, 3) := by decide +kernel
theorem ePa_push_4 : decode prog_5_method_3_code 4 = .ok (.ifCond .lt 15, 3) := by decide +kernel
theorem ePa_push_7 : decode prog_5_method_3_code 7 = .ok (.aload_n 0, 1) := by decide +kernel
theorem ePa_push_8 : decode prog_5_method_3_code 8 = .ok (.getfield 18, 3) := by decide +kernel
theorem ePa_push_11 : decode prog_5_method_3_code 11 = .ok (.aload_n 0, 1) := by decide +kernel
theorem ePa_push_12 : decode prog_5_method_3_code 12 = .ok (.getfield 11, 3) := by decide +kernel
theorem ePa_push_15 : decode prog_5_method_3_code 15 = .ok (.arraylength, 1) := by decide +kernel
theorem ePa_push_16 : decode prog_5_method_3_code 16 = .ok (.if_icmp .lt 4, 3) := by decide +kernel
theorem ePa_push_19 : decode prog_5_method_3_code 19 = .ok (.return_, 1) := by decide +kernel
theorem ePa_push_20 : decode prog_5_method_3_code 20 = .ok (.aload_n 0, 1) := by decide +kernel
theorem ePa_push_21 : decode prog_5_method_3_code 21 = .ok (.getfield 11, 3) := by decide +kernel
theorem ePa_push_24 : decode prog_5_method_3_code 24 = .ok (.aload_n 0, 1) := by decide +kernel
theorem ePa_push_25 : decode prog_5_method_3_code 25 = .ok (.getfield 18, 3) := by decide +kernel
theorem ePa_push_28 : decode prog_5_method_3_code 28 = .ok (.aaload, 1) := by decide +kernel
theorem ePa_push_29 : decode prog_5_method_3_code 29 = .ok (.aload_n 1, 1) := by decide +kernel
theorem ePa_push_30 : decode prog_5_method_3_code 30 = .ok (.invokevirtual 25, 3) := by decide +kernel
theorem ePa_push_33 : decode prog_5_method_3_code 33 = .ok (.aload_n 0, 1) := by decide +kernel
theorem ePa_push_34 : decode prog_5_method_3_code 34 = .ok (.aload_n 0, 1) := by decide +kernel
theorem ePa_push_35 : decode prog_5_method_3_code 35 = .ok (.getfield 18, 3) := by decide +kernel
theorem ePa_push_38 : decode prog_5_method_3_code 38 = .ok (.iconst 1, 1) := by decide +kernel
theorem ePa_push_39 : decode prog_5_method_3_code 39 = .ok (.iadd, 1) := by decide +kernel
theorem ePa_push_40 : decode prog_5_method_3_code 40 = .ok (.aload_n 0, 1) := by decide +kernel
theorem ePa_push_41 : decode prog_5_method_3_code 41 = .ok (.getfield 11, 3) := by decide +kernel
theorem ePa_push_44 : decode prog_5_method_3_code 44 = .ok (.arraylength, 1) := by decide +kernel
theorem ePa_push_45 : decode prog_5_method_3_code 45 = .ok (.if_icmp .ge 12, 3) := by decide +kernel
theorem ePa_push_48 : decode prog_5_method_3_code 48 = .ok (.aload_n 0, 1) := by decide +kernel
theorem ePa_push_49 : decode prog_5_method_3_code 49 = .ok (.getfield 18, 3) := by decide +kernel
theorem ePa_push_52 : decode prog_5_method_3_code 52 = .ok (.iconst 1, 1) := by decide +kernel
theorem ePa_push_53 : decode prog_5_method_3_code 53 = .ok (.iadd, 1) := by decide +kernel
theorem ePa_push_54 : decode prog_5_method_3_code 54 = .ok (.goto 4, 3) := by decide +kernel
theorem ePa_push_57 : decode prog_5_method_3_code 57 = .ok (.iconst 0, 1) := by decide +kernel
theorem ePa_push_58 : decode prog_5_method_3_code 58 = .ok (.putfield 18, 3) := by decide +kernel
theorem ePa_push_61 : decode prog_5_method_3_code 61 = .ok (.aload_n 0, 1) := by decide +kernel
theorem ePa_push_62 : decode prog_5_method_3_code 62 = .ok (.aload_n 0, 1) := by decide +kernel
theorem ePa_push_63 : decode prog_5_method_3_code 63 = .ok (.getfield 11, 3) := by decide +kernel
theorem ePa_push_66 : decode prog_5_method_3_code 66 = .ok (.arraylength, 1) := by decide +kernel
theorem ePa_push_67 : decode prog_5_method_3_code 67 = .ok (.aload_n 0, 1) := by decide +kernel
theorem ePa_push_68 : decode prog_5_method_3_code 68 = .ok (.getfield 22, 3) := by decide +kernel
theorem ePa_push_71 : decode prog_5_method_3_code 71 = .ok (.iconst 1, 1) := by decide +kernel
theorem ePa_push_72 : decode prog_5_method_3_code 72 = .ok (.iadd, 1) := by decide +kernel
theorem ePa_push_73 : decode prog_5_method_3_code 73 = .ok (.invokestatic 29, 3) := by decide +kernel
theorem ePa_push_76 : decode prog_5_method_3_code 76 = .ok (.putfield 22, 3) := by decide +kernel
theorem ePa_push_79 : decode prog_5_method_3_code 79 = .ok (.return_, 1) := by decide +kernel
theorem ePa_pop_0 : decode prog_5_method_4_code 0 = .ok (.aload_n 0, 1) := by decide +kernel
theorem ePa_pop_1 : decode prog_5_method_4_code 1 = .ok (.getfield 22, 3) := by decide +kernel
theorem ePa_pop_4 : decode prog_5_method_4_code 4 = .ok (.iconst 1, 1) := by decide +kernel
theorem ePa_pop_5 : decode prog_5_method_4_code 5 = .ok (.if_icmp .ge 5, 3) := by decide +kernel
theorem ePa_pop_8 : decode prog_5_method_4_code 8 = .ok (.iconst 0, 1) := by decide +kernel
theorem ePa_pop_9 : decode prog_5_method_4_code 9 = .ok (.ireturn, 1) := by decide +kernel
theorem ePa_pop_10 : decode prog_5_method_4_code 10 = .ok (.aload_n 0, 1) := by decide +kernel
theorem ePa_pop_11 : decode prog_5_method_4_code 11 = .ok (.aload_n 0, 1) := by decide +kernel
theorem ePa_pop_12 : decode prog_5_method_4_code 12 = .ok (.getfield 18, 3) := by decide +kernel
theorem ePa_pop_15 : decode prog_5_method_4_code 15 = .ok (.ifCond .le 12, 3) := by decide +kernel
theorem ePa_pop_18 : decode prog_5_method_4_code 18 = .ok (.aload_n 0, 1) := by decide +kernel
theorem ePa_pop_19 : decode prog_5_method_4_code 19 = .ok (.getfield 18, 3) := by decide +kernel
theorem ePa_pop_22 : decode prog_5_method_4_code 22 = .ok (.iconst 1, 1) := by decide +kernel
theorem ePa_pop_23 : decode prog_5_method_4_code 23 = .ok (.isub, 1) := by decide +kernel
theorem ePa_pop_24 : decode prog_5_method_4_code 24 = .ok (.goto 10, 3) := by decide +kernel
theorem ePa_pop_27 : decode prog_5_method_4_code 27 = .ok (.aload_n 0, 1) := by decide +kernel
theorem ePa_pop_28 : decode prog_5_method_4_code 28 = .ok (.getfield 11, 3) := by decide +kernel
theorem ePa_pop_31 : decode prog_5_method_4_code 31 = .ok (.arraylength, 1) := by decide +kernel
theorem ePa_pop_32 : decode prog_5_method_4_code 32 = .ok (.iconst 1, 1) := by decide +kernel
theorem ePa_pop_33 : decode prog_5_method_4_code 33 = .ok (.isub, 1) := by decide +kernel
theorem ePa_pop_34 : decode prog_5_method_4_code 34 = .ok (.putfield 18, 3) := by decide +kernel
theorem ePa_pop_37 : decode prog_5_method_4_code 37 = .ok (.aload_n 0, 1) := by decide +kernel
theorem ePa_pop_38 : decode prog_5_method_4_code 38 = .ok (.dup, 1) := by decide +kernel
theorem ePa_pop_39 : decode prog_5_method_4_code 39 = .ok (.getfield 22, 3) := by decide +kernel
theorem ePa_pop_42 : decode prog_5_method_4_code 42 = .ok (.iconst 1, 1) := by decide +kernel
theorem ePa_pop_43 : decode prog_5_method_4_code 43 = .ok (.isub, 1) := by decide +kernel
theorem ePa_pop_44 : decode prog_5_method_4_code 44 = .ok (.putfield 22, 3) := by decide +kernel
theorem ePa_pop_47 : decode prog_5_method_4_code 47 = .ok (.aload_n 0, 1) := by decide +kernel
theorem ePa_pop_48 : decode prog_5_method_4_code 48 = .ok (.getfield 18, 3) := by decide +kernel
theorem ePa_pop_51 : decode prog_5_method_4_code 51 = .ok (.ifCond .lt 28, 3) := by decide +kernel
theorem ePa_pop_54 : decode prog_5_method_4_code 54 = .ok (.aload_n 0, 1) := by decide +kernel
theorem ePa_pop_55 : decode prog_5_method_4_code 55 = .ok (.getfield 18, 3) := by decide +kernel
theorem ePa_pop_58 : decode prog_5_method_4_code 58 = .ok (.aload_n 0, 1) := by decide +kernel
theorem ePa_pop_59 : decode prog_5_method_4_code 59 = .ok (.getfield 11, 3) := by decide +kernel
theorem ePa_pop_62 : decode prog_5_method_4_code 62 = .ok (.arraylength, 1) := by decide +kernel
theorem ePa_pop_63 : decode prog_5_method_4_code 63 = .ok (.if_icmp .ge 16, 3) := by decide +kernel
theorem ePa_pop_66 : decode prog_5_method_4_code 66 = .ok (.aload_n 1, 1) := by decide +kernel
theorem ePa_pop_67 : decode prog_5_method_4_code 67 = .ok (.aload_n 0, 1) := by decide +kernel
theorem ePa_pop_68 : decode prog_5_method_4_code 68 = .ok (.getfield 11, 3) := by decide +kernel
theorem ePa_pop_71 : decode prog_5_method_4_code 71 = .ok (.aload_n 0, 1) := by decide +kernel
theorem ePa_pop_72 : decode prog_5_method_4_code 72 = .ok (.getfield 18, 3) := by decide +kernel
theorem ePa_pop_75 : decode prog_5_method_4_code 75 = .ok (.aaload, 1) := by decide +kernel
theorem ePa_pop_76 : decode prog_5_method_4_code 76 = .ok (.invokevirtual 25, 3) := by decide +kernel
theorem ePa_pop_79 : decode prog_5_method_4_code 79 = .ok (.iconst 1, 1) := by decide +kernel
theorem ePa_pop_80 : decode prog_5_method_4_code 80 = .ok (.ireturn, 1) := by decide +kernel
theorem ePl_init_0 : decode prog_6_method_1_code 0 = .ok (.aload_n 0, 1) := by decide +kernel
theorem ePl_init_1 : decode prog_6_method_1_code 1 = .ok (.invokespecial 3, 3) := by decide +kernel
theorem ePl_init_4 : decode prog_6_method_1_code 4 = .ok (.aload_n 0, 1) := by decide +kernel
theorem ePl_init_5 : decode prog_6_method_1_code 5 = .ok (.bipush 16, 2) := by decide +kernel
theorem ePl_init_7 : decode prog_6_method_1_code 7 = .ok (.newarray .int, 2) := by decide +kernel
theorem ePl_init_9 : decode prog_6_method_1_code 9 = .ok (.putfield 9, 3) := by decide +kernel
theorem ePl_init_12 : decode prog_6_method_1_code 12 = .ok (.aload_n 0, 1) := by decide +kernel
theorem ePl_init_13 : decode prog_6_method_1_code 13 = .ok (.bipush 16, 2) := by decide +kernel
theorem ePl_init_15 : decode prog_6_method_1_code 15 = .ok (.newarray .int, 2) := by decide +kernel
theorem ePl_init_17 : decode prog_6_method_1_code 17 = .ok (.putfield 15, 3) := by decide +kernel
theorem ePl_init_20 : decode prog_6_method_1_code 20 = .ok (.aload_n 0, 1) := by decide +kernel
theorem ePl_init_21 : decode prog_6_method_1_code 21 = .ok (.bipush 6, 2) := by decide +kernel
theorem ePl_init_23 : decode prog_6_method_1_code 23 = .ok (.newarray .int, 2) := by decide +kernel
theorem ePl_init_25 : decode prog_6_method_1_code 25 = .ok (.putfield 18, 3) := by decide +kernel
theorem ePl_init_28 : decode prog_6_method_1_code 28 = .ok (.aload_n 0, 1) := by decide +kernel
theorem ePl_init_29 : decode prog_6_method_1_code 29 = .ok (.bipush 6, 2) := by decide +kernel
theorem ePl_init_31 : decode prog_6_method_1_code 31 = .ok (.newarray .int, 2) := by decide +kernel
theorem ePl_init_33 : decode prog_6_method_1_code 33 = .ok (.putfield 21, 3) := by decide +kernel
theorem ePl_init_36 : decode prog_6_method_1_code 36 = .ok (.aload_n 0, 1) := by decide +kernel
theorem ePl_init_37 : decode prog_6_method_1_code 37 = .ok (.bipush 6, 2) := by decide +kernel
theorem ePl_init_39 : decode prog_6_method_1_code 39 = .ok (.newarray .int, 2) := by decide +kernel
theorem ePl_init_41 : decode prog_6_method_1_code 41 = .ok (.putfield 24, 3) := by decide +kernel
theorem ePl_init_44 : decode prog_6_method_1_code 44 = .ok (.aload_n 0, 1) := by decide +kernel
theorem ePl_init_45 : decode prog_6_method_1_code 45 = .ok (.bipush 8, 2) := by decide +kernel
theorem ePl_init_47 : decode prog_6_method_1_code 47 = .ok (.newarray .int, 2) := by decide +kernel
theorem ePl_init_49 : decode prog_6_method_1_code 49 = .ok (.putfield 27, 3) := by decide +kernel
theorem ePl_init_52 : decode prog_6_method_1_code 52 = .ok (.aload_n 0, 1) := by decide +kernel
theorem ePl_init_53 : decode prog_6_method_1_code 53 = .ok (.bipush 8, 2) := by decide +kernel
theorem ePl_init_55 : decode prog_6_method_1_code 55 = .ok (.newarray .int, 2) := by decide +kernel
theorem ePl_init_57 : decode prog_6_method_1_code 57 = .ok (.putfield 30, 3) := by decide +kernel
theorem ePl_init_60 : decode prog_6_method_1_code 60 = .ok (.aload_n 0, 1) := by decide +kernel
theorem ePl_init_61 : decode prog_6_method_1_code 61 = .ok (.bipush 16, 2) := by decide +kernel
theorem ePl_init_63 : decode prog_6_method_1_code 63 = .ok (.newarray .int, 2) := by decide +kernel
theorem ePl_init_65 : decode prog_6_method_1_code 65 = .ok (.putfield 33, 3) := by decide +kernel
theorem ePl_init_68 : decode prog_6_method_1_code 68 = .ok (.aload_n 0, 1) := by decide +kernel
theorem ePl_init_69 : decode prog_6_method_1_code 69 = .ok (.bipush 16, 2) := by decide +kernel
theorem ePl_init_71 : decode prog_6_method_1_code 71 = .ok (.newarray .int, 2) := by decide +kernel
theorem ePl_init_73 : decode prog_6_method_1_code 73 = .ok (.putfield 36, 3) := by decide +kernel
theorem ePl_init_76 : decode prog_6_method_1_code 76 = .ok (.aload_n 0, 1) := by decide +kernel
theorem ePl_init_77 : decode prog_6_method_1_code 77 = .ok (.iconst 3, 1) := by decide +kernel
theorem ePl_init_78 : decode prog_6_method_1_code 78 = .ok (.newarray .int, 2) := by decide +kernel
theorem ePl_init_80 : decode prog_6_method_1_code 80 = .ok (.putfield 39, 3) := by decide +kernel
theorem ePl_init_83 : decode prog_6_method_1_code 83 = .ok (.aload_n 0, 1) := by decide +kernel
theorem ePl_init_84 : decode prog_6_method_1_code 84 = .ok (.iconst 3, 1) := by decide +kernel
theorem ePl_init_85 : decode prog_6_method_1_code 85 = .ok (.newarray .int, 2) := by decide +kernel
theorem ePl_init_87 : decode prog_6_method_1_code 87 = .ok (.putfield 42, 3) := by decide +kernel
theorem ePl_init_90 : decode prog_6_method_1_code 90 = .ok (.aload_n 0, 1) := by decide +kernel
theorem ePl_init_91 : decode prog_6_method_1_code 91 = .ok (.bipush 12, 2) := by decide +kernel
theorem ePl_init_93 : decode prog_6_method_1_code 93 = .ok (.newarray .int, 2) := by decide +kernel
theorem ePl_init_95 : decode prog_6_method_1_code 95 = .ok (.putfield 45, 3) := by decide +kernel
theorem ePl_init_98 : decode prog_6_method_1_code 98 = .ok (.aload_n 0, 1) := by decide +kernel
theorem ePl_init_99 : decode prog_6_method_1_code 99 = .ok (.invokevirtual 48, 3) := by decide +kernel
theorem ePl_init_102 : decode prog_6_method_1_code 102 = .ok (.return_, 1) := by decide +kernel
theorem ePl_clear_0 : decode prog_6_method_2_code 0 = .ok (.aload_n 0, 1) := by decide +kernel
theorem ePl_clear_1 : decode prog_6_method_2_code 1 = .ok (.bipush 16, 2) := by decide +kernel
theorem ePl_clear_3 : decode prog_6_method_2_code 3 = .ok (.putfield 51, 3) := by decide +kernel
theorem ePl_clear_6 : decode prog_6_method_2_code 6 = .ok (.aload_n 0, 1) := by decide +kernel
theorem ePl_clear_7 : decode prog_6_method_2_code 7 = .ok (.bipush 6, 2) := by decide +kernel
theorem ePl_clear_9 : decode prog_6_method_2_code 9 = .ok (.putfield 55, 3) := by decide +kernel
theorem ePl_clear_12 : decode prog_6_method_2_code 12 = .ok (.aload_n 0, 1) := by decide +kernel
theorem ePl_clear_13 : decode prog_6_method_2_code 13 = .ok (.iconst 2, 1) := by decide +kernel
theorem ePl_clear_14 : decode prog_6_method_2_code 14 = .ok (.putfield 58, 3) := by decide +kernel
theorem ePl_clear_17 : decode prog_6_method_2_code 17 = .ok (.aload_n 0, 1) := by decide +kernel
theorem ePl_clear_18 : decode prog_6_method_2_code 18 = .ok (.iconst 4, 1) := by decide +kernel
theorem ePl_clear_19 : decode prog_6_method_2_code 19 = .ok (.putfield 61, 3) := by decide +kernel
theorem ePl_clear_22 : decode prog_6_method_2_code 22 = .ok (.aload_n 0, 1) := by decide +kernel
theorem ePl_clear_23 : decode prog_6_method_2_code 23 = .ok (.iconst 0, 1) := by decide +kernel
theorem ePl_clear_24 : decode prog_6_method_2_code 24 = .ok (.putfield 64, 3) := by decide +kernel
theorem ePl_clear_27 : decode prog_6_method_2_code 27 = .ok (.aload_n 0, 1) := by decide +kernel
theorem ePl_clear_28 : decode prog_6_method_2_code 28 = .ok (.iconst 0, 1) := by decide +kernel
theorem ePl_clear_29 : decode prog_6_method_2_code 29 = .ok (.putfield 67, 3) := by decide +kernel
theorem ePl_clear_32 : decode prog_6_method_2_code 32 = .ok (.aload_n 0, 1) := by decide +kernel
theorem ePl_clear_33 : decode prog_6_method_2_code 33 = .ok (.iconst 1, 1) := by decide +kernel
theorem ePl_clear_34 : decode prog_6_method_2_code 34 = .ok (.putfield 70, 3) := by decide +kernel
theorem ePl_clear_37 : decode prog_6_method_2_code 37 = .ok (.iconst 0, 1) := by decide +kernel
theorem ePl_clear_38 : decode prog_6_method_2_code 38 = .ok (.istore_n 1, 1) := by decide +kernel
theorem ePl_clear_39 : decode prog_6_method_2_code 39 = .ok (.iload_n 1, 1) := by decide +kernel
theorem ePl_clear_40 : decode prog_6_method_2_code 40 = .ok (.bipush 16, 2) := by decide +kernel
theorem ePl_clear_42 : decode prog_6_method_2_code 42 = .ok (.if_icmp .ge 24, 3) := by decide +kernel
theorem ePl_clear_45 : decode prog_6_method_2_code 45 = .ok (.aload_n 0, 1) := by decide +kernel
theorem ePl_clear_46 : decode prog_6_method_2_code 46 = .ok (.getfield 9, 3) := by decide +kernel
theorem ePl_clear_49 : decode prog_6_method_2_code 49 = .ok (.iload_n 1, 1) := by decide +kernel
theorem ePl_clear_50 : decode prog_6_method_2_code 50 = .ok (.bipush 6, 2) := by decide +kernel
theorem ePl_clear_52 : decode prog_6_method_2_code 52 = .ok (.iastore, 1) := by decide +kernel
theorem ePl_clear_53 : decode prog_6_method_2_code 53 = .ok (.aload_n 0, 1) := by decide +kernel
theorem ePl_clear_54 : decode prog_6_method_2_code 54 = .ok (.getfield 15, 3) := by decide +kernel
theorem ePl_clear_57 : decode prog_6_method_2_code 57 = .ok (.iload_n 1, 1) := by decide +kernel
theorem ePl_clear_58 : decode prog_6_method_2_code 58 = .ok (.iconst 0, 1) := by decide +kernel
theorem ePl_clear_59 : decode prog_6_method_2_code 59 = .ok (.iastore, 1) := by decide +kernel
theorem ePl_clear_60 : decode prog_6_method_2_code 60 = .ok (.iinc 1 1, 3) := by decide +kernel
theorem ePl_clear_63 : decode prog_6_method_2_code 63 = .ok (.goto (-24), 3) := by decide +kernel
theorem ePl_clear_66 : decode prog_6_method_2_code 66 = .ok (.iconst 0, 1) := by decide +kernel
theorem ePl_clear_67 : decode prog_6_method_2_code 67 = .ok (.istore_n 1, 1) := by decide +kernel
theorem ePl_clear_68 : decode prog_6_method_2_code 68 = .ok (.iload_n 1, 1) := by decide +kernel
theorem ePl_clear_69 : decode prog_6_method_2_code 69 = .ok (.bipush 12, 2) := by decide +kernel
theorem ePl_clear_71 : decode prog_6_method_2_code 71 = .ok (.if_icmp .ge 16, 3) := by decide +kernel
theorem ePl_clear_74 : decode prog_6_method_2_code 74 = .ok (.aload_n 0, 1) := by decide +kernel
theorem ePl_clear_75 : decode prog_6_method_2_code 75 = .ok (.getfield 45, 3) := by decide +kernel
theorem ePl_clear_78 : decode prog_6_method_2_code 78 = .ok (.iload_n 1, 1) := by decide +kernel
theorem ePl_clear_79 : decode prog_6_method_2_code 79 = .ok (.iconst 0, 1) := by decide +kernel
theorem ePl_clear_80 : decode prog_6_method_2_code 80 = .ok (.iastore, 1) := by decide +kernel
theorem ePl_clear_81 : decode prog_6_method_2_code 81 = .ok (.iinc 1 1, 3) := by decide +kernel
theorem ePl_clear_84 : decode prog_6_method_2_code 84 = .ok (.goto (-16), 3) := by decide +kernel
theorem ePl_clear_87 : decode prog_6_method_2_code 87 = .ok (.return_, 1) := by decide +kernel
theorem ePl_set_0 : decode prog_6_method_3_code 0 = .ok (.aload_n 0, 1) := by decide +kernel
theorem ePl_set_1 : decode prog_6_method_3_code 1 = .ok (.aload_n 1, 1) := by decide +kernel
theorem ePl_set_2 : decode prog_6_method_3_code 2 = .ok (.getfield 51, 3) := by decide +kernel
theorem ePl_set_5 : decode prog_6_method_3_code 5 = .ok (.putfield 51, 3) := by decide +kernel
theorem ePl_set_8 : decode prog_6_method_3_code 8 = .ok (.aload_n 0, 1) := by decide +kernel
theorem ePl_set_9 : decode prog_6_method_3_code 9 = .ok (.aload_n 1, 1) := by decide +kernel
theorem ePl_set_10 : decode prog_6_method_3_code 10 = .ok (.getfield 55, 3) := by decide +kernel
theorem ePl_set_13 : decode prog_6_method_3_code 13 = .ok (.putfield 55, 3) := by decide +kernel
theorem ePl_set_16 : decode prog_6_method_3_code 16 = .ok (.aload_n 0, 1) := by decide +kernel
theorem ePl_set_17 : decode prog_6_method_3_code 17 = .ok (.aload_n 1, 1) := by decide +kernel
theorem ePl_set_18 : decode prog_6_method_3_code 18 = .ok (.getfield 58, 3) := by decide +kernel
theorem ePl_set_21 : decode prog_6_method_3_code 21 = .ok (.putfield 58, 3) := by decide +kernel
theorem ePl_set_24 : decode prog_6_method_3_code 24 = .ok (.aload_n 0, 1) := by decide +kernel
theorem ePl_set_25 : decode prog_6_method_3_code 25 = .ok (.aload_n 1, 1) := by decide +kernel
theorem ePl_set_26 : decode prog_6_method_3_code 26 = .ok (.getfield 61, 3) := by decide +kernel
theorem ePl_set_29 : decode prog_6_method_3_code 29 = .ok (.putfield 61, 3) := by decide +kernel
theorem ePl_set_32 : decode prog_6_method_3_code 32 = .ok (.aload_n 0, 1) := by decide +kernel
theorem ePl_set_33 : decode prog_6_method_3_code 33 = .ok (.aload_n 1, 1) := by decide +kernel
theorem ePl_set_34 : decode prog_6_method_3_code 34 = .ok (.getfield 64, 3) := by decide +kernel
theorem ePl_set_37 : decode prog_6_method_3_code 37 = .ok (.putfield 64, 3) := by decide +kernel
theorem ePl_set_40 : decode prog_6_method_3_code 40 = .ok (.aload_n 0, 1) := by decide +kernel
theorem ePl_set_41 : decode prog_6_method_3_code 41 = .ok (.aload_n 1, 1) := by decide +kernel
theorem ePl_set_42 : decode prog_6_method_3_code 42 = .ok (.getfield 67, 3) := by decide +kernel
theorem ePl_set_45 : decode prog_6_method_3_code 45 = .ok (.putfield 67, 3) := by decide +kernel
theorem ePl_set_48 : decode prog_6_method_3_code 48 = .ok (.aload_n 0, 1) := by decide +kernel
theorem ePl_set_49 : decode prog_6_method_3_code 49 = .ok (.aload_n 1, 1) := by decide +kernel
theorem ePl_set_50 : decode prog_6_method_3_code 50 = .ok (.getfield 70, 3) := by decide +kernel
theorem ePl_set_53 : decode prog_6_method_3_code 53 = .ok (.putfield 70, 3) := by decide +kernel
theorem ePl_set_56 : decode prog_6_method_3_code 56 = .ok (.aload_n 1, 1) := by decide +kernel
theorem ePl_set_57 : decode prog_6_method_3_code 57 = .ok (.getfield 9, 3) := by decide +kernel
theorem ePl_set_60 : decode prog_6_method_3_code 60 = .ok (.aload_n 0, 1) := by decide +kernel
theorem ePl_set_61 : decode prog_6_method_3_code 61 = .ok (.getfield 9, 3) := by decide +kernel
theorem ePl_set_64 : decode prog_6_method_3_code 64 = .ok (.invokestatic 73, 3) := by decide +kernel
theorem ePl_set_67 : decode prog_6_method_3_code 67 = .ok (.aload_n 1, 1) := by decide +kernel
theorem ePl_set_68 : decode prog_6_method_3_code 68 = .ok (.getfield 15, 3) := by decide +kernel
theorem ePl_set_71 : decode prog_6_method_3_code 71 = .ok (.aload_n 0, 1) := by decide +kernel
theorem ePl_set_72 : decode prog_6_method_3_code 72 = .ok (.getfield 15, 3) := by decide +kernel
theorem ePl_set_75 : decode prog_6_method_3_code 75 = .ok (.invokestatic 73, 3) := by decide +kernel
theorem ePl_set_78 : decode prog_6_method_3_code 78 = .ok (.aload_n 1, 1) := by decide +kernel
theorem ePl_set_79 : decode prog_6_method_3_code 79 = .ok (.getfield 18, 3) := by decide +kernel
theorem ePl_set_82 : decode prog_6_method_3_code 82 = .ok (.aload_n 0, 1) := by decide +kernel
theorem ePl_set_83 : decode prog_6_method_3_code 83 = .ok (.getfield 18, 3) := by decide +kernel
theorem ePl_set_86 : decode prog_6_method_3_code 86 = .ok (.invokestatic 73, 3) := by decide +kernel
theorem ePl_set_89 : decode prog_6_method_3_code 89 = .ok (.aload_n 1, 1) := by decide +kernel
theorem ePl_set_90 : decode prog_6_method_3_code 90 = .ok (.getfield 21, 3) := by decide +kernel
theorem ePl_set_93 : decode prog_6_method_3_code 93 = .ok (.aload_n 0, 1) := by decide +kernel
theorem ePl_set_94 : decode prog_6_method_3_code 94 = .ok (.getfield 21, 3) := by decide +kernel
theorem ePl_set_97 : decode prog_6_method_3_code 97 = .ok (.invokestatic 73, 3) := by decide +kernel
theorem ePl_set_100 : decode prog_6_method_3_code 100 = .ok (.aload_n 1, 1) := by decide +kernel
theorem ePl_set_101 : decode prog_6_method_3_code 101 = .ok (.getfield 24, 3) := by decide +kernel
theorem ePl_set_104 : decode prog_6_method_3_code 104 = .ok (.aload_n 0, 1) := by decide +kernel
theorem ePl_set_105 : decode prog_6_method_3_code 105 = .ok (.getfield 24, 3) := by decide +kernel
theorem ePl_set_108 : decode prog_6_method_3_code 108 = .ok (.invokestatic 73, 3) := by decide +kernel
theorem ePl_set_111 : decode prog_6_method_3_code 111 = .ok (.aload_n 1, 1) := by decide +kernel
theorem ePl_set_112 : decode prog_6_method_3_code 112 = .ok (.getfield 27, 3) := by decide +kernel
theorem ePl_set_115 : decode prog_6_method_3_code 115 = .ok (.aload_n 0, 1) := by decide +kernel
theorem ePl_set_116 : decode prog_6_method_3_code 116 = .ok (.getfield 27, 3) := by decide +kernel
theorem ePl_set_119 : decode prog_6_method_3_code 119 = .ok (.invokestatic 73, 3) := by decide +kernel
theorem ePl_set_122 : decode prog_6_method_3_code 122 = .ok (.aload_n 1, 1) := by decide +kernel
theorem ePl_set_123 : decode prog_6_method_3_code 123 = .ok (.getfield 30, 3) := by decide +kernel
theorem ePl_set_126 : decode prog_6_method_3_code 126 = .ok (.aload_n 0, 1) := by decide +kernel
theorem ePl_set_127 : decode prog_6_method_3_code 127 = .ok (.getfield 30, 3) := by decide +kernel
theorem ePl_set_130 : decode prog_6_method_3_code 130 = .ok (.invokestatic 73, 3) := by decide +kernel
theorem ePl_set_133 : decode prog_6_method_3_code 133 = .ok (.aload_n 1, 1) := by decide +kernel
theorem ePl_set_134 : decode prog_6_method_3_code 134 = .ok (.getfield 33, 3) := by decide +kernel
theorem ePl_set_137 : decode prog_6_method_3_code 137 = .ok (.aload_n 0, 1) := by decide +kernel
theorem ePl_set_138 : decode prog_6_method_3_code 138 = .ok (.getfield 33, 3) := by decide +kernel
theorem ePl_set_141 : decode prog_6_method_3_code 141 = .ok (.invokestatic 73, 3) := by decide +kernel
theorem ePl_set_144 : decode prog_6_method_3_code 144 = .ok (.aload_n 1, 1) := by decide +kernel
theorem ePl_set_145 : decode prog_6_method_3_code 145 = .ok (.getfield 36, 3) := by decide +kernel
theorem ePl_set_148 : decode prog_6_method_3_code 148 = .ok (.aload_n 0, 1) := by decide +kernel
theorem ePl_set_149 : decode prog_6_method_3_code 149 = .ok (.getfield 36, 3) := by decide +kernel
theorem ePl_set_152 : decode prog_6_method_3_code 152 = .ok (.invokestatic 73, 3) := by decide +kernel
theorem ePl_set_155 : decode prog_6_method_3_code 155 = .ok (.aload_n 1, 1) := by decide +kernel
theorem ePl_set_156 : decode prog_6_method_3_code 156 = .ok (.getfield 39, 3) := by decide +kernel
theorem ePl_set_159 : decode prog_6_method_3_code 159 = .ok (.aload_n 0, 1) := by decide +kernel
theorem ePl_set_160 : decode prog_6_method_3_code 160 = .ok (.getfield 39, 3) := by decide +kernel
theorem ePl_set_163 : decode prog_6_method_3_code 163 = .ok (.invokestatic 73, 3) := by decide +kernel
theorem ePl_set_166 : decode prog_6_method_3_code 166 = .ok (.aload_n 1, 1) := by decide +kernel
theorem ePl_set_167 : decode prog_6_method_3_code 167 = .ok (.getfield 42, 3) := by decide +kernel
theorem ePl_set_170 : decode prog_6_method_3_code 170 = .ok (.aload_n 0, 1) := by decide +kernel
theorem ePl_set_171 : decode prog_6_method_3_code 171 = .ok (.getfield 42, 3) := by decide +kernel
theorem ePl_set_174 : decode prog_6_method_3_code 174 = .ok (.invokestatic 73, 3) := by decide +kernel
theorem ePl_set_177 : decode prog_6_method_3_code 177 = .ok (.aload_n 1, 1) := by decide +kernel
theorem ePl_set_178 : decode prog_6_method_3_code 178 = .ok (.getfield 45, 3) := by decide +kernel
theorem ePl_set_181 : decode prog_6_method_3_code 181 = .ok (.aload_n 0, 1) := by decide +kernel
theorem ePl_set_182 : decode prog_6_method_3_code 182 = .ok (.getfield 45, 3) := by decide +kernel
theorem ePl_set_185 : decode prog_6_method_3_code 185 = .ok (.invokestatic 73, 3) := by decide +kernel
theorem ePl_set_188 : decode prog_6_method_3_code 188 = .ok (.return_, 1) := by decide +kernel
theorem ePl_hasColumn_0 : decode prog_6_method_4_code 0 = .ok (.iload_n 1, 1) := by decide +kernel
theorem ePl_hasColumn_1 : decode prog_6_method_4_code 1 = .ok (.ifCond .lt 21, 3) := by decide +kernel
theorem ePl_hasColumn_4 : decode prog_6_method_4_code 4 = .ok (.iload_n 1, 1) := by decide +kernel
theorem ePl_hasColumn_5 : decode prog_6_method_4_code 5 = .ok (.aload_n 0, 1) := by decide +kernel
theorem ePl_hasColumn_6 : decode prog_6_method_4_code 6 = .ok (.getfield 51, 3) := by decide +kernel
theorem ePl_hasColumn_9 : decode prog_6_method_4_code 9 = .ok (.if_icmp .ge 13, 3) := by decide +kernel
theorem ePl_hasColumn_12 : decode prog_6_method_4_code 12 = .ok (.iload_n 1, 1) := by decide +kernel
theorem ePl_hasColumn_13 : decode prog_6_method_4_code 13 = .ok (.bipush 16, 2) := by decide +kernel
theorem ePl_hasColumn_15 : decode prog_6_method_4_code 15 = .ok (.if_icmp .ge 7, 3) := by decide +kernel
theorem ePl_hasColumn_18 : decode prog_6_method_4_code 18 = .ok (.iconst 1, 1) := by decide +kernel
theorem ePl_hasColumn_19 : decode prog_6_method_4_code 19 = .ok (.goto 4, 3) := by decide +kernel
theorem ePl_hasColumn_22 : decode prog_6_method_4_code 22 = .ok (.iconst 0, 1) := by decide +kernel
theorem ePl_hasColumn_23 : decode prog_6_method_4_code 23 = .ok (.ireturn, 1) := by decide +kernel
theorem ePl_hasSpot_0 : decode prog_6_method_5_code 0 = .ok (.iload_n 1, 1) := by decide +kernel
theorem ePl_hasSpot_1 : decode prog_6_method_5_code 1 = .ok (.ifCond .lt 23, 3) := by decide +kernel
theorem ePl_hasSpot_4 : decode prog_6_method_5_code 4 = .ok (.iload_n 1, 1) := by decide +kernel
theorem ePl_hasSpot_5 : decode prog_6_method_5_code 5 = .ok (.aload_n 0, 1) := by decide +kernel
theorem ePl_hasSpot_6 : decode prog_6_method_5_code 6 = .ok (.getfield 45, 3) := by decide +kernel
theorem ePl_hasSpot_9 : decode prog_6_method_5_code 9 = .ok (.iconst 5, 1) := by decide +kernel
theorem ePl_hasSpot_10 : decode prog_6_method_5_code 10 = .ok (.iaload, 1) := by decide +kernel
theorem ePl_hasSpot_11 : decode prog_6_method_5_code 11 = .ok (.if_icmp .ge 13, 3) := by decide +kernel
theorem ePl_hasSpot_14 : decode prog_6_method_5_code 14 = .ok (.iload_n 1, 1) := by decide +kernel
theorem ePl_hasSpot_15 : decode prog_6_method_5_code 15 = .ok (.bipush 6, 2) := by decide +kernel
theorem ePl_hasSpot_17 : decode prog_6_method_5_code 17 = .ok (.if_icmp .ge 7, 3) := by decide +kernel
theorem ePl_hasSpot_20 : decode prog_6_method_5_code 20 = .ok (.iconst 1, 1) := by decide +kernel
theorem ePl_hasSpot_21 : decode prog_6_method_5_code 21 = .ok (.goto 4, 3) := by decide +kernel
theorem ePl_hasSpot_24 : decode prog_6_method_5_code 24 = .ok (.iconst 0, 1) := by decide +kernel
theorem ePl_hasSpot_25 : decode prog_6_method_5_code 25 = .ok (.ireturn, 1) := by decide +kernel
theorem ePl_freeOf_0 : decode prog_6_method_6_code 0 = .ok (.aload_n 0, 1) := by decide +kernel
theorem ePl_freeOf_1 : decode prog_6_method_6_code 1 = .ok (.iload_n 2, 1) := by decide +kernel
theorem ePl_freeOf_2 : decode prog_6_method_6_code 2 = .ok (.invokevirtual 77, 3) := by decide +kernel
theorem ePl_freeOf_5 : decode prog_6_method_6_code 5 = .ok (.ifCond .eq 9, 3) := by decide +kernel
theorem ePl_freeOf_8 : decode prog_6_method_6_code 8 = .ok (.iload_n 2, 1) := by decide +kernel
theorem ePl_freeOf_9 : decode prog_6_method_6_code 9 = .ok (.aload_n 1, 1) := by decide +kernel
theorem ePl_freeOf_10 : decode prog_6_method_6_code 10 = .ok (.arraylength, 1) := by decide +kernel
theorem ePl_freeOf_11 : decode prog_6_method_6_code 11 = .ok (.if_icmp .lt 5, 3) := by decide +kernel
theorem ePl_freeOf_14 : decode prog_6_method_6_code 14 = .ok (.iconst 0, 1) := by decide +kernel
theorem ePl_freeOf_15 : decode prog_6_method_6_code 15 = .ok (.ireturn, 1) := by decide +kernel
theorem ePl_freeOf_16 : decode prog_6_method_6_code 16 = .ok (.iconst 0, 1) := by decide +kernel
theorem ePl_freeOf_17 : decode prog_6_method_6_code 17 = .ok (.aload_n 0, 1) := by decide +kernel
theorem ePl_freeOf_18 : decode prog_6_method_6_code 18 = .ok (.getfield 55, 3) := by decide +kernel
theorem ePl_freeOf_21 : decode prog_6_method_6_code 21 = .ok (.aload_n 0, 1) := by decide +kernel
theorem ePl_freeOf_22 : decode prog_6_method_6_code 22 = .ok (.getfield 9, 3) := by decide +kernel
theorem ePl_freeOf_25 : decode prog_6_method_6_code 25 = .ok (.iload_n 2, 1) := by decide +kernel
theorem ePl_freeOf_26 : decode prog_6_method_6_code 26 = .ok (.iaload, 1) := by decide +kernel
theorem ePl_freeOf_27 : decode prog_6_method_6_code 27 = .ok (.invokestatic 81, 3) := by decide +kernel
theorem ePl_freeOf_30 : decode prog_6_method_6_code 30 = .ok (.aload_n 1, 1) := by decide +kernel
theorem ePl_freeOf_31 : decode prog_6_method_6_code 31 = .ok (.iload_n 2, 1) := by decide +kernel
theorem ePl_freeOf_32 : decode prog_6_method_6_code 32 = .ok (.iaload, 1) := by decide +kernel
theorem ePl_freeOf_33 : decode prog_6_method_6_code 33 = .ok (.isub, 1) := by decide +kernel
theorem ePl_freeOf_34 : decode prog_6_method_6_code 34 = .ok (.invokestatic 87, 3) := by decide +kernel
theorem ePl_freeOf_37 : decode prog_6_method_6_code 37 = .ok (.ireturn, 1) := by decide +kernel
theorem ePl_spotNamed_0 : decode prog_6_method_7_code 0 = .ok (.iconst 0, 1) := by decide +kernel
theorem ePl_spotNamed_1 : decode prog_6_method_7_code 1 = .ok (.istore_n 2, 1) := by decide +kernel
theorem ePl_spotNamed_2 : decode prog_6_method_7_code 2 = .ok (.iload_n 2, 1) := by decide +kernel
theorem ePl_spotNamed_3 : decode prog_6_method_7_code 3 = .ok (.aload_n 0, 1) := by decide +kernel
theorem ePl_spotNamed_4 : decode prog_6_method_7_code 4 = .ok (.getfield 45, 3) := by decide +kernel
theorem ePl_spotNamed_7 : decode prog_6_method_7_code 7 = .ok (.iconst 5, 1) := by decide +kernel
theorem ePl_spotNamed_8 : decode prog_6_method_7_code 8 = .ok (.iaload, 1) := by decide +kernel
theorem ePl_spotNamed_9 : decode prog_6_method_7_code 9 = .ok (.if_icmp .ge 27, 3) := by decide +kernel
theorem ePl_spotNamed_12 : decode prog_6_method_7_code 12 = .ok (.iload_n 2, 1) := by decide +kernel
theorem ePl_spotNamed_13 : decode prog_6_method_7_code 13 = .ok (.bipush 6, 2) := by decide +kernel
theorem ePl_spotNamed_15 : decode prog_6_method_7_code 15 = .ok (.if_icmp .ge 21, 3) := by decide +kernel
theorem ePl_spotNamed_18 : decode prog_6_method_7_code 18 = .ok (.aload_n 0, 1) := by decide +kernel
theorem ePl_spotNamed_19 : decode prog_6_method_7_code 19 = .ok (.getfield 18, 3) := by decide +kernel
theorem ePl_spotNamed_22 : decode prog_6_method_7_code 22 = .ok (.iload_n 2, 1) := by decide +kernel
theorem ePl_spotNamed_23 : decode prog_6_method_7_code 23 = .ok (.iaload, 1) := by decide +kernel
theorem ePl_spotNamed_24 : decode prog_6_method_7_code 24 = .ok (.iload_n 1, 1) := by decide +kernel
theorem ePl_spotNamed_25 : decode prog_6_method_7_code 25 = .ok (.if_icmp .ne 5, 3) := by decide +kernel
theorem ePl_spotNamed_28 : decode prog_6_method_7_code 28 = .ok (.iload_n 2, 1) := by decide +kernel
theorem ePl_spotNamed_29 : decode prog_6_method_7_code 29 = .ok (.ireturn, 1) := by decide +kernel
theorem ePl_spotNamed_30 : decode prog_6_method_7_code 30 = .ok (.iinc 2 1, 3) := by decide +kernel
theorem ePl_spotNamed_33 : decode prog_6_method_7_code 33 = .ok (.goto (-31), 3) := by decide +kernel
theorem ePl_spotNamed_36 : decode prog_6_method_7_code 36 = .ok (.iconst (-1), 1) := by decide +kernel
theorem ePl_spotNamed_37 : decode prog_6_method_7_code 37 = .ok (.ireturn, 1) := by decide +kernel
theorem ePl_windAt_0 : decode prog_6_method_8_code 0 = .ok (.iconst 0, 1) := by decide +kernel
theorem ePl_windAt_1 : decode prog_6_method_8_code 1 = .ok (.istore_n 2, 1) := by decide +kernel
theorem ePl_windAt_2 : decode prog_6_method_8_code 2 = .ok (.iload_n 2, 1) := by decide +kernel
theorem ePl_windAt_3 : decode prog_6_method_8_code 3 = .ok (.aload_n 0, 1) := by decide +kernel
theorem ePl_windAt_4 : decode prog_6_method_8_code 4 = .ok (.getfield 45, 3) := by decide +kernel
theorem ePl_windAt_7 : decode prog_6_method_8_code 7 = .ok (.bipush 7, 2) := by decide +kernel
theorem ePl_windAt_9 : decode prog_6_method_8_code 9 = .ok (.iaload, 1) := by decide +kernel
theorem ePl_windAt_10 : decode prog_6_method_8_code 10 = .ok (.if_icmp .ge 32, 3) := by decide +kernel
theorem ePl_windAt_13 : decode prog_6_method_8_code 13 = .ok (.iload_n 2, 1) := by decide +kernel
theorem ePl_windAt_14 : decode prog_6_method_8_code 14 = .ok (.bipush 8, 2) := by decide +kernel
theorem ePl_windAt_16 : decode prog_6_method_8_code 16 = .ok (.if_icmp .ge 26, 3) := by decide +kernel
theorem ePl_windAt_19 : decode prog_6_method_8_code 19 = .ok (.aload_n 0, 1) := by decide +kernel
theorem ePl_windAt_20 : decode prog_6_method_8_code 20 = .ok (.getfield 27, 3) := by decide +kernel
theorem ePl_windAt_23 : decode prog_6_method_8_code 23 = .ok (.iload_n 2, 1) := by decide +kernel
theorem ePl_windAt_24 : decode prog_6_method_8_code 24 = .ok (.iaload, 1) := by decide +kernel
theorem ePl_windAt_25 : decode prog_6_method_8_code 25 = .ok (.iload_n 1, 1) := by decide +kernel
theorem ePl_windAt_26 : decode prog_6_method_8_code 26 = .ok (.if_icmp .ne 10, 3) := by decide +kernel
theorem ePl_windAt_29 : decode prog_6_method_8_code 29 = .ok (.aload_n 0, 1) := by decide +kernel
theorem ePl_windAt_30 : decode prog_6_method_8_code 30 = .ok (.getfield 30, 3) := by decide +kernel
theorem ePl_windAt_33 : decode prog_6_method_8_code 33 = .ok (.iload_n 2, 1) := by decide +kernel
theorem ePl_windAt_34 : decode prog_6_method_8_code 34 = .ok (.iaload, 1) := by decide +kernel
theorem ePl_windAt_35 : decode prog_6_method_8_code 35 = .ok (.ireturn, 1) := by decide +kernel
theorem ePl_windAt_36 : decode prog_6_method_8_code 36 = .ok (.iinc 2 1, 3) := by decide +kernel
theorem ePl_windAt_39 : decode prog_6_method_8_code 39 = .ok (.goto (-37), 3) := by decide +kernel
theorem ePl_windAt_42 : decode prog_6_method_8_code 42 = .ok (.iconst 0, 1) := by decide +kernel
theorem ePl_windAt_43 : decode prog_6_method_8_code 43 = .ok (.ireturn, 1) := by decide +kernel
theorem ePl_orderAt_0 : decode prog_6_method_9_code 0 = .ok (.iconst 0, 1) := by decide +kernel
theorem ePl_orderAt_1 : decode prog_6_method_9_code 1 = .ok (.istore_n 2, 1) := by decide +kernel
theorem ePl_orderAt_2 : decode prog_6_method_9_code 2 = .ok (.iconst 0, 1) := by decide +kernel
theorem ePl_orderAt_3 : decode prog_6_method_9_code 3 = .ok (.istore_n 3, 1) := by decide +kernel
theorem ePl_orderAt_4 : decode prog_6_method_9_code 4 = .ok (.iload_n 3, 1) := by decide +kernel
theorem ePl_orderAt_5 : decode prog_6_method_9_code 5 = .ok (.aload_n 0, 1) := by decide +kernel
theorem ePl_orderAt_6 : decode prog_6_method_9_code 6 = .ok (.getfield 45, 3) := by decide +kernel
theorem ePl_orderAt_9 : decode prog_6_method_9_code 9 = .ok (.bipush 8, 2) := by decide +kernel
theorem ePl_orderAt_11 : decode prog_6_method_9_code 11 = .ok (.iaload, 1) := by decide +kernel
theorem ePl_orderAt_12 : decode prog_6_method_9_code 12 = .ok (.if_icmp .ge 36, 3) := by decide +kernel
theorem ePl_orderAt_15 : decode prog_6_method_9_code 15 = .ok (.iload_n 3, 1) := by decide +kernel
theorem ePl_orderAt_16 : decode prog_6_method_9_code 16 = .ok (.bipush 16, 2) := by decide +kernel
theorem ePl_orderAt_18 : decode prog_6_method_9_code 18 = .ok (.if_icmp .ge 30, 3) := by decide +kernel
theorem ePl_orderAt_21 : decode prog_6_method_9_code 21 = .ok (.iload_n 2, 1) := by decide +kernel
theorem ePl_orderAt_22 : decode prog_6_method_9_code 22 = .ok (.aload_n 0, 1) := by decide +kernel
theorem ePl_orderAt_23 : decode prog_6_method_9_code 23 = .ok (.getfield 36, 3) := by decide +kernel
theorem ePl_orderAt_26 : decode prog_6_method_9_code 26 = .ok (.iload_n 3, 1) := by decide +kernel
theorem ePl_orderAt_27 : decode prog_6_method_9_code 27 = .ok (.iaload, 1) := by decide +kernel
theorem ePl_orderAt_28 : decode prog_6_method_9_code 28 = .ok (.iadd, 1) := by decide +kernel
theorem ePl_orderAt_29 : decode prog_6_method_9_code 29 = .ok (.istore_n 2, 1) := by decide +kernel
theorem ePl_orderAt_30 : decode prog_6_method_9_code 30 = .ok (.iload_n 1, 1) := by decide +kernel
theorem ePl_orderAt_31 : decode prog_6_method_9_code 31 = .ok (.iload_n 2, 1) := by decide +kernel
theorem ePl_orderAt_32 : decode prog_6_method_9_code 32 = .ok (.if_icmp .ge 10, 3) := by decide +kernel
theorem ePl_orderAt_35 : decode prog_6_method_9_code 35 = .ok (.aload_n 0, 1) := by decide +kernel
theorem ePl_orderAt_36 : decode prog_6_method_9_code 36 = .ok (.getfield 33, 3) := by decide +kernel
theorem ePl_orderAt_39 : decode prog_6_method_9_code 39 = .ok (.iload_n 3, 1) := by decide +kernel
theorem ePl_orderAt_40 : decode prog_6_method_9_code 40 = .ok (.iaload, 1) := by decide +kernel
theorem ePl_orderAt_41 : decode prog_6_method_9_code 41 = .ok (.ireturn, 1) := by decide +kernel
theorem ePl_orderAt_42 : decode prog_6_method_9_code 42 = .ok (.iinc 3 1, 3) := by decide +kernel
theorem ePl_orderAt_45 : decode prog_6_method_9_code 45 = .ok (.goto (-41), 3) := by decide +kernel
theorem ePl_orderAt_48 : decode prog_6_method_9_code 48 = .ok (.iconst (-1), 1) := by decide +kernel
theorem ePl_orderAt_49 : decode prog_6_method_9_code 49 = .ok (.ireturn, 1) := by decide +kernel
theorem ePo_init_0 : decode prog_7_method_1_code 0 = .ok (.aload_n 0, 1) := by decide +kernel
theorem ePo_init_1 : decode prog_7_method_1_code 1 = .ok (.invokespecial 3, 3) := by decide +kernel
theorem ePo_init_4 : decode prog_7_method_1_code 4 = .ok (.return_, 1) := by decide +kernel
theorem ePo_set_0 : decode prog_7_method_2_code 0 = .ok (.aload_n 0, 1) := by decide +kernel
theorem ePo_set_1 : decode prog_7_method_2_code 1 = .ok (.aload_n 1, 1) := by decide +kernel
theorem ePo_set_2 : decode prog_7_method_2_code 2 = .ok (.getfield 9, 3) := by decide +kernel
theorem ePo_set_5 : decode prog_7_method_2_code 5 = .ok (.putfield 9, 3) := by decide +kernel
theorem ePo_set_8 : decode prog_7_method_2_code 8 = .ok (.aload_n 0, 1) := by decide +kernel
theorem ePo_set_9 : decode prog_7_method_2_code 9 = .ok (.aload_n 1, 1) := by decide +kernel
theorem ePo_set_10 : decode prog_7_method_2_code 10 = .ok (.getfield 15, 3) := by decide +kernel
theorem ePo_set_13 : decode prog_7_method_2_code 13 = .ok (.putfield 15, 3) := by decide +kernel
theorem ePo_set_16 : decode prog_7_method_2_code 16 = .ok (.aload_n 0, 1) := by decide +kernel
theorem ePo_set_17 : decode prog_7_method_2_code 17 = .ok (.aload_n 1, 1) := by decide +kernel
theorem ePo_set_18 : decode prog_7_method_2_code 18 = .ok (.getfield 18, 3) := by decide +kernel
theorem ePo_set_21 : decode prog_7_method_2_code 21 = .ok (.putfield 18, 3) := by decide +kernel
theorem ePo_set_24 : decode prog_7_method_2_code 24 = .ok (.aload_n 0, 1) := by decide +kernel
theorem ePo_set_25 : decode prog_7_method_2_code 25 = .ok (.aload_n 1, 1) := by decide +kernel
theorem ePo_set_26 : decode prog_7_method_2_code 26 = .ok (.getfield 21, 3) := by decide +kernel
theorem ePo_set_29 : decode prog_7_method_2_code 29 = .ok (.putfield 21, 3) := by decide +kernel
theorem ePo_set_32 : decode prog_7_method_2_code 32 = .ok (.aload_n 0, 1) := by decide +kernel
theorem ePo_set_33 : decode prog_7_method_2_code 33 = .ok (.aload_n 1, 1) := by decide +kernel
theorem ePo_set_34 : decode prog_7_method_2_code 34 = .ok (.getfield 24, 3) := by decide +kernel
theorem ePo_set_37 : decode prog_7_method_2_code 37 = .ok (.putfield 24, 3) := by decide +kernel
theorem ePo_set_40 : decode prog_7_method_2_code 40 = .ok (.return_, 1) := by decide +kernel
theorem ePo_hang_0 : decode prog_7_method_3_code 0 = .ok (.aload_n 0, 1) := by decide +kernel
theorem ePo_hang_1 : decode prog_7_method_3_code 1 = .ok (.iload_n 1, 1) := by decide +kernel
theorem ePo_hang_2 : decode prog_7_method_3_code 2 = .ok (.putfield 9, 3) := by decide +kernel
theorem ePo_hang_5 : decode prog_7_method_3_code 5 = .ok (.aload_n 0, 1) := by decide +kernel
theorem ePo_hang_6 : decode prog_7_method_3_code 6 = .ok (.iload_n 2, 1) := by decide +kernel
theorem ePo_hang_7 : decode prog_7_method_3_code 7 = .ok (.putfield 24, 3) := by decide +kernel
theorem ePo_hang_10 : decode prog_7_method_3_code 10 = .ok (.aload_n 0, 1) := by decide +kernel
theorem ePo_hang_11 : decode prog_7_method_3_code 11 = .ok (.iconst 0, 1) := by decide +kernel
theorem ePo_hang_12 : decode prog_7_method_3_code 12 = .ok (.putfield 15, 3) := by decide +kernel
theorem ePo_hang_15 : decode prog_7_method_3_code 15 = .ok (.aload_n 0, 1) := by decide +kernel
theorem ePo_hang_16 : decode prog_7_method_3_code 16 = .ok (.iconst 0, 1) := by decide +kernel
theorem ePo_hang_17 : decode prog_7_method_3_code 17 = .ok (.putfield 18, 3) := by decide +kernel
theorem ePo_hang_20 : decode prog_7_method_3_code 20 = .ok (.aload_n 0, 1) := by decide +kernel
theorem ePo_hang_21 : decode prog_7_method_3_code 21 = .ok (.iconst 0, 1) := by decide +kernel
theorem ePo_hang_22 : decode prog_7_method_3_code 22 = .ok (.putfield 21, 3) := by decide +kernel
theorem ePo_hang_25 : decode prog_7_method_3_code 25 = .ok (.return_, 1) := by decide +kernel
theorem ePo_move_0 : decode prog_7_method_4_code 0 = .ok (.iload_n 1, 1) := by decide +kernel
theorem ePo_move_1 : decode prog_7_method_4_code 1 = .ok (.iconst 3, 1) := by decide +kernel
theorem ePo_move_2 : decode prog_7_method_4_code 2 = .ok (.idiv, 1) := by decide +kernel
theorem ePo_move_3 : decode prog_7_method_4_code 3 = .ok (.iconst 1, 1) := by decide +kernel
theorem ePo_move_4 : decode prog_7_method_4_code 4 = .ok (.isub, 1) := by decide +kernel
theorem ePo_move_5 : decode prog_7_method_4_code 5 = .ok (.istore_n 3, 1) := by decide +kernel
theorem ePo_move_6 : decode prog_7_method_4_code 6 = .ok (.aload_n 0, 1) := by decide +kernel
theorem ePo_move_7 : decode prog_7_method_4_code 7 = .ok (.dup, 1) := by decide +kernel
theorem ePo_move_8 : decode prog_7_method_4_code 8 = .ok (.getfield 15, 3) := by decide +kernel
theorem ePo_move_11 : decode prog_7_method_4_code 11 = .ok (.iload_n 3, 1) := by decide +kernel
theorem ePo_move_12 : decode prog_7_method_4_code 12 = .ok (.iadd, 1) := by decide +kernel
theorem ePo_move_13 : decode prog_7_method_4_code 13 = .ok (.putfield 15, 3) := by decide +kernel
theorem ePo_move_16 : decode prog_7_method_4_code 16 = .ok (.aload_n 0, 1) := by decide +kernel
theorem ePo_move_17 : decode prog_7_method_4_code 17 = .ok (.dup, 1) := by decide +kernel
theorem ePo_move_18 : decode prog_7_method_4_code 18 = .ok (.getfield 9, 3) := by decide +kernel
theorem ePo_move_21 : decode prog_7_method_4_code 21 = .ok (.aload_n 0, 1) := by decide +kernel
theorem ePo_move_22 : decode prog_7_method_4_code 22 = .ok (.getfield 15, 3) := by decide +kernel
theorem ePo_move_25 : decode prog_7_method_4_code 25 = .ok (.iadd, 1) := by decide +kernel
theorem ePo_move_26 : decode prog_7_method_4_code 26 = .ok (.putfield 9, 3) := by decide +kernel
theorem ePo_move_29 : decode prog_7_method_4_code 29 = .ok (.aload_n 0, 1) := by decide +kernel
theorem ePo_move_30 : decode prog_7_method_4_code 30 = .ok (.dup, 1) := by decide +kernel
theorem ePo_move_31 : decode prog_7_method_4_code 31 = .ok (.getfield 24, 3) := by decide +kernel
theorem ePo_move_34 : decode prog_7_method_4_code 34 = .ok (.iload_n 1, 1) := by decide +kernel
theorem ePo_move_35 : decode prog_7_method_4_code 35 = .ok (.iconst 3, 1) := by decide +kernel
theorem ePo_move_36 : decode prog_7_method_4_code 36 = .ok (.irem, 1) := by decide +kernel
theorem ePo_move_37 : decode prog_7_method_4_code 37 = .ok (.iconst 1, 1) := by decide +kernel
theorem ePo_move_38 : decode prog_7_method_4_code 38 = .ok (.isub, 1) := by decide +kernel
theorem ePo_move_39 : decode prog_7_method_4_code 39 = .ok (.iadd, 1) := by decide +kernel
theorem ePo_move_40 : decode prog_7_method_4_code 40 = .ok (.putfield 24, 3) := by decide +kernel
theorem ePo_move_43 : decode prog_7_method_4_code 43 = .ok (.iload_n 2, 1) := by decide +kernel
theorem ePo_move_44 : decode prog_7_method_4_code 44 = .ok (.iload_n 3, 1) := by decide +kernel
theorem ePo_move_45 : decode prog_7_method_4_code 45 = .ok (.isub, 1) := by decide +kernel
theorem ePo_move_46 : decode prog_7_method_4_code 46 = .ok (.aload_n 0, 1) := by decide +kernel
theorem ePo_move_47 : decode prog_7_method_4_code 47 = .ok (.getfield 21, 3) := by decide +kernel
theorem ePo_move_50 : decode prog_7_method_4_code 50 = .ok (.isub, 1) := by decide +kernel
theorem ePo_move_51 : decode prog_7_method_4_code 51 = .ok (.istore 4, 2) := by decide +kernel
theorem ePo_move_53 : decode prog_7_method_4_code 53 = .ok (.aload_n 0, 1) := by decide +kernel
theorem ePo_move_54 : decode prog_7_method_4_code 54 = .ok (.getfield 24, 3) := by decide +kernel
theorem ePo_move_57 : decode prog_7_method_4_code 57 = .ok (.iconst 2, 1) := by decide +kernel
theorem ePo_move_58 : decode prog_7_method_4_code 58 = .ok (.if_icmp .gt 15, 3) := by decide +kernel
theorem ePo_move_61 : decode prog_7_method_4_code 61 = .ok (.iload 4, 2) := by decide +kernel
theorem ePo_move_63 : decode prog_7_method_4_code 63 = .ok (.aload_n 0, 1) := by decide +kernel
theorem ePo_move_64 : decode prog_7_method_4_code 64 = .ok (.getfield 18, 3) := by decide +kernel
theorem ePo_move_67 : decode prog_7_method_4_code 67 = .ok (.isub, 1) := by decide +kernel
theorem ePo_move_68 : decode prog_7_method_4_code 68 = .ok (.istore 4, 2) := by decide +kernel
theorem ePo_move_70 : decode prog_7_method_4_code 70 = .ok (.goto 20, 3) := by decide +kernel
theorem ePo_move_73 : decode prog_7_method_4_code 73 = .ok (.aload_n 0, 1) := by decide +kernel
theorem ePo_move_74 : decode prog_7_method_4_code 74 = .ok (.getfield 24, 3) := by decide +kernel
theorem ePo_move_77 : decode prog_7_method_4_code 77 = .ok (.iconst 4, 1) := by decide +kernel
theorem ePo_move_78 : decode prog_7_method_4_code 78 = .ok (.if_icmp .le 12, 3) := by decide +kernel
theorem ePo_move_81 : decode prog_7_method_4_code 81 = .ok (.iload 4, 2) := by decide +kernel
theorem ePo_move_83 : decode prog_7_method_4_code 83 = .ok (.aload_n 0, 1) := by decide +kernel
theorem ePo_move_84 : decode prog_7_method_4_code 84 = .ok (.getfield 18, 3) := by decide +kernel
theorem ePo_move_87 : decode prog_7_method_4_code 87 = .ok (.iadd, 1) := by decide +kernel
theorem ePo_move_88 : decode prog_7_method_4_code 88 = .ok (.istore 4, 2) := by decide +kernel
theorem ePo_move_90 : decode prog_7_method_4_code 90 = .ok (.aload_n 0, 1) := by decide +kernel
theorem ePo_move_91 : decode prog_7_method_4_code 91 = .ok (.aload_n 0, 1) := by decide +kernel
theorem ePo_move_92 : decode prog_7_method_4_code 92 = .ok (.getfield 18, 3) := by decide +kernel
theorem ePo_move_95 : decode prog_7_method_4_code 95 = .ok (.putfield 21, 3) := by decide +kernel
theorem ePo_move_98 : decode prog_7_method_4_code 98 = .ok (.aload_n 0, 1) := by decide +kernel
theorem ePo_move_99 : decode prog_7_method_4_code 99 = .ok (.iload 4, 2) := by decide +kernel
theorem ePo_move_101 : decode prog_7_method_4_code 101 = .ok (.putfield 18, 3) := by decide +kernel
theorem ePo_move_104 : decode prog_7_method_4_code 104 = .ok (.return_, 1) := by decide +kernel
theorem ePo_moveBack_0 : decode prog_7_method_5_code 0 = .ok (.iload_n 1, 1) := by decide +kernel
theorem ePo_moveBack_1 : decode prog_7_method_5_code 1 = .ok (.iconst 3, 1) := by decide +kernel
theorem ePo_moveBack_2 : decode prog_7_method_5_code 2 = .ok (.idiv, 1) := by decide +kernel
theorem ePo_moveBack_3 : decode prog_7_method_5_code 3 = .ok (.iconst 1, 1) := by decide +kernel
theorem ePo_moveBack_4 : decode prog_7_method_5_code 4 = .ok (.isub, 1) := by decide +kernel
theorem ePo_moveBack_5 : decode prog_7_method_5_code 5 = .ok (.istore_n 2, 1) := by decide +kernel
theorem ePo_moveBack_6 : decode prog_7_method_5_code 6 = .ok (.iload_n 2, 1) := by decide +kernel
theorem ePo_moveBack_7 : decode prog_7_method_5_code 7 = .ok (.ineg, 1) := by decide +kernel
theorem ePo_moveBack_8 : decode prog_7_method_5_code 8 = .ok (.aload_n 0, 1) := by decide +kernel
theorem ePo_moveBack_9 : decode prog_7_method_5_code 9 = .ok (.getfield 18, 3) := by decide +kernel
theorem ePo_moveBack_12 : decode prog_7_method_5_code 12 = .ok (.isub, 1) := by decide +kernel
theorem ePo_moveBack_13 : decode prog_7_method_5_code 13 = .ok (.istore_n 3, 1) := by decide +kernel
theorem ePo_moveBack_14 : decode prog_7_method_5_code 14 = .ok (.aload_n 0, 1) := by decide +kernel
theorem ePo_moveBack_15 : decode prog_7_method_5_code 15 = .ok (.getfield 24, 3) := by decide +kernel
theorem ePo_moveBack_18 : decode prog_7_method_5_code 18 = .ok (.iconst 2, 1) := by decide +kernel
theorem ePo_moveBack_19 : decode prog_7_method_5_code 19 = .ok (.if_icmp .gt 13, 3) := by decide +kernel
theorem ePo_moveBack_22 : decode prog_7_method_5_code 22 = .ok (.iload_n 3, 1) := by decide +kernel
theorem ePo_moveBack_23 : decode prog_7_method_5_code 23 = .ok (.aload_n 0, 1) := by decide +kernel
theorem ePo_moveBack_24 : decode prog_7_method_5_code 24 = .ok (.getfield 21, 3) := by decide +kernel
theorem ePo_moveBack_27 : decode prog_7_method_5_code 27 = .ok (.isub, 1) := by decide +kernel
theorem ePo_moveBack_28 : decode prog_7_method_5_code 28 = .ok (.istore_n 3, 1) := by decide +kernel
theorem ePo_moveBack_29 : decode prog_7_method_5_code 29 = .ok (.goto 18, 3) := by decide +kernel
theorem ePo_moveBack_32 : decode prog_7_method_5_code 32 = .ok (.aload_n 0, 1) := by decide +kernel
theorem ePo_moveBack_33 : decode prog_7_method_5_code 33 = .ok (.getfield 24, 3) := by decide +kernel
theorem ePo_moveBack_36 : decode prog_7_method_5_code 36 = .ok (.iconst 4, 1) := by decide +kernel
theorem ePo_moveBack_37 : decode prog_7_method_5_code 37 = .ok (.if_icmp .le 10, 3) := by decide +kernel
theorem ePo_moveBack_40 : decode prog_7_method_5_code 40 = .ok (.iload_n 3, 1) := by decide +kernel
theorem ePo_moveBack_41 : decode prog_7_method_5_code 41 = .ok (.aload_n 0, 1) := by decide +kernel
theorem ePo_moveBack_42 : decode prog_7_method_5_code 42 = .ok (.getfield 21, 3) := by decide +kernel
theorem ePo_moveBack_45 : decode prog_7_method_5_code 45 = .ok (.iadd, 1) := by decide +kernel
theorem ePo_moveBack_46 : decode prog_7_method_5_code 46 = .ok (.istore_n 3, 1) := by decide +kernel
theorem ePo_moveBack_47 : decode prog_7_method_5_code 47 = .ok (.aload_n 0, 1) := by decide +kernel
theorem ePo_moveBack_48 : decode prog_7_method_5_code 48 = .ok (.dup, 1) := by decide +kernel
theorem ePo_moveBack_49 : decode prog_7_method_5_code 49 = .ok (.getfield 24, 3) := by decide +kernel
theorem ePo_moveBack_52 : decode prog_7_method_5_code 52 = .ok (.iload_n 1, 1) := by decide +kernel
theorem ePo_moveBack_53 : decode prog_7_method_5_code 53 = .ok (.iconst 3, 1) := by decide +kernel
theorem ePo_moveBack_54 : decode prog_7_method_5_code 54 = .ok (.irem, 1) := by decide +kernel
theorem ePo_moveBack_55 : decode prog_7_method_5_code 55 = .ok (.iconst 1, 1) := by decide +kernel
theorem ePo_moveBack_56 : decode prog_7_method_5_code 56 = .ok (.isub, 1) := by decide +kernel
theorem ePo_moveBack_57 : decode prog_7_method_5_code 57 = .ok (.isub, 1) := by decide +kernel
theorem ePo_moveBack_58 : decode prog_7_method_5_code 58 = .ok (.putfield 24, 3) := by decide +kernel
theorem ePo_moveBack_61 : decode prog_7_method_5_code 61 = .ok (.aload_n 0, 1) := by decide +kernel
theorem ePo_moveBack_62 : decode prog_7_method_5_code 62 = .ok (.dup, 1) := by decide +kernel
theorem ePo_moveBack_63 : decode prog_7_method_5_code 63 = .ok (.getfield 9, 3) := by decide +kernel
theorem ePo_moveBack_66 : decode prog_7_method_5_code 66 = .ok (.aload_n 0, 1) := by decide +kernel
theorem ePo_moveBack_67 : decode prog_7_method_5_code 67 = .ok (.getfield 15, 3) := by decide +kernel
theorem ePo_moveBack_70 : decode prog_7_method_5_code 70 = .ok (.isub, 1) := by decide +kernel
theorem ePo_moveBack_71 : decode prog_7_method_5_code 71 = .ok (.putfield 9, 3) := by decide +kernel
theorem ePo_moveBack_74 : decode prog_7_method_5_code 74 = .ok (.aload_n 0, 1) := by decide +kernel
theorem ePo_moveBack_75 : decode prog_7_method_5_code 75 = .ok (.dup, 1) := by decide +kernel
theorem ePo_moveBack_76 : decode prog_7_method_5_code 76 = .ok (.getfield 15, 3) := by decide +kernel
theorem ePo_moveBack_79 : decode prog_7_method_5_code 79 = .ok (.iload_n 2, 1) := by decide +kernel
theorem ePo_moveBack_80 : decode prog_7_method_5_code 80 = .ok (.isub, 1) := by decide +kernel
theorem ePo_moveBack_81 : decode prog_7_method_5_code 81 = .ok (.putfield 15, 3) := by decide +kernel
theorem ePo_moveBack_84 : decode prog_7_method_5_code 84 = .ok (.aload_n 0, 1) := by decide +kernel
theorem ePo_moveBack_85 : decode prog_7_method_5_code 85 = .ok (.aload_n 0, 1) := by decide +kernel
theorem ePo_moveBack_86 : decode prog_7_method_5_code 86 = .ok (.getfield 21, 3) := by decide +kernel
theorem ePo_moveBack_89 : decode prog_7_method_5_code 89 = .ok (.putfield 18, 3) := by decide +kernel
theorem ePo_moveBack_92 : decode prog_7_method_5_code 92 = .ok (.aload_n 0, 1) := by decide +kernel
theorem ePo_moveBack_93 : decode prog_7_method_5_code 93 = .ok (.iload_n 3, 1) := by decide +kernel
theorem ePo_moveBack_94 : decode prog_7_method_5_code 94 = .ok (.putfield 21, 3) := by decide +kernel
theorem ePo_moveBack_97 : decode prog_7_method_5_code 97 = .ok (.return_, 1) := by decide +kernel
theorem ePo_isStill_0 : decode prog_7_method_6_code 0 = .ok (.aload_n 0, 1) := by decide +kernel
theorem ePo_isStill_1 : decode prog_7_method_6_code 1 = .ok (.getfield 15, 3) := by decide +kernel
theorem ePo_isStill_4 : decode prog_7_method_6_code 4 = .ok (.ifCond .ne 21, 3) := by decide +kernel
theorem ePo_isStill_7 : decode prog_7_method_6_code 7 = .ok (.aload_n 0, 1) := by decide +kernel
theorem ePo_isStill_8 : decode prog_7_method_6_code 8 = .ok (.getfield 18, 3) := by decide +kernel
theorem ePo_isStill_11 : decode prog_7_method_6_code 11 = .ok (.ifCond .ne 14, 3) := by decide +kernel
theorem ePo_isStill_14 : decode prog_7_method_6_code 14 = .ok (.aload_n 0, 1) := by decide +kernel
theorem ePo_isStill_15 : decode prog_7_method_6_code 15 = .ok (.getfield 21, 3) := by decide +kernel
theorem ePo_isStill_18 : decode prog_7_method_6_code 18 = .ok (.ifCond .ne 7, 3) := by decide +kernel
theorem ePo_isStill_21 : decode prog_7_method_6_code 21 = .ok (.iconst 1, 1) := by decide +kernel
theorem ePo_isStill_22 : decode prog_7_method_6_code 22 = .ok (.goto 4, 3) := by decide +kernel
theorem ePo_isStill_25 : decode prog_7_method_6_code 25 = .ok (.iconst 0, 1) := by decide +kernel
theorem ePo_isStill_26 : decode prog_7_method_6_code 26 = .ok (.ireturn, 1) := by decide +kernel
theorem ePo_load_0 : decode prog_7_method_7_code 0 = .ok (.aload_n 0, 1) := by decide +kernel
theorem ePo_load_1 : decode prog_7_method_7_code 1 = .ok (.getfield 9, 3) := by decide +kernel
theorem ePo_load_4 : decode prog_7_method_7_code 4 = .ok (.aload_n 0, 1) := by decide +kernel
theorem ePo_load_5 : decode prog_7_method_7_code 5 = .ok (.getfield 18, 3) := by decide +kernel
theorem ePo_load_8 : decode prog_7_method_7_code 8 = .ok (.iadd, 1) := by decide +kernel
theorem ePo_load_9 : decode prog_7_method_7_code 9 = .ok (.ireturn, 1) := by decide +kernel
theorem ePo_packed_0 : decode prog_7_method_8_code 0 = .ok (.aload_n 0, 1) := by decide +kernel
theorem ePo_packed_1 : decode prog_7_method_8_code 1 = .ok (.getfield 9, 3) := by decide +kernel
theorem ePo_packed_4 : decode prog_7_method_8_code 4 = .ok (.bipush 14, 2) := by decide +kernel
theorem ePo_packed_6 : decode prog_7_method_8_code 6 = .ok (.ishl, 1) := by decide +kernel
theorem ePo_packed_7 : decode prog_7_method_8_code 7 = .ok (.aload_n 0, 1) := by decide +kernel
theorem ePo_packed_8 : decode prog_7_method_8_code 8 = .ok (.getfield 15, 3) := by decide +kernel
theorem ePo_packed_11 : decode prog_7_method_8_code 11 = .ok (.iconst 2, 1) := by decide +kernel
theorem ePo_packed_12 : decode prog_7_method_8_code 12 = .ok (.iadd, 1) := by decide +kernel
theorem ePo_packed_13 : decode prog_7_method_8_code 13 = .ok (.bipush 11, 2) := by decide +kernel
theorem ePo_packed_15 : decode prog_7_method_8_code 15 = .ok (.ishl, 1) := by decide +kernel
theorem ePo_packed_16 : decode prog_7_method_8_code 16 = .ok (.ior, 1) := by decide +kernel
theorem ePo_packed_17 : decode prog_7_method_8_code 17 = .ok (.aload_n 0, 1) := by decide +kernel
theorem ePo_packed_18 : decode prog_7_method_8_code 18 = .ok (.getfield 24, 3) := by decide +kernel
theorem ePo_packed_21 : decode prog_7_method_8_code 21 = .ok (.bipush 8, 2) := by decide +kernel
theorem ePo_packed_23 : decode prog_7_method_8_code 23 = .ok (.ishl, 1) := by decide +kernel
theorem ePo_packed_24 : decode prog_7_method_8_code 24 = .ok (.ior, 1) := by decide +kernel
theorem ePo_packed_25 : decode prog_7_method_8_code 25 = .ok (.aload_n 0, 1) := by decide +kernel
theorem ePo_packed_26 : decode prog_7_method_8_code 26 = .ok (.getfield 18, 3) := by decide +kernel
theorem ePo_packed_29 : decode prog_7_method_8_code 29 = .ok (.iconst 4, 1) := by decide +kernel
theorem ePo_packed_30 : decode prog_7_method_8_code 30 = .ok (.iadd, 1) := by decide +kernel
theorem ePo_packed_31 : decode prog_7_method_8_code 31 = .ok (.iconst 4, 1) := by decide +kernel
theorem ePo_packed_32 : decode prog_7_method_8_code 32 = .ok (.ishl, 1) := by decide +kernel
theorem ePo_packed_33 : decode prog_7_method_8_code 33 = .ok (.ior, 1) := by decide +kernel
theorem ePo_packed_34 : decode prog_7_method_8_code 34 = .ok (.aload_n 0, 1) := by decide +kernel
theorem ePo_packed_35 : decode prog_7_method_8_code 35 = .ok (.getfield 21, 3) := by decide +kernel
theorem ePo_packed_38 : decode prog_7_method_8_code 38 = .ok (.iconst 4, 1) := by decide +kernel
theorem ePo_packed_39 : decode prog_7_method_8_code 39 = .ok (.iadd, 1) := by decide +kernel
theorem ePo_packed_40 : decode prog_7_method_8_code 40 = .ok (.ior, 1) := by decide +kernel
theorem ePo_packed_41 : decode prog_7_method_8_code 41 = .ok (.ireturn, 1) := by decide +kernel
theorem ePo_unpack_0 : decode prog_7_method_9_code 0 = .ok (.aload_n 0, 1) := by decide +kernel
theorem ePo_unpack_1 : decode prog_7_method_9_code 1 = .ok (.iload_n 1, 1) := by decide +kernel
theorem ePo_unpack_2 : decode prog_7_method_9_code 2 = .ok (.bipush 14, 2) := by decide +kernel
theorem ePo_unpack_4 : decode prog_7_method_9_code 4 = .ok (.ishr, 1) := by decide +kernel
theorem ePo_unpack_5 : decode prog_7_method_9_code 5 = .ok (.bipush 15, 2) := by decide +kernel
theorem ePo_unpack_7 : decode prog_7_method_9_code 7 = .ok (.iand, 1) := by decide +kernel
theorem ePo_unpack_8 : decode prog_7_method_9_code 8 = .ok (.putfield 9, 3) := by decide +kernel
theorem ePo_unpack_11 : decode prog_7_method_9_code 11 = .ok (.aload_n 0, 1) := by decide +kernel
theorem ePo_unpack_12 : decode prog_7_method_9_code 12 = .ok (.iload_n 1, 1) := by decide +kernel
theorem ePo_unpack_13 : decode prog_7_method_9_code 13 = .ok (.bipush 11, 2) := by decide +kernel
theorem ePo_unpack_15 : decode prog_7_method_9_code 15 = .ok (.ishr, 1) := by decide +kernel
theorem ePo_unpack_16 : decode prog_7_method_9_code 16 = .ok (.bipush 7, 2) := by decide +kernel
theorem ePo_unpack_18 : decode prog_7_method_9_code 18 = .ok (.iand, 1) := by decide +kernel
theorem ePo_unpack_19 : decode prog_7_method_9_code 19 = .ok (.iconst 2, 1) := by decide +kernel
theorem ePo_unpack_20 : decode prog_7_method_9_code 20 = .ok (.isub, 1) := by decide +kernel
theorem ePo_unpack_21 : decode prog_7_method_9_code 21 = .ok (.putfield 15, 3) := by decide +kernel
theorem ePo_unpack_24 : decode prog_7_method_9_code 24 = .ok (.aload_n 0, 1) := by decide +kernel
theorem ePo_unpack_25 : decode prog_7_method_9_code 25 = .ok (.iload_n 1, 1) := by decide +kernel
theorem ePo_unpack_26 : decode prog_7_method_9_code 26 = .ok (.bipush 8, 2) := by decide +kernel
theorem ePo_unpack_28 : decode prog_7_method_9_code 28 = .ok (.ishr, 1) := by decide +kernel
theorem ePo_unpack_29 : decode prog_7_method_9_code 29 = .ok (.bipush 7, 2) := by decide +kernel
theorem ePo_unpack_31 : decode prog_7_method_9_code 31 = .ok (.iand, 1) := by decide +kernel
theorem ePo_unpack_32 : decode prog_7_method_9_code 32 = .ok (.putfield 24, 3) := by decide +kernel
theorem ePo_unpack_35 : decode prog_7_method_9_code 35 = .ok (.aload_n 0, 1) := by decide +kernel
theorem ePo_unpack_36 : decode prog_7_method_9_code 36 = .ok (.iload_n 1, 1) := by decide +kernel
theorem ePo_unpack_37 : decode prog_7_method_9_code 37 = .ok (.iconst 4, 1) := by decide +kernel
theorem ePo_unpack_38 : decode prog_7_method_9_code 38 = .ok (.ishr, 1) := by decide +kernel
theorem ePo_unpack_39 : decode prog_7_method_9_code 39 = .ok (.bipush 15, 2) := by decide +kernel
theorem ePo_unpack_41 : decode prog_7_method_9_code 41 = .ok (.iand, 1) := by decide +kernel
theorem ePo_unpack_42 : decode prog_7_method_9_code 42 = .ok (.iconst 4, 1) := by decide +kernel
theorem ePo_unpack_43 : decode prog_7_method_9_code 43 = .ok (.isub, 1) := by decide +kernel
theorem ePo_unpack_44 : decode prog_7_method_9_code 44 = .ok (.putfield 18, 3) := by decide +kernel
theorem ePo_unpack_47 : decode prog_7_method_9_code 47 = .ok (.aload_n 0, 1) := by decide +kernel
theorem ePo_unpack_48 : decode prog_7_method_9_code 48 = .ok (.iload_n 1, 1) := by decide +kernel
theorem ePo_unpack_49 : decode prog_7_method_9_code 49 = .ok (.bipush 15, 2) := by decide +kernel
theorem ePo_unpack_51 : decode prog_7_method_9_code 51 = .ok (.iand, 1) := by decide +kernel
theorem ePo_unpack_52 : decode prog_7_method_9_code 52 = .ok (.iconst 4, 1) := by decide +kernel
theorem ePo_unpack_53 : decode prog_7_method_9_code 53 = .ok (.isub, 1) := by decide +kernel
theorem ePo_unpack_54 : decode prog_7_method_9_code 54 = .ok (.putfield 21, 3) := by decide +kernel
theorem ePo_unpack_57 : decode prog_7_method_9_code 57 = .ok (.return_, 1) := by decide +kernel
theorem eRe_init_0 : decode prog_8_method_1_code 0 = .ok (.aload_n 0, 1) := by decide +kernel
theorem eRe_init_1 : decode prog_8_method_1_code 1 = .ok (.invokespecial 3, 3) := by decide +kernel
theorem eRe_init_4 : decode prog_8_method_1_code 4 = .ok (.aload_n 0, 1) := by decide +kernel
theorem eRe_init_5 : decode prog_8_method_1_code 5 = .ok (.sipush 700, 3) := by decide +kernel
theorem eRe_init_8 : decode prog_8_method_1_code 8 = .ok (.newarray .byte, 2) := by decide +kernel
theorem eRe_init_10 : decode prog_8_method_1_code 10 = .ok (.putfield 9, 3) := by decide +kernel
theorem eRe_init_13 : decode prog_8_method_1_code 13 = .ok (.aload_n 0, 1) := by decide +kernel
theorem eRe_init_14 : decode prog_8_method_1_code 14 = .ok (.new 15, 3) := by decide +kernel
theorem eRe_init_17 : decode prog_8_method_1_code 17 = .ok (.dup, 1) := by decide +kernel
theorem eRe_init_18 : decode prog_8_method_1_code 18 = .ok (.invokespecial 17, 3) := by decide +kernel
theorem eRe_init_21 : decode prog_8_method_1_code 21 = .ok (.putfield 18, 3) := by decide +kernel
theorem eRe_init_24 : decode prog_8_method_1_code 24 = .ok (.aload_n 0, 1) := by decide +kernel
theorem eRe_init_25 : decode prog_8_method_1_code 25 = .ok (.bipush 18, 2) := by decide +kernel
theorem eRe_init_27 : decode prog_8_method_1_code 27 = .ok (.newarray .int, 2) := by decide +kernel
theorem eRe_init_29 : decode prog_8_method_1_code 29 = .ok (.putfield 22, 3) := by decide +kernel
theorem eRe_init_32 : decode prog_8_method_1_code 32 = .ok (.aload_n 0, 1) := by decide +kernel
theorem eRe_init_33 : decode prog_8_method_1_code 33 = .ok (.iconst (-1), 1) := by decide +kernel
theorem eRe_init_34 : decode prog_8_method_1_code 34 = .ok (.putfield 26, 3) := by decide +kernel
theorem eRe_init_37 : decode prog_8_method_1_code 37 = .ok (.aload_n 0, 1) := by decide +kernel
theorem eRe_init_38 : decode prog_8_method_1_code 38 = .ok (.getfield 22, 3) := by decide +kernel
theorem eRe_init_41 : decode prog_8_method_1_code 41 = .ok (.invokestatic 30, 3) := by decide +kernel
theorem eRe_init_44 : decode prog_8_method_1_code 44 = .ok (.return_, 1) := by decide +kernel
theorem eRe_packLanguage_0 : decode prog_8_method_2_code 0 = .ok (.iconst 0, 1) := by decide +kernel
theorem eRe_packLanguage_1 : decode prog_8_method_2_code 1 = .ok (.istore_n 1, 1) := by decide +kernel
theorem eRe_packLanguage_2 : decode prog_8_method_2_code 2 = .ok (.iconst 0, 1) := by decide +kernel
theorem eRe_packLanguage_3 : decode prog_8_method_2_code 3 = .ok (.istore_n 2, 1) := by decide +kernel
theorem eRe_packLanguage_4 : decode prog_8_method_2_code 4 = .ok (.iconst 0, 1) := by decide +kernel
theorem eRe_packLanguage_5 : decode prog_8_method_2_code 5 = .ok (.istore_n 3, 1) := by decide +kernel
theorem eRe_packLanguage_6 : decode prog_8_method_2_code 6 = .ok (.iconst 0, 1) := by decide +kernel
theorem eRe_packLanguage_7 : decode prog_8_method_2_code 7 = .ok (.istore 4, 2) := by decide +kernel
theorem eRe_packLanguage_9 : decode prog_8_method_2_code 9 = .ok (.iload 4, 2) := by decide +kernel
theorem eRe_packLanguage_11 : decode prog_8_method_2_code 11 = .ok (.ldc 34, 2) := by decide +kernel
theorem eRe_packLanguage_13 : decode prog_8_method_2_code 13 = .ok (.invokevirtual 36, 3) := by decide +kernel
theorem eRe_packLanguage_16 : decode prog_8_method_2_code 16 = .ok (.if_icmp .ge 57, 3) := by decide +kernel
theorem eRe_packLanguage_19 : decode prog_8_method_2_code 19 = .ok (.iload_n 1, 1) := by decide +kernel
theorem eRe_packLanguage_20 : decode prog_8_method_2_code 20 = .ok (.aload_n 0, 1) := by decide +kernel
theorem eRe_packLanguage_21 : decode prog_8_method_2_code 21 = .ok (.arraylength, 1) := by decide +kernel
theorem eRe_packLanguage_22 : decode prog_8_method_2_code 22 = .ok (.if_icmp .ge 51, 3) := by decide +kernel
theorem eRe_packLanguage_25 : decode prog_8_method_2_code 25 = .ok (.ldc 34, 2) := by decide +kernel
theorem eRe_packLanguage_27 : decode prog_8_method_2_code 27 = .ok (.iload 4, 2) := by decide +kernel
theorem eRe_packLanguage_29 : decode prog_8_method_2_code 29 = .ok (.invokevirtual 42, 3) := by decide +kernel
theorem eRe_packLanguage_32 : decode prog_8_method_2_code 32 = .ok (.istore 5, 2) := by decide +kernel
theorem eRe_packLanguage_34 : decode prog_8_method_2_code 34 = .ok (.iload 5, 2) := by decide +kernel
theorem eRe_packLanguage_36 : decode prog_8_method_2_code 36 = .ok (.bipush 32, 2) := by decide +kernel
theorem eRe_packLanguage_38 : decode prog_8_method_2_code 38 = .ok (.if_icmp .ne 17, 3) := by decide +kernel
theorem eRe_packLanguage_41 : decode prog_8_method_2_code 41 = .ok (.aload_n 0, 1) := by decide +kernel
theorem eRe_packLanguage_42 : decode prog_8_method_2_code 42 = .ok (.iload_n 1, 1) := by decide +kernel
theorem eRe_packLanguage_43 : decode prog_8_method_2_code 43 = .ok (.iload_n 3, 1) := by decide +kernel
theorem eRe_packLanguage_44 : decode prog_8_method_2_code 44 = .ok (.iastore, 1) := by decide +kernel
theorem eRe_packLanguage_45 : decode prog_8_method_2_code 45 = .ok (.iinc 1 1, 3) := by decide +kernel
theorem eRe_packLanguage_48 : decode prog_8_method_2_code 48 = .ok (.iconst 0, 1) := by decide +kernel
theorem eRe_packLanguage_49 : decode prog_8_method_2_code 49 = .ok (.istore_n 2, 1) := by decide +kernel
theorem eRe_packLanguage_50 : decode prog_8_method_2_code 50 = .ok (.iconst 0, 1) := by decide +kernel
theorem eRe_packLanguage_51 : decode prog_8_method_2_code 51 = .ok (.istore_n 3, 1) := by decide +kernel
theorem eRe_packLanguage_52 : decode prog_8_method_2_code 52 = .ok (.goto 15, 3) := by decide +kernel
theorem eRe_packLanguage_55 : decode prog_8_method_2_code 55 = .ok (.iload_n 3, 1) := by decide +kernel
theorem eRe_packLanguage_56 : decode prog_8_method_2_code 56 = .ok (.iload 5, 2) := by decide +kernel
theorem eRe_packLanguage_58 : decode prog_8_method_2_code 58 = .ok (.iload_n 2, 1) := by decide +kernel
theorem eRe_packLanguage_59 : decode prog_8_method_2_code 59 = .ok (.invokestatic 46, 3) := by decide +kernel
theorem eRe_packLanguage_62 : decode prog_8_method_2_code 62 = .ok (.ior, 1) := by decide +kernel
theorem eRe_packLanguage_63 : decode prog_8_method_2_code 63 = .ok (.istore_n 3, 1) := by decide +kernel
theorem eRe_packLanguage_64 : decode prog_8_method_2_code 64 = .ok (.iinc 2 1, 3) := by decide +kernel
theorem eRe_packLanguage_67 : decode prog_8_method_2_code 67 = .ok (.iinc 4 1, 3) := by decide +kernel
theorem eRe_packLanguage_70 : decode prog_8_method_2_code 70 = .ok (.goto (-61), 3) := by decide +kernel
theorem eRe_packLanguage_73 : decode prog_8_method_2_code 73 = .ok (.return_, 1) := by decide +kernel
theorem eRe_letterBits_0 : decode prog_8_method_3_code 0 = .ok (.iload_n 1, 1) := by decide +kernel
theorem eRe_letterBits_1 : decode prog_8_method_3_code 1 = .ok (.bipush 6, 2) := by decide +kernel
theorem eRe_letterBits_3 : decode prog_8_method_3_code 3 = .ok (.if_icmp .ge 18, 3) := by decide +kernel
theorem eRe_letterBits_6 : decode prog_8_method_3_code 6 = .ok (.iload_n 0, 1) := by decide +kernel
theorem eRe_letterBits_7 : decode prog_8_method_3_code 7 = .ok (.bipush 97, 2) := by decide +kernel
theorem eRe_letterBits_9 : decode prog_8_method_3_code 9 = .ok (.isub, 1) := by decide +kernel
theorem eRe_letterBits_10 : decode prog_8_method_3_code 10 = .ok (.iconst 1, 1) := by decide +kernel
theorem eRe_letterBits_11 : decode prog_8_method_3_code 11 = .ok (.iadd, 1) := by decide +kernel
theorem eRe_letterBits_12 : decode prog_8_method_3_code 12 = .ok (.iconst 5, 1) := by decide +kernel
theorem eRe_letterBits_13 : decode prog_8_method_3_code 13 = .ok (.iconst 5, 1) := by decide +kernel
theorem eRe_letterBits_14 : decode prog_8_method_3_code 14 = .ok (.iload_n 1, 1) := by decide +kernel
theorem eRe_letterBits_15 : decode prog_8_method_3_code 15 = .ok (.isub, 1) := by decide +kernel
theorem eRe_letterBits_16 : decode prog_8_method_3_code 16 = .ok (.imul, 1) := by decide +kernel
theorem eRe_letterBits_17 : decode prog_8_method_3_code 17 = .ok (.ishl, 1) := by decide +kernel
theorem eRe_letterBits_18 : decode prog_8_method_3_code 18 = .ok (.goto 4, 3) := by decide +kernel
theorem eRe_letterBits_21 : decode prog_8_method_3_code 21 = .ok (.iconst 0, 1) := by decide +kernel
theorem eRe_letterBits_22 : decode prog_8_method_3_code 22 = .ok (.ireturn, 1) := by decide +kernel
theorem eRe_takeBytes_0 : decode prog_8_method_4_code 0 = .ok (.aload_n 0, 1) := by decide +kernel
theorem eRe_takeBytes_1 : decode prog_8_method_4_code 1 = .ok (.getfield 50, 3) := by decide +kernel
theorem eRe_takeBytes_4 : decode prog_8_method_4_code 4 = .ok (.bipush 20, 2) := by decide +kernel
theorem eRe_takeBytes_6 : decode prog_8_method_4_code 6 = .ok (.iadd, 1) := by decide +kernel
theorem eRe_takeBytes_7 : decode prog_8_method_4_code 7 = .ok (.aload_n 0, 1) := by decide +kernel
theorem eRe_takeBytes_8 : decode prog_8_method_4_code 8 = .ok (.getfield 9, 3) := by decide +kernel
theorem eRe_takeBytes_11 : decode prog_8_method_4_code 11 = .ok (.arraylength, 1) := by decide +kernel
theorem eRe_takeBytes_12 : decode prog_8_method_4_code 12 = .ok (.if_icmp .le 5, 3) := by decide +kernel
theorem eRe_takeBytes_15 : decode prog_8_method_4_code 15 = .ok (.iconst (-1), 1) := by decide +kernel
theorem eRe_takeBytes_16 : decode prog_8_method_4_code 16 = .ok (.ireturn, 1) := by decide +kernel
theorem eRe_takeBytes_17 : decode prog_8_method_4_code 17 = .ok (.aload_n 0, 1) := by decide +kernel
theorem eRe_takeBytes_18 : decode prog_8_method_4_code 18 = .ok (.iload_n 1, 1) := by decide +kernel
theorem eRe_takeBytes_19 : decode prog_8_method_4_code 19 = .ok (.invokevirtual 53, 3) := by decide +kernel
theorem eRe_takeBytes_22 : decode prog_8_method_4_code 22 = .ok (.aload_n 0, 1) := by decide +kernel
theorem eRe_takeBytes_23 : decode prog_8_method_4_code 23 = .ok (.iload_n 2, 1) := by decide +kernel
theorem eRe_takeBytes_24 : decode prog_8_method_4_code 24 = .ok (.invokevirtual 53, 3) := by decide +kernel
theorem eRe_takeBytes_27 : decode prog_8_method_4_code 27 = .ok (.aload_n 0, 1) := by decide +kernel
theorem eRe_takeBytes_28 : decode prog_8_method_4_code 28 = .ok (.iload_n 3, 1) := by decide +kernel
theorem eRe_takeBytes_29 : decode prog_8_method_4_code 29 = .ok (.invokevirtual 53, 3) := by decide +kernel
theorem eRe_takeBytes_32 : decode prog_8_method_4_code 32 = .ok (.aload_n 0, 1) := by decide +kernel
theorem eRe_takeBytes_33 : decode prog_8_method_4_code 33 = .ok (.iload 4, 2) := by decide +kernel
theorem eRe_takeBytes_35 : decode prog_8_method_4_code 35 = .ok (.invokevirtual 53, 3) := by decide +kernel
theorem eRe_takeBytes_38 : decode prog_8_method_4_code 38 = .ok (.aload_n 0, 1) := by decide +kernel
theorem eRe_takeBytes_39 : decode prog_8_method_4_code 39 = .ok (.iload 5, 2) := by decide +kernel
theorem eRe_takeBytes_41 : decode prog_8_method_4_code 41 = .ok (.invokevirtual 53, 3) := by decide +kernel
theorem eRe_takeBytes_44 : decode prog_8_method_4_code 44 = .ok (.aload_n 0, 1) := by decide +kernel
theorem eRe_takeBytes_45 : decode prog_8_method_4_code 45 = .ok (.getfield 50, 3) := by decide +kernel
theorem eRe_takeBytes_48 : decode prog_8_method_4_code 48 = .ok (.ireturn, 1) := by decide +kernel
theorem eRe_takeNumber_0 : decode prog_8_method_5_code 0 = .ok (.bipush 24, 2) := by decide +kernel
theorem eRe_takeNumber_2 : decode prog_8_method_5_code 2 = .ok (.istore_n 2, 1) := by decide +kernel
theorem eRe_takeNumber_3 : decode prog_8_method_5_code 3 = .ok (.iload_n 2, 1) := by decide +kernel
theorem eRe_takeNumber_4 : decode prog_8_method_5_code 4 = .ok (.ifCond .lt 51, 3) := by decide +kernel
theorem eRe_takeNumber_7 : decode prog_8_method_5_code 7 = .ok (.aload_n 0, 1) := by decide +kernel
theorem eRe_takeNumber_8 : decode prog_8_method_5_code 8 = .ok (.getfield 50, 3) := by decide +kernel
theorem eRe_takeNumber_11 : decode prog_8_method_5_code 11 = .ok (.ifCond .lt 44, 3) := by decide +kernel
theorem eRe_takeNumber_14 : decode prog_8_method_5_code 14 = .ok (.aload_n 0, 1) := by decide +kernel
theorem eRe_takeNumber_15 : decode prog_8_method_5_code 15 = .ok (.getfield 50, 3) := by decide +kernel
theorem eRe_takeNumber_18 : decode prog_8_method_5_code 18 = .ok (.aload_n 0, 1) := by decide +kernel
theorem eRe_takeNumber_19 : decode prog_8_method_5_code 19 = .ok (.getfield 9, 3) := by decide +kernel
theorem eRe_takeNumber_22 : decode prog_8_method_5_code 22 = .ok (.arraylength, 1) := by decide +kernel
theorem eRe_takeNumber_23 : decode prog_8_method_5_code 23 = .ok (.if_icmp .ge 32, 3) := by decide +kernel
theorem eRe_takeNumber_26 : decode prog_8_method_5_code 26 = .ok (.aload_n 0, 1) := by decide +kernel
theorem eRe_takeNumber_27 : decode prog_8_method_5_code 27 = .ok (.getfield 9, 3) := by decide +kernel
theorem eRe_takeNumber_30 : decode prog_8_method_5_code 30 = .ok (.aload_n 0, 1) := by decide +kernel
theorem eRe_takeNumber_31 : decode prog_8_method_5_code 31 = .ok (.getfield 50, 3) := by decide +kernel
theorem eRe_takeNumber_34 : decode prog_8_method_5_code 34 = .ok (.iload_n 1, 1) := by decide +kernel
theorem eRe_takeNumber_35 : decode prog_8_method_5_code 35 = .ok (.iload_n 2, 1) := by decide +kernel
theorem eRe_takeNumber_36 : decode prog_8_method_5_code 36 = .ok (.ishr, 1) := by decide +kernel
theorem eRe_takeNumber_37 : decode prog_8_method_5_code 37 = .ok (.i2b, 1) := by decide +kernel
theorem eRe_takeNumber_38 : decode prog_8_method_5_code 38 = .ok (.bastore, 1) := by decide +kernel
theorem eRe_takeNumber_39 : decode prog_8_method_5_code 39 = .ok (.aload_n 0, 1) := by decide +kernel
theorem eRe_takeNumber_40 : decode prog_8_method_5_code 40 = .ok (.dup, 1) := by decide +kernel
theorem eRe_takeNumber_41 : decode prog_8_method_5_code 41 = .ok (.getfield 50, 3) := by decide +kernel
theorem eRe_takeNumber_44 : decode prog_8_method_5_code 44 = .ok (.iconst 1, 1) := by decide +kernel
theorem eRe_takeNumber_45 : decode prog_8_method_5_code 45 = .ok (.iadd, 1) := by decide +kernel
theorem eRe_takeNumber_46 : decode prog_8_method_5_code 46 = .ok (.putfield 50, 3) := by decide +kernel
theorem eRe_takeNumber_49 : decode prog_8_method_5_code 49 = .ok (.iinc 2 (-8), 3) := by decide +kernel
theorem eRe_takeNumber_52 : decode prog_8_method_5_code 52 = .ok (.goto (-49), 3) := by decide +kernel
theorem eRe_takeNumber_55 : decode prog_8_method_5_code 55 = .ok (.return_, 1) := by decide +kernel
theorem eRe_readTape_0 : decode prog_8_method_6_code 0 = .ok (.aload_n 0, 1) := by decide +kernel
theorem eRe_readTape_1 : decode prog_8_method_6_code 1 = .ok (.getfield 18, 3) := by decide +kernel
theorem eRe_readTape_4 : decode prog_8_method_6_code 4 = .ok (.invokevirtual 57, 3) := by decide +kernel
theorem eRe_readTape_7 : decode prog_8_method_6_code 7 = .ok (.aload_n 0, 1) := by decide +kernel
theorem eRe_readTape_8 : decode prog_8_method_6_code 8 = .ok (.iconst 0, 1) := by decide +kernel
theorem eRe_readTape_9 : decode prog_8_method_6_code 9 = .ok (.putfield 60, 3) := by decide +kernel
theorem eRe_readTape_12 : decode prog_8_method_6_code 12 = .ok (.aload_n 0, 1) := by decide +kernel
theorem eRe_readTape_13 : decode prog_8_method_6_code 13 = .ok (.iconst (-1), 1) := by decide +kernel
theorem eRe_readTape_14 : decode prog_8_method_6_code 14 = .ok (.putfield 26, 3) := by decide +kernel
theorem eRe_readTape_17 : decode prog_8_method_6_code 17 = .ok (.aload_n 0, 1) := by decide +kernel
theorem eRe_readTape_18 : decode prog_8_method_6_code 18 = .ok (.iload_n 1, 1) := by decide +kernel
theorem eRe_readTape_19 : decode prog_8_method_6_code 19 = .ok (.putfield 63, 3) := by decide +kernel
theorem eRe_readTape_22 : decode prog_8_method_6_code 22 = .ok (.aload_n 0, 1) := by decide +kernel
theorem eRe_readTape_23 : decode prog_8_method_6_code 23 = .ok (.iconst 0, 1) := by decide +kernel
theorem eRe_readTape_24 : decode prog_8_method_6_code 24 = .ok (.putfield 65, 3) := by decide +kernel
theorem eRe_readTape_27 : decode prog_8_method_6_code 27 = .ok (.aload_n 0, 1) := by decide +kernel
theorem eRe_readTape_28 : decode prog_8_method_6_code 28 = .ok (.iconst 0, 1) := by decide +kernel
theorem eRe_readTape_29 : decode prog_8_method_6_code 29 = .ok (.putfield 50, 3) := by decide +kernel
theorem eRe_readTape_32 : decode prog_8_method_6_code 32 = .ok (.iconst 0, 1) := by decide +kernel
theorem eRe_readTape_33 : decode prog_8_method_6_code 33 = .ok (.istore_n 2, 1) := by decide +kernel
theorem eRe_readTape_34 : decode prog_8_method_6_code 34 = .ok (.aload_n 0, 1) := by decide +kernel
theorem eRe_readTape_35 : decode prog_8_method_6_code 35 = .ok (.invokevirtual 68, 3) := by decide +kernel
theorem eRe_readTape_38 : decode prog_8_method_6_code 38 = .ok (.iload_n 2, 1) := by decide +kernel
theorem eRe_readTape_39 : decode prog_8_method_6_code 39 = .ok (.sipush 700, 3) := by decide +kernel
theorem eRe_readTape_42 : decode prog_8_method_6_code 42 = .ok (.if_icmp .ge 71, 3) := by decide +kernel
theorem eRe_readTape_45 : decode prog_8_method_6_code 45 = .ok (.aload_n 0, 1) := by decide +kernel
theorem eRe_readTape_46 : decode prog_8_method_6_code 46 = .ok (.getfield 71, 3) := by decide +kernel
theorem eRe_readTape_49 : decode prog_8_method_6_code 49 = .ok (.ifCond .eq 64, 3) := by decide +kernel
theorem eRe_readTape_52 : decode prog_8_method_6_code 52 = .ok (.aload_n 0, 1) := by decide +kernel
theorem eRe_readTape_53 : decode prog_8_method_6_code 53 = .ok (.getfield 60, 3) := by decide +kernel
theorem eRe_readTape_56 : decode prog_8_method_6_code 56 = .ok (.ifCond .ne 57, 3) := by decide +kernel
theorem eRe_readTape_59 : decode prog_8_method_6_code 59 = .ok (.aload_n 0, 1) := by decide +kernel
theorem eRe_readTape_60 : decode prog_8_method_6_code 60 = .ok (.invokevirtual 74, 3) := by decide +kernel
theorem eRe_readTape_63 : decode prog_8_method_6_code 63 = .ok (.istore_n 3, 1) := by decide +kernel
theorem eRe_readTape_64 : decode prog_8_method_6_code 64 = .ok (.aload_n 0, 1) := by decide +kernel
theorem eRe_readTape_65 : decode prog_8_method_6_code 65 = .ok (.iload_n 3, 1) := by decide +kernel
theorem eRe_readTape_66 : decode prog_8_method_6_code 66 = .ok (.invokevirtual 77, 3) := by decide +kernel
theorem eRe_readTape_69 : decode prog_8_method_6_code 69 = .ok (.ifCond .eq 34, 3) := by decide +kernel
theorem eRe_readTape_72 : decode prog_8_method_6_code 72 = .ok (.aload_n 0, 1) := by decide +kernel
theorem eRe_readTape_73 : decode prog_8_method_6_code 73 = .ok (.iload_n 3, 1) := by decide +kernel
theorem eRe_readTape_74 : decode prog_8_method_6_code 74 = .ok (.aload_n 0, 1) := by decide +kernel
theorem eRe_readTape_75 : decode prog_8_method_6_code 75 = .ok (.getfield 18, 3) := by decide +kernel
theorem eRe_readTape_78 : decode prog_8_method_6_code 78 = .ok (.getfield 81, 3) := by decide +kernel
theorem eRe_readTape_81 : decode prog_8_method_6_code 81 = .ok (.iload_n 3, 1) := by decide +kernel
theorem eRe_readTape_82 : decode prog_8_method_6_code 82 = .ok (.iaload, 1) := by decide +kernel
theorem eRe_readTape_83 : decode prog_8_method_6_code 83 = .ok (.invokevirtual 84, 3) := by decide +kernel
theorem eRe_readTape_86 : decode prog_8_method_6_code 86 = .ok (.aload_n 0, 1) := by decide +kernel
theorem eRe_readTape_87 : decode prog_8_method_6_code 87 = .ok (.invokevirtual 88, 3) := by decide +kernel
theorem eRe_readTape_90 : decode prog_8_method_6_code 90 = .ok (.aload_n 0, 1) := by decide +kernel
theorem eRe_readTape_91 : decode prog_8_method_6_code 91 = .ok (.getfield 18, 3) := by decide +kernel
theorem eRe_readTape_94 : decode prog_8_method_6_code 94 = .ok (.getfield 81, 3) := by decide +kernel
theorem eRe_readTape_97 : decode prog_8_method_6_code 97 = .ok (.iload_n 3, 1) := by decide +kernel
theorem eRe_readTape_98 : decode prog_8_method_6_code 98 = .ok (.dup2, 1) := by decide +kernel
theorem eRe_readTape_99 : decode prog_8_method_6_code 99 = .ok (.iaload, 1) := by decide +kernel
theorem eRe_readTape_100 : decode prog_8_method_6_code 100 = .ok (.iconst 1, 1) := by decide +kernel
theorem eRe_readTape_101 : decode prog_8_method_6_code 101 = .ok (.iadd, 1) := by decide +kernel
theorem eRe_readTape_102 : decode prog_8_method_6_code 102 = .ok (.iastore, 1) := by decide +kernel
theorem eRe_readTape_103 : decode prog_8_method_6_code 103 = .ok (.iinc 2 1, 3) := by decide +kernel
theorem eRe_readTape_106 : decode prog_8_method_6_code 106 = .ok (.aload_n 0, 1) := by decide +kernel
theorem eRe_readTape_107 : decode prog_8_method_6_code 107 = .ok (.invokevirtual 68, 3) := by decide +kernel
theorem eRe_readTape_110 : decode prog_8_method_6_code 110 = .ok (.goto (-72), 3) := by decide +kernel
theorem eRe_readTape_113 : decode prog_8_method_6_code 113 = .ok (.aload_n 0, 1) := by decide +kernel
theorem eRe_readTape_114 : decode prog_8_method_6_code 114 = .ok (.getfield 60, 3) := by decide +kernel
theorem eRe_readTape_117 : decode prog_8_method_6_code 117 = .ok (.ifCond .ne 7, 3) := by decide +kernel
theorem eRe_readTape_120 : decode prog_8_method_6_code 120 = .ok (.iload_n 2, 1) := by decide +kernel
theorem eRe_readTape_121 : decode prog_8_method_6_code 121 = .ok (.goto 4, 3) := by decide +kernel
theorem eRe_readTape_124 : decode prog_8_method_6_code 124 = .ok (.iconst (-1), 1) := by decide +kernel
theorem eRe_readTape_125 : decode prog_8_method_6_code 125 = .ok (.ireturn, 1) := by decide +kernel
theorem eRe_refuse_0 : decode prog_8_method_7_code 0 = .ok (.aload_n 0, 1) := by decide +kernel
theorem eRe_refuse_1 : decode prog_8_method_7_code 1 = .ok (.getfield 60, 3) := by decide +kernel
theorem eRe_refuse_4 : decode prog_8_method_7_code 4 = .ok (.ifCond .ne 16, 3) := by decide +kernel
theorem eRe_refuse_7 : decode prog_8_method_7_code 7 = .ok (.aload_n 0, 1) := by decide +kernel
theorem eRe_refuse_8 : decode prog_8_method_7_code 8 = .ok (.iload_n 1, 1) := by decide +kernel
theorem eRe_refuse_9 : decode prog_8_method_7_code 9 = .ok (.putfield 60, 3) := by decide +kernel
theorem eRe_refuse_12 : decode prog_8_method_7_code 12 = .ok (.aload_n 0, 1) := by decide +kernel
theorem eRe_refuse_13 : decode prog_8_method_7_code 13 = .ok (.aload_n 0, 1) := by decide +kernel
theorem eRe_refuse_14 : decode prog_8_method_7_code 14 = .ok (.getfield 91, 3) := by decide +kernel
theorem eRe_refuse_17 : decode prog_8_method_7_code 17 = .ok (.putfield 26, 3) := by decide +kernel
theorem eRe_refuse_20 : decode prog_8_method_7_code 20 = .ok (.return_, 1) := by decide +kernel
theorem eRe_signAt_0 : decode prog_8_method_8_code 0 = .ok (.iload_n 1, 1) := by decide +kernel
theorem eRe_signAt_1 : decode prog_8_method_8_code 1 = .ok (.ifCond .lt 29, 3) := by decide +kernel
theorem eRe_signAt_4 : decode prog_8_method_8_code 4 = .ok (.iload_n 1, 1) := by decide +kernel
theorem eRe_signAt_5 : decode prog_8_method_8_code 5 = .ok (.aload_n 0, 1) := by decide +kernel
theorem eRe_signAt_6 : decode prog_8_method_8_code 6 = .ok (.getfield 63, 3) := by decide +kernel
theorem eRe_signAt_9 : decode prog_8_method_8_code 9 = .ok (.if_icmp .ge 21, 3) := by decide +kernel
theorem eRe_signAt_12 : decode prog_8_method_8_code 12 = .ok (.iload_n 1, 1) := by decide +kernel
theorem eRe_signAt_13 : decode prog_8_method_8_code 13 = .ok (.aload_n 0, 1) := by decide +kernel
theorem eRe_signAt_14 : decode prog_8_method_8_code 14 = .ok (.getfield 9, 3) := by decide +kernel
theorem eRe_signAt_17 : decode prog_8_method_8_code 17 = .ok (.arraylength, 1) := by decide +kernel
theorem eRe_signAt_18 : decode prog_8_method_8_code 18 = .ok (.if_icmp .ge 12, 3) := by decide +kernel
theorem eRe_signAt_21 : decode prog_8_method_8_code 21 = .ok (.aload_n 0, 1) := by decide +kernel
theorem eRe_signAt_22 : decode prog_8_method_8_code 22 = .ok (.getfield 9, 3) := by decide +kernel
theorem eRe_signAt_25 : decode prog_8_method_8_code 25 = .ok (.iload_n 1, 1) := by decide +kernel
theorem eRe_signAt_26 : decode prog_8_method_8_code 26 = .ok (.baload, 1) := by decide +kernel
theorem eRe_signAt_27 : decode prog_8_method_8_code 27 = .ok (.goto 4, 3) := by decide +kernel
theorem eRe_signAt_30 : decode prog_8_method_8_code 30 = .ok (.iconst (-1), 1) := by decide +kernel
theorem eRe_signAt_31 : decode prog_8_method_8_code 31 = .ok (.ireturn, 1) := by decide +kernel
theorem eRe_isLetter_0 : decode prog_8_method_9_code 0 = .ok (.iload_n 0, 1) := by decide +kernel
theorem eRe_isLetter_1 : decode prog_8_method_9_code 1 = .ok (.bipush 97, 2) := by decide +kernel
theorem eRe_isLetter_3 : decode prog_8_method_9_code 3 = .ok (.if_icmp .lt 13, 3) := by decide +kernel
theorem eRe_isLetter_6 : decode prog_8_method_9_code 6 = .ok (.iload_n 0, 1) := by decide +kernel
theorem eRe_isLetter_7 : decode prog_8_method_9_code 7 = .ok (.bipush 122, 2) := by decide +kernel
theorem eRe_isLetter_9 : decode prog_8_method_9_code 9 = .ok (.if_icmp .gt 7, 3) := by decide +kernel
theorem eRe_isLetter_12 : decode prog_8_method_9_code 12 = .ok (.iconst 1, 1) := by decide +kernel
theorem eRe_isLetter_13 : decode prog_8_method_9_code 13 = .ok (.goto 4, 3) := by decide +kernel
theorem eRe_isLetter_16 : decode prog_8_method_9_code 16 = .ok (.iconst 0, 1) := by decide +kernel
theorem eRe_isLetter_17 : decode prog_8_method_9_code 17 = .ok (.ireturn, 1) := by decide +kernel
theorem eRe_isDigit_0 : decode prog_8_method_10_code 0 = .ok (.iload_n 0, 1) := by decide +kernel
theorem eRe_isDigit_1 : decode prog_8_method_10_code 1 = .ok (.bipush 48, 2) := by decide +kernel
theorem eRe_isDigit_3 : decode prog_8_method_10_code 3 = .ok (.if_icmp .lt 13, 3) := by decide +kernel
theorem eRe_isDigit_6 : decode prog_8_method_10_code 6 = .ok (.iload_n 0, 1) := by decide +kernel
theorem eRe_isDigit_7 : decode prog_8_method_10_code 7 = .ok (.bipush 57, 2) := by decide +kernel
theorem eRe_isDigit_9 : decode prog_8_method_10_code 9 = .ok (.if_icmp .gt 7, 3) := by decide +kernel
theorem eRe_isDigit_12 : decode prog_8_method_10_code 12 = .ok (.iconst 1, 1) := by decide +kernel
theorem eRe_isDigit_13 : decode prog_8_method_10_code 13 = .ok (.goto 4, 3) := by decide +kernel
theorem eRe_isDigit_16 : decode prog_8_method_10_code 16 = .ok (.iconst 0, 1) := by decide +kernel
theorem eRe_isDigit_17 : decode prog_8_method_10_code 17 = .ok (.ireturn, 1) := by decide +kernel
theorem eRe_isBlank_0 : decode prog_8_method_11_code 0 = .ok (.iload_n 0, 1) := by decide +kernel
theorem eRe_isBlank_1 : decode prog_8_method_11_code 1 = .ok (.bipush 10, 2) := by decide +kernel
theorem eRe_isBlank_3 : decode prog_8_method_11_code 3 = .ok (.if_icmp .eq 9, 3) := by decide +kernel
theorem eRe_isBlank_6 : decode prog_8_method_11_code 6 = .ok (.iload_n 0, 1) := by decide +kernel
theorem eRe_isBlank_7 : decode prog_8_method_11_code 7 = .ok (.bipush 32, 2) := by decide +kernel
theorem eRe_isBlank_9 : decode prog_8_method_11_code 9 = .ok (.if_icmp .ne 7, 3) := by decide +kernel
theorem eRe_isBlank_12 : decode prog_8_method_11_code 12 = .ok (.iconst 1, 1) := by decide +kernel
theorem eRe_isBlank_13 : decode prog_8_method_11_code 13 = .ok (.goto 4, 3) := by decide +kernel
theorem eRe_isBlank_16 : decode prog_8_method_11_code 16 = .ok (.iconst 0, 1) := by decide +kernel
theorem eRe_isBlank_17 : decode prog_8_method_11_code 17 = .ok (.ireturn, 1) := by decide +kernel
theorem eRe_nextToken_0 : decode prog_8_method_12_code 0 = .ok (.aload_n 0, 1) := by decide +kernel
theorem eRe_nextToken_1 : decode prog_8_method_12_code 1 = .ok (.getfield 65, 3) := by decide +kernel
theorem eRe_nextToken_4 : decode prog_8_method_12_code 4 = .ok (.istore_n 1, 1) := by decide +kernel
theorem eRe_nextToken_5 : decode prog_8_method_12_code 5 = .ok (.iload_n 1, 1) := by decide +kernel
theorem eRe_nextToken_6 : decode prog_8_method_12_code 6 = .ok (.aload_n 0, 1) := by decide +kernel
theorem eRe_nextToken_7 : decode prog_8_method_12_code 7 = .ok (.getfield 63, 3) := by decide +kernel
theorem eRe_nextToken_10 : decode prog_8_method_12_code 10 = .ok (.if_icmp .ge 20, 3) := by decide +kernel
theorem eRe_nextToken_13 : decode prog_8_method_12_code 13 = .ok (.aload_n 0, 1) := by decide +kernel
theorem eRe_nextToken_14 : decode prog_8_method_12_code 14 = .ok (.iload_n 1, 1) := by decide +kernel
theorem eRe_nextToken_15 : decode prog_8_method_12_code 15 = .ok (.invokevirtual 94, 3) := by decide +kernel
theorem eRe_nextToken_18 : decode prog_8_method_12_code 18 = .ok (.invokestatic 98, 3) := by decide +kernel
theorem eRe_nextToken_21 : decode prog_8_method_12_code 21 = .ok (.ifCond .eq 9, 3) := by decide +kernel
theorem eRe_nextToken_24 : decode prog_8_method_12_code 24 = .ok (.iinc 1 1, 3) := by decide +kernel
theorem eRe_nextToken_27 : decode prog_8_method_12_code 27 = .ok (.goto (-22), 3) := by decide +kernel
theorem eRe_nextToken_30 : decode prog_8_method_12_code 30 = .ok (.aload_n 0, 1) := by decide +kernel
theorem eRe_nextToken_31 : decode prog_8_method_12_code 31 = .ok (.iload_n 1, 1) := by decide +kernel
theorem eRe_nextToken_32 : decode prog_8_method_12_code 32 = .ok (.putfield 91, 3) := by decide +kernel
theorem eRe_nextToken_35 : decode prog_8_method_12_code 35 = .ok (.aload_n 0, 1) := by decide +kernel
theorem eRe_nextToken_36 : decode prog_8_method_12_code 36 = .ok (.iload_n 1, 1) := by decide +kernel
theorem eRe_nextToken_37 : decode prog_8_method_12_code 37 = .ok (.iconst 1, 1) := by decide +kernel
theorem eRe_nextToken_38 : decode prog_8_method_12_code 38 = .ok (.iadd, 1) := by decide +kernel
theorem eRe_nextToken_39 : decode prog_8_method_12_code 39 = .ok (.putfield 65, 3) := by decide +kernel
theorem eRe_nextToken_42 : decode prog_8_method_12_code 42 = .ok (.aload_n 0, 1) := by decide +kernel
theorem eRe_nextToken_43 : decode prog_8_method_12_code 43 = .ok (.iconst 0, 1) := by decide +kernel
theorem eRe_nextToken_44 : decode prog_8_method_12_code 44 = .ok (.putfield 101, 3) := by decide +kernel
theorem eRe_nextToken_47 : decode prog_8_method_12_code 47 = .ok (.aload_n 0, 1) := by decide +kernel
theorem eRe_nextToken_48 : decode prog_8_method_12_code 48 = .ok (.iload_n 1, 1) := by decide +kernel
theorem eRe_nextToken_49 : decode prog_8_method_12_code 49 = .ok (.invokevirtual 94, 3) := by decide +kernel
theorem eRe_nextToken_52 : decode prog_8_method_12_code 52 = .ok (.istore_n 2, 1) := by decide +kernel
theorem eRe_nextToken_53 : decode prog_8_method_12_code 53 = .ok (.iload_n 1, 1) := by decide +kernel
theorem eRe_nextToken_54 : decode prog_8_method_12_code 54 = .ok (.aload_n 0, 1) := by decide +kernel
theorem eRe_nextToken_55 : decode prog_8_method_12_code 55 = .ok (.getfield 63, 3) := by decide +kernel
theorem eRe_nextToken_58 : decode prog_8_method_12_code 58 = .ok (.if_icmp .lt 16, 3) := by decide +kernel
theorem eRe_nextToken_61 : decode prog_8_method_12_code 61 = .ok (.aload_n 0, 1) := by decide +kernel
theorem eRe_nextToken_62 : decode prog_8_method_12_code 62 = .ok (.iconst 0, 1) := by decide +kernel
theorem eRe_nextToken_63 : decode prog_8_method_12_code 63 = .ok (.putfield 71, 3) := by decide +kernel
theorem eRe_nextToken_66 : decode prog_8_method_12_code 66 = .ok (.aload_n 0, 1) := by decide +kernel
theorem eRe_nextToken_67 : decode prog_8_method_12_code 67 = .ok (.iload_n 1, 1) := by decide +kernel
theorem eRe_nextToken_68 : decode prog_8_method_12_code 68 = .ok (.putfield 65, 3) := by decide +kernel
theorem eRe_nextToken_71 : decode prog_8_method_12_code 71 = .ok (.goto 95, 3) := by decide +kernel
theorem eRe_nextToken_74 : decode prog_8_method_12_code 74 = .ok (.iload_n 2, 1) := by decide +kernel
theorem eRe_nextToken_75 : decode prog_8_method_12_code 75 = .ok (.invokestatic 104, 3) := by decide +kernel
theorem eRe_nextToken_78 : decode prog_8_method_12_code 78 = .ok (.ifCond .eq 10, 3) := by decide +kernel
theorem eRe_nextToken_81 : decode prog_8_method_12_code 81 = .ok (.aload_n 0, 1) := by decide +kernel
theorem eRe_nextToken_82 : decode prog_8_method_12_code 82 = .ok (.invokevirtual 107, 3) := by decide +kernel
theorem eRe_nextToken_85 : decode prog_8_method_12_code 85 = .ok (.goto 81, 3) := by decide +kernel
theorem eRe_nextToken_88 : decode prog_8_method_12_code 88 = .ok (.iload_n 2, 1) := by decide +kernel
theorem eRe_nextToken_89 : decode prog_8_method_12_code 89 = .ok (.invokestatic 110, 3) := by decide +kernel
theorem eRe_nextToken_92 : decode prog_8_method_12_code 92 = .ok (.ifCond .eq 16, 3) := by decide +kernel
theorem eRe_nextToken_95 : decode prog_8_method_12_code 95 = .ok (.aload_n 0, 1) := by decide +kernel
theorem eRe_nextToken_96 : decode prog_8_method_12_code 96 = .ok (.iconst 2, 1) := by decide +kernel
theorem eRe_nextToken_97 : decode prog_8_method_12_code 97 = .ok (.putfield 71, 3) := by decide +kernel
theorem eRe_nextToken_100 : decode prog_8_method_12_code 100 = .ok (.aload_n 0, 1) := by decide +kernel
theorem eRe_nextToken_101 : decode prog_8_method_12_code 101 = .ok (.iload_n 1, 1) := by decide +kernel
theorem eRe_nextToken_102 : decode prog_8_method_12_code 102 = .ok (.invokevirtual 113, 3) := by decide +kernel
theorem eRe_nextToken_105 : decode prog_8_method_12_code 105 = .ok (.goto 61, 3) := by decide +kernel
theorem eRe_nextToken_108 : decode prog_8_method_12_code 108 = .ok (.iload_n 2, 1) := by decide +kernel
theorem eRe_nextToken_109 : decode prog_8_method_12_code 109 = .ok (.bipush 45, 2) := by decide +kernel
theorem eRe_nextToken_111 : decode prog_8_method_12_code 111 = .ok (.if_icmp .ne 40, 3) := by decide +kernel
theorem eRe_nextToken_114 : decode prog_8_method_12_code 114 = .ok (.aload_n 0, 1) := by decide +kernel
theorem eRe_nextToken_115 : decode prog_8_method_12_code 115 = .ok (.iload_n 1, 1) := by decide +kernel
theorem eRe_nextToken_116 : decode prog_8_method_12_code 116 = .ok (.iconst 1, 1) := by decide +kernel
theorem eRe_nextToken_117 : decode prog_8_method_12_code 117 = .ok (.iadd, 1) := by decide +kernel
theorem eRe_nextToken_118 : decode prog_8_method_12_code 118 = .ok (.invokevirtual 94, 3) := by decide +kernel
theorem eRe_nextToken_121 : decode prog_8_method_12_code 121 = .ok (.invokestatic 110, 3) := by decide +kernel
theorem eRe_nextToken_124 : decode prog_8_method_12_code 124 = .ok (.ifCond .eq 27, 3) := by decide +kernel
theorem eRe_nextToken_127 : decode prog_8_method_12_code 127 = .ok (.aload_n 0, 1) := by decide +kernel
theorem eRe_nextToken_128 : decode prog_8_method_12_code 128 = .ok (.iconst 3, 1) := by decide +kernel
theorem eRe_nextToken_129 : decode prog_8_method_12_code 129 = .ok (.putfield 71, 3) := by decide +kernel
theorem eRe_nextToken_132 : decode prog_8_method_12_code 132 = .ok (.aload_n 0, 1) := by decide +kernel
theorem eRe_nextToken_133 : decode prog_8_method_12_code 133 = .ok (.iload_n 1, 1) := by decide +kernel
theorem eRe_nextToken_134 : decode prog_8_method_12_code 134 = .ok (.iconst 1, 1) := by decide +kernel
theorem eRe_nextToken_135 : decode prog_8_method_12_code 135 = .ok (.iadd, 1) := by decide +kernel
theorem eRe_nextToken_136 : decode prog_8_method_12_code 136 = .ok (.invokevirtual 113, 3) := by decide +kernel
theorem eRe_nextToken_139 : decode prog_8_method_12_code 139 = .ok (.aload_n 0, 1) := by decide +kernel
theorem eRe_nextToken_140 : decode prog_8_method_12_code 140 = .ok (.aload_n 0, 1) := by decide +kernel
theorem eRe_nextToken_141 : decode prog_8_method_12_code 141 = .ok (.getfield 101, 3) := by decide +kernel
theorem eRe_nextToken_144 : decode prog_8_method_12_code 144 = .ok (.ineg, 1) := by decide +kernel
theorem eRe_nextToken_145 : decode prog_8_method_12_code 145 = .ok (.putfield 101, 3) := by decide +kernel
theorem eRe_nextToken_148 : decode prog_8_method_12_code 148 = .ok (.goto 18, 3) := by decide +kernel
theorem eRe_nextToken_151 : decode prog_8_method_12_code 151 = .ok (.aload_n 0, 1) := by decide +kernel
theorem eRe_nextToken_152 : decode prog_8_method_12_code 152 = .ok (.iload_n 2, 1) := by decide +kernel
theorem eRe_nextToken_153 : decode prog_8_method_12_code 153 = .ok (.bipush 59, 2) := by decide +kernel
theorem eRe_nextToken_155 : decode prog_8_method_12_code 155 = .ok (.if_icmp .ne 7, 3) := by decide +kernel
theorem eRe_nextToken_158 : decode prog_8_method_12_code 158 = .ok (.iconst 4, 1) := by decide +kernel
theorem eRe_nextToken_159 : decode prog_8_method_12_code 159 = .ok (.goto 4, 3) := by decide +kernel
theorem eRe_nextToken_162 : decode prog_8_method_12_code 162 = .ok (.iconst 5, 1) := by decide +kernel
theorem eRe_nextToken_163 : decode prog_8_method_12_code 163 = .ok (.putfield 71, 3) := by decide +kernel
theorem eRe_nextToken_166 : decode prog_8_method_12_code 166 = .ok (.return_, 1) := by decide +kernel
theorem eRe_takeWord_0 : decode prog_8_method_13_code 0 = .ok (.aload_n 0, 1) := by decide +kernel
theorem eRe_takeWord_1 : decode prog_8_method_13_code 1 = .ok (.getfield 91, 3) := by decide +kernel
theorem eRe_takeWord_4 : decode prog_8_method_13_code 4 = .ok (.istore_n 1, 1) := by decide +kernel
theorem eRe_takeWord_5 : decode prog_8_method_13_code 5 = .ok (.iload_n 1, 1) := by decide +kernel
theorem eRe_takeWord_6 : decode prog_8_method_13_code 6 = .ok (.aload_n 0, 1) := by decide +kernel
theorem eRe_takeWord_7 : decode prog_8_method_13_code 7 = .ok (.getfield 63, 3) := by decide +kernel
theorem eRe_takeWord_10 : decode prog_8_method_13_code 10 = .ok (.if_icmp .ge 43, 3) := by decide +kernel
theorem eRe_takeWord_13 : decode prog_8_method_13_code 13 = .ok (.aload_n 0, 1) := by decide +kernel
theorem eRe_takeWord_14 : decode prog_8_method_13_code 14 = .ok (.iload_n 1, 1) := by decide +kernel
theorem eRe_takeWord_15 : decode prog_8_method_13_code 15 = .ok (.invokevirtual 94, 3) := by decide +kernel
theorem eRe_takeWord_18 : decode prog_8_method_13_code 18 = .ok (.invokestatic 104, 3) := by decide +kernel
theorem eRe_takeWord_21 : decode prog_8_method_13_code 21 = .ok (.ifCond .eq 32, 3) := by decide +kernel
theorem eRe_takeWord_24 : decode prog_8_method_13_code 24 = .ok (.aload_n 0, 1) := by decide +kernel
theorem eRe_takeWord_25 : decode prog_8_method_13_code 25 = .ok (.dup, 1) := by decide +kernel
theorem eRe_takeWord_26 : decode prog_8_method_13_code 26 = .ok (.getfield 101, 3) := by decide +kernel
theorem eRe_takeWord_29 : decode prog_8_method_13_code 29 = .ok (.aload_n 0, 1) := by decide +kernel
theorem eRe_takeWord_30 : decode prog_8_method_13_code 30 = .ok (.iload_n 1, 1) := by decide +kernel
theorem eRe_takeWord_31 : decode prog_8_method_13_code 31 = .ok (.invokevirtual 94, 3) := by decide +kernel
theorem eRe_takeWord_34 : decode prog_8_method_13_code 34 = .ok (.iload_n 1, 1) := by decide +kernel
theorem eRe_takeWord_35 : decode prog_8_method_13_code 35 = .ok (.aload_n 0, 1) := by decide +kernel
theorem eRe_takeWord_36 : decode prog_8_method_13_code 36 = .ok (.getfield 91, 3) := by decide +kernel
theorem eRe_takeWord_39 : decode prog_8_method_13_code 39 = .ok (.isub, 1) := by decide +kernel
theorem eRe_takeWord_40 : decode prog_8_method_13_code 40 = .ok (.invokestatic 46, 3) := by decide +kernel
theorem eRe_takeWord_43 : decode prog_8_method_13_code 43 = .ok (.ior, 1) := by decide +kernel
theorem eRe_takeWord_44 : decode prog_8_method_13_code 44 = .ok (.putfield 101, 3) := by decide +kernel
theorem eRe_takeWord_47 : decode prog_8_method_13_code 47 = .ok (.iinc 1 1, 3) := by decide +kernel
theorem eRe_takeWord_50 : decode prog_8_method_13_code 50 = .ok (.goto (-45), 3) := by decide +kernel
theorem eRe_takeWord_53 : decode prog_8_method_13_code 53 = .ok (.aload_n 0, 1) := by decide +kernel
theorem eRe_takeWord_54 : decode prog_8_method_13_code 54 = .ok (.iload_n 1, 1) := by decide +kernel
theorem eRe_takeWord_55 : decode prog_8_method_13_code 55 = .ok (.aload_n 0, 1) := by decide +kernel
theorem eRe_takeWord_56 : decode prog_8_method_13_code 56 = .ok (.getfield 91, 3) := by decide +kernel
theorem eRe_takeWord_59 : decode prog_8_method_13_code 59 = .ok (.isub, 1) := by decide +kernel
theorem eRe_takeWord_60 : decode prog_8_method_13_code 60 = .ok (.bipush 6, 2) := by decide +kernel
theorem eRe_takeWord_62 : decode prog_8_method_13_code 62 = .ok (.if_icmp .le 7, 3) := by decide +kernel
theorem eRe_takeWord_65 : decode prog_8_method_13_code 65 = .ok (.iconst 5, 1) := by decide +kernel
theorem eRe_takeWord_66 : decode prog_8_method_13_code 66 = .ok (.goto 4, 3) := by decide +kernel
theorem eRe_takeWord_69 : decode prog_8_method_13_code 69 = .ok (.iconst 1, 1) := by decide +kernel
theorem eRe_takeWord_70 : decode prog_8_method_13_code 70 = .ok (.putfield 71, 3) := by decide +kernel
theorem eRe_takeWord_73 : decode prog_8_method_13_code 73 = .ok (.aload_n 0, 1) := by decide +kernel
theorem eRe_takeWord_74 : decode prog_8_method_13_code 74 = .ok (.iload_n 1, 1) := by decide +kernel
theorem eRe_takeWord_75 : decode prog_8_method_13_code 75 = .ok (.putfield 65, 3) := by decide +kernel
theorem eRe_takeWord_78 : decode prog_8_method_13_code 78 = .ok (.return_, 1) := by decide +kernel
theorem eRe_takeDigits_0 : decode prog_8_method_14_code 0 = .ok (.iload_n 1, 1) := by decide +kernel
theorem eRe_takeDigits_1 : decode prog_8_method_14_code 1 = .ok (.istore_n 2, 1) := by decide +kernel
theorem eRe_takeDigits_2 : decode prog_8_method_14_code 2 = .ok (.iload_n 2, 1) := by decide +kernel
theorem eRe_takeDigits_3 : decode prog_8_method_14_code 3 = .ok (.aload_n 0, 1) := by decide +kernel
theorem eRe_takeDigits_4 : decode prog_8_method_14_code 4 = .ok (.getfield 63, 3) := by decide +kernel
theorem eRe_takeDigits_7 : decode prog_8_method_14_code 7 = .ok (.if_icmp .ge 45, 3) := by decide +kernel
theorem eRe_takeDigits_10 : decode prog_8_method_14_code 10 = .ok (.aload_n 0, 1) := by decide +kernel
theorem eRe_takeDigits_11 : decode prog_8_method_14_code 11 = .ok (.iload_n 2, 1) := by decide +kernel
theorem eRe_takeDigits_12 : decode prog_8_method_14_code 12 = .ok (.invokevirtual 94, 3) := by decide +kernel
theorem eRe_takeDigits_15 : decode prog_8_method_14_code 15 = .ok (.invokestatic 110, 3) := by decide +kernel
theorem eRe_takeDigits_18 : decode prog_8_method_14_code 18 = .ok (.ifCond .eq 34, 3) := by decide +kernel
theorem eRe_takeDigits_21 : decode prog_8_method_14_code 21 = .ok (.aload_n 0, 1) := by decide +kernel
theorem eRe_takeDigits_22 : decode prog_8_method_14_code 22 = .ok (.ldc 116, 2) := by decide +kernel
theorem eRe_takeDigits_24 : decode prog_8_method_14_code 24 = .ok (.bipush 10, 2) := by decide +kernel
theorem eRe_takeDigits_26 : decode prog_8_method_14_code 26 = .ok (.aload_n 0, 1) := by decide +kernel
theorem eRe_takeDigits_27 : decode prog_8_method_14_code 27 = .ok (.getfield 101, 3) := by decide +kernel
theorem eRe_takeDigits_30 : decode prog_8_method_14_code 30 = .ok (.imul, 1) := by decide +kernel
theorem eRe_takeDigits_31 : decode prog_8_method_14_code 31 = .ok (.aload_n 0, 1) := by decide +kernel
theorem eRe_takeDigits_32 : decode prog_8_method_14_code 32 = .ok (.iload_n 2, 1) := by decide +kernel
theorem eRe_takeDigits_33 : decode prog_8_method_14_code 33 = .ok (.invokevirtual 94, 3) := by decide +kernel
theorem eRe_takeDigits_36 : decode prog_8_method_14_code 36 = .ok (.iadd, 1) := by decide +kernel
theorem eRe_takeDigits_37 : decode prog_8_method_14_code 37 = .ok (.bipush 48, 2) := by decide +kernel
theorem eRe_takeDigits_39 : decode prog_8_method_14_code 39 = .ok (.isub, 1) := by decide +kernel
theorem eRe_takeDigits_40 : decode prog_8_method_14_code 40 = .ok (.invokestatic 117, 3) := by decide +kernel
theorem eRe_takeDigits_43 : decode prog_8_method_14_code 43 = .ok (.putfield 101, 3) := by decide +kernel
theorem eRe_takeDigits_46 : decode prog_8_method_14_code 46 = .ok (.iinc 2 1, 3) := by decide +kernel
theorem eRe_takeDigits_49 : decode prog_8_method_14_code 49 = .ok (.goto (-47), 3) := by decide +kernel
theorem eRe_takeDigits_52 : decode prog_8_method_14_code 52 = .ok (.aload_n 0, 1) := by decide +kernel
theorem eRe_takeDigits_53 : decode prog_8_method_14_code 53 = .ok (.iload_n 2, 1) := by decide +kernel
theorem eRe_takeDigits_54 : decode prog_8_method_14_code 54 = .ok (.putfield 65, 3) := by decide +kernel
theorem eRe_takeDigits_57 : decode prog_8_method_14_code 57 = .ok (.return_, 1) := by decide +kernel
theorem eRe_wordNumber_0 : decode prog_8_method_15_code 0 = .ok (.iconst 0, 1) := by decide +kernel
theorem eRe_wordNumber_1 : decode prog_8_method_15_code 1 = .ok (.istore_n 1, 1) := by decide +kernel
theorem eRe_wordNumber_2 : decode prog_8_method_15_code 2 = .ok (.aload_n 0, 1) := by decide +kernel
theorem eRe_wordNumber_3 : decode prog_8_method_15_code 3 = .ok (.getfield 71, 3) := by decide +kernel
theorem eRe_wordNumber_6 : decode prog_8_method_15_code 6 = .ok (.iconst 1, 1) := by decide +kernel
theorem eRe_wordNumber_7 : decode prog_8_method_15_code 7 = .ok (.if_icmp .ne 33, 3) := by decide +kernel
theorem eRe_wordNumber_10 : decode prog_8_method_15_code 10 = .ok (.iload_n 1, 1) := by decide +kernel
theorem eRe_wordNumber_11 : decode prog_8_method_15_code 11 = .ok (.aload_n 0, 1) := by decide +kernel
theorem eRe_wordNumber_12 : decode prog_8_method_15_code 12 = .ok (.getfield 22, 3) := by decide +kernel
theorem eRe_wordNumber_15 : decode prog_8_method_15_code 15 = .ok (.arraylength, 1) := by decide +kernel
theorem eRe_wordNumber_16 : decode prog_8_method_15_code 16 = .ok (.if_icmp .ge 24, 3) := by decide +kernel
theorem eRe_wordNumber_19 : decode prog_8_method_15_code 19 = .ok (.aload_n 0, 1) := by decide +kernel
theorem eRe_wordNumber_20 : decode prog_8_method_15_code 20 = .ok (.getfield 22, 3) := by decide +kernel
theorem eRe_wordNumber_23 : decode prog_8_method_15_code 23 = .ok (.iload_n 1, 1) := by decide +kernel
theorem eRe_wordNumber_24 : decode prog_8_method_15_code 24 = .ok (.iaload, 1) := by decide +kernel
theorem eRe_wordNumber_25 : decode prog_8_method_15_code 25 = .ok (.aload_n 0, 1) := by decide +kernel
theorem eRe_wordNumber_26 : decode prog_8_method_15_code 26 = .ok (.getfield 101, 3) := by decide +kernel
theorem eRe_wordNumber_29 : decode prog_8_method_15_code 29 = .ok (.if_icmp .ne 5, 3) := by decide +kernel
theorem eRe_wordNumber_32 : decode prog_8_method_15_code 32 = .ok (.iload_n 1, 1) := by decide +kernel
theorem eRe_wordNumber_33 : decode prog_8_method_15_code 33 = .ok (.ireturn, 1) := by decide +kernel
theorem eRe_wordNumber_34 : decode prog_8_method_15_code 34 = .ok (.iinc 1 1, 3) := by decide +kernel
theorem eRe_wordNumber_37 : decode prog_8_method_15_code 37 = .ok (.goto (-35), 3) := by decide +kernel
theorem eRe_wordNumber_40 : decode prog_8_method_15_code 40 = .ok (.iconst (-1), 1) := by decide +kernel
theorem eRe_wordNumber_41 : decode prog_8_method_15_code 41 = .ok (.ireturn, 1) := by decide +kernel
theorem eRe_mayStand_0 : decode prog_8_method_16_code 0 = .ok (.iload_n 1, 1) := by decide +kernel
theorem eRe_mayStand_1 : decode prog_8_method_16_code 1 = .ok (.ifCond .lt 21, 3) := by decide +kernel
theorem eRe_mayStand_4 : decode prog_8_method_16_code 4 = .ok (.iload_n 1, 1) := by decide +kernel
theorem eRe_mayStand_5 : decode prog_8_method_16_code 5 = .ok (.bipush 12, 2) := by decide +kernel
theorem eRe_mayStand_7 : decode prog_8_method_16_code 7 = .ok (.if_icmp .ge 15, 3) := by decide +kernel
theorem eRe_mayStand_10 : decode prog_8_method_16_code 10 = .ok (.iload_n 1, 1) := by decide +kernel
theorem eRe_mayStand_11 : decode prog_8_method_16_code 11 = .ok (.iconst 3, 1) := by decide +kernel
theorem eRe_mayStand_12 : decode prog_8_method_16_code 12 = .ok (.if_icmp .gt 18, 3) := by decide +kernel
theorem eRe_mayStand_15 : decode prog_8_method_16_code 15 = .ok (.aload_n 0, 1) := by decide +kernel
theorem eRe_mayStand_16 : decode prog_8_method_16_code 16 = .ok (.invokevirtual 122, 3) := by decide +kernel
theorem eRe_mayStand_19 : decode prog_8_method_16_code 19 = .ok (.ifCond .eq 11, 3) := by decide +kernel
theorem eRe_mayStand_22 : decode prog_8_method_16_code 22 = .ok (.aload_n 0, 1) := by decide +kernel
theorem eRe_mayStand_23 : decode prog_8_method_16_code 23 = .ok (.iconst 1, 1) := by decide +kernel
theorem eRe_mayStand_24 : decode prog_8_method_16_code 24 = .ok (.invokevirtual 126, 3) := by decide +kernel
theorem eRe_mayStand_27 : decode prog_8_method_16_code 27 = .ok (.goto 38, 3) := by decide +kernel
theorem eRe_mayStand_30 : decode prog_8_method_16_code 30 = .ok (.aload_n 0, 1) := by decide +kernel
theorem eRe_mayStand_31 : decode prog_8_method_16_code 31 = .ok (.getfield 18, 3) := by decide +kernel
theorem eRe_mayStand_34 : decode prog_8_method_16_code 34 = .ok (.getfield 81, 3) := by decide +kernel
theorem eRe_mayStand_37 : decode prog_8_method_16_code 37 = .ok (.iload_n 1, 1) := by decide +kernel
theorem eRe_mayStand_38 : decode prog_8_method_16_code 38 = .ok (.iaload, 1) := by decide +kernel
theorem eRe_mayStand_39 : decode prog_8_method_16_code 39 = .ok (.getstatic 129, 3) := by decide +kernel
theorem eRe_mayStand_42 : decode prog_8_method_16_code 42 = .ok (.iload_n 1, 1) := by decide +kernel
theorem eRe_mayStand_43 : decode prog_8_method_16_code 43 = .ok (.iaload, 1) := by decide +kernel
theorem eRe_mayStand_44 : decode prog_8_method_16_code 44 = .ok (.if_icmp .lt 21, 3) := by decide +kernel
theorem eRe_mayStand_47 : decode prog_8_method_16_code 47 = .ok (.aload_n 0, 1) := by decide +kernel
theorem eRe_mayStand_48 : decode prog_8_method_16_code 48 = .ok (.getstatic 129, 3) := by decide +kernel
theorem eRe_mayStand_51 : decode prog_8_method_16_code 51 = .ok (.iload_n 1, 1) := by decide +kernel
theorem eRe_mayStand_52 : decode prog_8_method_16_code 52 = .ok (.iaload, 1) := by decide +kernel
theorem eRe_mayStand_53 : decode prog_8_method_16_code 53 = .ok (.iconst 1, 1) := by decide +kernel
theorem eRe_mayStand_54 : decode prog_8_method_16_code 54 = .ok (.if_icmp .ne 7, 3) := by decide +kernel
theorem eRe_mayStand_57 : decode prog_8_method_16_code 57 = .ok (.iconst 3, 1) := by decide +kernel
theorem eRe_mayStand_58 : decode prog_8_method_16_code 58 = .ok (.goto 4, 3) := by decide +kernel
theorem eRe_mayStand_61 : decode prog_8_method_16_code 61 = .ok (.iconst 2, 1) := by decide +kernel
theorem eRe_mayStand_62 : decode prog_8_method_16_code 62 = .ok (.invokevirtual 126, 3) := by decide +kernel
theorem eRe_mayStand_65 : decode prog_8_method_16_code 65 = .ok (.aload_n 0, 1) := by decide +kernel
theorem eRe_mayStand_66 : decode prog_8_method_16_code 66 = .ok (.getfield 60, 3) := by decide +kernel
theorem eRe_mayStand_69 : decode prog_8_method_16_code 69 = .ok (.ifCond .ne 7, 3) := by decide +kernel
theorem eRe_mayStand_72 : decode prog_8_method_16_code 72 = .ok (.iconst 1, 1) := by decide +kernel
theorem eRe_mayStand_73 : decode prog_8_method_16_code 73 = .ok (.goto 4, 3) := by decide +kernel
theorem eRe_mayStand_76 : decode prog_8_method_16_code 76 = .ok (.iconst 0, 1) := by decide +kernel
theorem eRe_mayStand_77 : decode prog_8_method_16_code 77 = .ok (.ireturn, 1) := by decide +kernel
theorem eRe_isBegun_0 : decode prog_8_method_17_code 0 = .ok (.iconst 0, 1) := by decide +kernel
theorem eRe_isBegun_1 : decode prog_8_method_17_code 1 = .ok (.istore_n 1, 1) := by decide +kernel
theorem eRe_isBegun_2 : decode prog_8_method_17_code 2 = .ok (.iconst 4, 1) := by decide +kernel
theorem eRe_isBegun_3 : decode prog_8_method_17_code 3 = .ok (.istore_n 2, 1) := by decide +kernel
theorem eRe_isBegun_4 : decode prog_8_method_17_code 4 = .ok (.iload_n 2, 1) := by decide +kernel
theorem eRe_isBegun_5 : decode prog_8_method_17_code 5 = .ok (.bipush 11, 2) := by decide +kernel
theorem eRe_isBegun_7 : decode prog_8_method_17_code 7 = .ok (.if_icmp .ge 21, 3) := by decide +kernel
theorem eRe_isBegun_10 : decode prog_8_method_17_code 10 = .ok (.iload_n 1, 1) := by decide +kernel
theorem eRe_isBegun_11 : decode prog_8_method_17_code 11 = .ok (.aload_n 0, 1) := by decide +kernel
theorem eRe_isBegun_12 : decode prog_8_method_17_code 12 = .ok (.getfield 18, 3) := by decide +kernel
theorem eRe_isBegun_15 : decode prog_8_method_17_code 15 = .ok (.getfield 81, 3) := by decide +kernel
theorem eRe_isBegun_18 : decode prog_8_method_17_code 18 = .ok (.iload_n 2, 1) := by decide +kernel
theorem eRe_isBegun_19 : decode prog_8_method_17_code 19 = .ok (.iaload, 1) := by decide +kernel
theorem eRe_isBegun_20 : decode prog_8_method_17_code 20 = .ok (.iadd, 1) := by decide +kernel
theorem eRe_isBegun_21 : decode prog_8_method_17_code 21 = .ok (.istore_n 1, 1) := by decide +kernel
theorem eRe_isBegun_22 : decode prog_8_method_17_code 22 = .ok (.iinc 2 1, 3) := by decide +kernel
theorem eRe_isBegun_25 : decode prog_8_method_17_code 25 = .ok (.goto (-21), 3) := by decide +kernel
theorem eRe_isBegun_28 : decode prog_8_method_17_code 28 = .ok (.iload_n 1, 1) := by decide +kernel
theorem eRe_isBegun_29 : decode prog_8_method_17_code 29 = .ok (.ifCond .le 7, 3) := by decide +kernel
theorem eRe_isBegun_32 : decode prog_8_method_17_code 32 = .ok (.iconst 1, 1) := by decide +kernel
theorem eRe_isBegun_33 : decode prog_8_method_17_code 33 = .ok (.goto 4, 3) := by decide +kernel
theorem eRe_isBegun_36 : decode prog_8_method_17_code 36 = .ok (.iconst 0, 1) := by decide +kernel
theorem eRe_isBegun_37 : decode prog_8_method_17_code 37 = .ok (.ireturn, 1) := by decide +kernel
theorem eRe_readLine_0 : decode prog_8_method_18_code 0 = .ok (.iload_n 1, 1) := by decide +kernel
theorem eRe_readLine_1 : decode prog_8_method_18_code 1 = .ok (.tableswitch 214 0 10 #[59, 76, 93, 109, 125, 132, 140, 183, 191, 199, 206], 59) := by decide +kernel
theorem eRe_readLine_60 : decode prog_8_method_18_code 60 = .ok (.aload_n 0, 1) := by decide +kernel
theorem eRe_readLine_61 : decode prog_8_method_18_code 61 = .ok (.getfield 18, 3) := by decide +kernel
theorem eRe_readLine_64 : decode prog_8_method_18_code 64 = .ok (.aload_n 0, 1) := by decide +kernel
theorem eRe_readLine_65 : decode prog_8_method_18_code 65 = .ok (.iconst 4, 1) := by decide +kernel
theorem eRe_readLine_66 : decode prog_8_method_18_code 66 = .ok (.bipush 16, 2) := by decide +kernel
theorem eRe_readLine_68 : decode prog_8_method_18_code 68 = .ok (.invokevirtual 132, 3) := by decide +kernel
theorem eRe_readLine_71 : decode prog_8_method_18_code 71 = .ok (.putfield 135, 3) := by decide +kernel
theorem eRe_readLine_74 : decode prog_8_method_18_code 74 = .ok (.goto 155, 3) := by decide +kernel
theorem eRe_readLine_77 : decode prog_8_method_18_code 77 = .ok (.aload_n 0, 1) := by decide +kernel
theorem eRe_readLine_78 : decode prog_8_method_18_code 78 = .ok (.getfield 18, 3) := by decide +kernel
theorem eRe_readLine_81 : decode prog_8_method_18_code 81 = .ok (.aload_n 0, 1) := by decide +kernel
theorem eRe_readLine_82 : decode prog_8_method_18_code 82 = .ok (.iconst 2, 1) := by decide +kernel
theorem eRe_readLine_83 : decode prog_8_method_18_code 83 = .ok (.bipush 6, 2) := by decide +kernel
theorem eRe_readLine_85 : decode prog_8_method_18_code 85 = .ok (.invokevirtual 132, 3) := by decide +kernel
theorem eRe_readLine_88 : decode prog_8_method_18_code 88 = .ok (.putfield 138, 3) := by decide +kernel
theorem eRe_readLine_91 : decode prog_8_method_18_code 91 = .ok (.goto 138, 3) := by decide +kernel
theorem eRe_readLine_94 : decode prog_8_method_18_code 94 = .ok (.aload_n 0, 1) := by decide +kernel
theorem eRe_readLine_95 : decode prog_8_method_18_code 95 = .ok (.getfield 18, 3) := by decide +kernel
theorem eRe_readLine_98 : decode prog_8_method_18_code 98 = .ok (.aload_n 0, 1) := by decide +kernel
theorem eRe_readLine_99 : decode prog_8_method_18_code 99 = .ok (.iconst 1, 1) := by decide +kernel
theorem eRe_readLine_100 : decode prog_8_method_18_code 100 = .ok (.iconst 2, 1) := by decide +kernel
theorem eRe_readLine_101 : decode prog_8_method_18_code 101 = .ok (.invokevirtual 132, 3) := by decide +kernel
theorem eRe_readLine_104 : decode prog_8_method_18_code 104 = .ok (.putfield 141, 3) := by decide +kernel
theorem eRe_readLine_107 : decode prog_8_method_18_code 107 = .ok (.goto 122, 3) := by decide +kernel
theorem eRe_readLine_110 : decode prog_8_method_18_code 110 = .ok (.aload_n 0, 1) := by decide +kernel
theorem eRe_readLine_111 : decode prog_8_method_18_code 111 = .ok (.getfield 18, 3) := by decide +kernel
theorem eRe_readLine_114 : decode prog_8_method_18_code 114 = .ok (.aload_n 0, 1) := by decide +kernel
theorem eRe_readLine_115 : decode prog_8_method_18_code 115 = .ok (.iconst 1, 1) := by decide +kernel
theorem eRe_readLine_116 : decode prog_8_method_18_code 116 = .ok (.iconst 4, 1) := by decide +kernel
theorem eRe_readLine_117 : decode prog_8_method_18_code 117 = .ok (.invokevirtual 132, 3) := by decide +kernel
theorem eRe_readLine_120 : decode prog_8_method_18_code 120 = .ok (.putfield 144, 3) := by decide +kernel
theorem eRe_readLine_123 : decode prog_8_method_18_code 123 = .ok (.goto 106, 3) := by decide +kernel
theorem eRe_readLine_126 : decode prog_8_method_18_code 126 = .ok (.aload_n 0, 1) := by decide +kernel
theorem eRe_readLine_127 : decode prog_8_method_18_code 127 = .ok (.invokevirtual 147, 3) := by decide +kernel
theorem eRe_readLine_130 : decode prog_8_method_18_code 130 = .ok (.goto 99, 3) := by decide +kernel
theorem eRe_readLine_133 : decode prog_8_method_18_code 133 = .ok (.aload_n 0, 1) := by decide +kernel
theorem eRe_readLine_134 : decode prog_8_method_18_code 134 = .ok (.iload_n 2, 1) := by decide +kernel
theorem eRe_readLine_135 : decode prog_8_method_18_code 135 = .ok (.invokevirtual 150, 3) := by decide +kernel
theorem eRe_readLine_138 : decode prog_8_method_18_code 138 = .ok (.goto 91, 3) := by decide +kernel
theorem eRe_readLine_141 : decode prog_8_method_18_code 141 = .ok (.aload_n 0, 1) := by decide +kernel
theorem eRe_readLine_142 : decode prog_8_method_18_code 142 = .ok (.getfield 18, 3) := by decide +kernel
theorem eRe_readLine_145 : decode prog_8_method_18_code 145 = .ok (.aload_n 0, 1) := by decide +kernel
theorem eRe_readLine_146 : decode prog_8_method_18_code 146 = .ok (.iconst 0, 1) := by decide +kernel
theorem eRe_readLine_147 : decode prog_8_method_18_code 147 = .ok (.aload_n 0, 1) := by decide +kernel
theorem eRe_readLine_148 : decode prog_8_method_18_code 148 = .ok (.getfield 18, 3) := by decide +kernel
theorem eRe_readLine_151 : decode prog_8_method_18_code 151 = .ok (.getfield 135, 3) := by decide +kernel
theorem eRe_readLine_154 : decode prog_8_method_18_code 154 = .ok (.iconst 1, 1) := by decide +kernel
theorem eRe_readLine_155 : decode prog_8_method_18_code 155 = .ok (.isub, 1) := by decide +kernel
theorem eRe_readLine_156 : decode prog_8_method_18_code 156 = .ok (.invokevirtual 132, 3) := by decide +kernel
theorem eRe_readLine_159 : decode prog_8_method_18_code 159 = .ok (.putfield 153, 3) := by decide +kernel
theorem eRe_readLine_162 : decode prog_8_method_18_code 162 = .ok (.aload_n 0, 1) := by decide +kernel
theorem eRe_readLine_163 : decode prog_8_method_18_code 163 = .ok (.getfield 18, 3) := by decide +kernel
theorem eRe_readLine_166 : decode prog_8_method_18_code 166 = .ok (.aload_n 0, 1) := by decide +kernel
theorem eRe_readLine_167 : decode prog_8_method_18_code 167 = .ok (.iconst 1, 1) := by decide +kernel
theorem eRe_readLine_168 : decode prog_8_method_18_code 168 = .ok (.aload_n 0, 1) := by decide +kernel
theorem eRe_readLine_169 : decode prog_8_method_18_code 169 = .ok (.getfield 18, 3) := by decide +kernel
theorem eRe_readLine_172 : decode prog_8_method_18_code 172 = .ok (.getfield 138, 3) := by decide +kernel
theorem eRe_readLine_175 : decode prog_8_method_18_code 175 = .ok (.invokevirtual 132, 3) := by decide +kernel
theorem eRe_readLine_178 : decode prog_8_method_18_code 178 = .ok (.putfield 156, 3) := by decide +kernel
theorem eRe_readLine_181 : decode prog_8_method_18_code 181 = .ok (.goto 48, 3) := by decide +kernel
theorem eRe_readLine_184 : decode prog_8_method_18_code 184 = .ok (.aload_n 0, 1) := by decide +kernel
theorem eRe_readLine_185 : decode prog_8_method_18_code 185 = .ok (.iload_n 2, 1) := by decide +kernel
theorem eRe_readLine_186 : decode prog_8_method_18_code 186 = .ok (.invokevirtual 159, 3) := by decide +kernel
theorem eRe_readLine_189 : decode prog_8_method_18_code 189 = .ok (.goto 40, 3) := by decide +kernel
theorem eRe_readLine_192 : decode prog_8_method_18_code 192 = .ok (.aload_n 0, 1) := by decide +kernel
theorem eRe_readLine_193 : decode prog_8_method_18_code 193 = .ok (.iload_n 2, 1) := by decide +kernel
theorem eRe_readLine_194 : decode prog_8_method_18_code 194 = .ok (.invokevirtual 162, 3) := by decide +kernel
theorem eRe_readLine_197 : decode prog_8_method_18_code 197 = .ok (.goto 32, 3) := by decide +kernel
theorem eRe_readLine_200 : decode prog_8_method_18_code 200 = .ok (.aload_n 0, 1) := by decide +kernel
theorem eRe_readLine_201 : decode prog_8_method_18_code 201 = .ok (.invokevirtual 165, 3) := by decide +kernel
theorem eRe_readLine_204 : decode prog_8_method_18_code 204 = .ok (.goto 25, 3) := by decide +kernel
theorem eRe_readLine_207 : decode prog_8_method_18_code 207 = .ok (.aload_n 0, 1) := by decide +kernel
theorem eRe_readLine_208 : decode prog_8_method_18_code 208 = .ok (.iload_n 2, 1) := by decide +kernel
theorem eRe_readLine_209 : decode prog_8_method_18_code 209 = .ok (.invokevirtual 168, 3) := by decide +kernel
theorem eRe_readLine_212 : decode prog_8_method_18_code 212 = .ok (.goto 17, 3) := by decide +kernel
theorem eRe_readLine_215 : decode prog_8_method_18_code 215 = .ok (.aload_n 0, 1) := by decide +kernel
theorem eRe_readLine_216 : decode prog_8_method_18_code 216 = .ok (.getfield 18, 3) := by decide +kernel
theorem eRe_readLine_219 : decode prog_8_method_18_code 219 = .ok (.aload_n 0, 1) := by decide +kernel
theorem eRe_readLine_220 : decode prog_8_method_18_code 220 = .ok (.iconst 0, 1) := by decide +kernel
theorem eRe_readLine_221 : decode prog_8_method_18_code 221 = .ok (.ldc 171, 2) := by decide +kernel
theorem eRe_readLine_223 : decode prog_8_method_18_code 223 = .ok (.invokevirtual 132, 3) := by decide +kernel
theorem eRe_readLine_226 : decode prog_8_method_18_code 226 = .ok (.putfield 172, 3) := by decide +kernel
theorem eRe_readLine_229 : decode prog_8_method_18_code 229 = .ok (.return_, 1) := by decide +kernel
theorem eRe_number_0 : decode prog_8_method_19_code 0 = .ok (.aload_n 0, 1) := by decide +kernel
theorem eRe_number_1 : decode prog_8_method_19_code 1 = .ok (.getfield 60, 3) := by decide +kernel
theorem eRe_number_4 : decode prog_8_method_19_code 4 = .ok (.ifCond .eq 5, 3) := by decide +kernel
theorem eRe_number_7 : decode prog_8_method_19_code 7 = .ok (.iload_n 1, 1) := by decide +kernel
theorem eRe_number_8 : decode prog_8_method_19_code 8 = .ok (.ireturn, 1) := by decide +kernel
theorem eRe_number_9 : decode prog_8_method_19_code 9 = .ok (.aload_n 0, 1) := by decide +kernel
theorem eRe_number_10 : decode prog_8_method_19_code 10 = .ok (.invokevirtual 68, 3) := by decide +kernel
theorem eRe_number_13 : decode prog_8_method_19_code 13 = .ok (.aload_n 0, 1) := by decide +kernel
theorem eRe_number_14 : decode prog_8_method_19_code 14 = .ok (.getfield 71, 3) := by decide +kernel
theorem eRe_number_17 : decode prog_8_method_19_code 17 = .ok (.iconst 2, 1) := by decide +kernel
theorem eRe_number_18 : decode prog_8_method_19_code 18 = .ok (.if_icmp .eq 10, 3) := by decide +kernel
theorem eRe_number_21 : decode prog_8_method_19_code 21 = .ok (.aload_n 0, 1) := by decide +kernel
theorem eRe_number_22 : decode prog_8_method_19_code 22 = .ok (.iconst 1, 1) := by decide +kernel
theorem eRe_number_23 : decode prog_8_method_19_code 23 = .ok (.invokevirtual 126, 3) := by decide +kernel
theorem eRe_number_26 : decode prog_8_method_19_code 26 = .ok (.iload_n 1, 1) := by decide +kernel
theorem eRe_number_27 : decode prog_8_method_19_code 27 = .ok (.ireturn, 1) := by decide +kernel
theorem eRe_number_28 : decode prog_8_method_19_code 28 = .ok (.aload_n 0, 1) := by decide +kernel
theorem eRe_number_29 : decode prog_8_method_19_code 29 = .ok (.iload_n 1, 1) := by decide +kernel
theorem eRe_number_30 : decode prog_8_method_19_code 30 = .ok (.iload_n 2, 1) := by decide +kernel
theorem eRe_number_31 : decode prog_8_method_19_code 31 = .ok (.invokevirtual 175, 3) := by decide +kernel
theorem eRe_number_34 : decode prog_8_method_19_code 34 = .ok (.ireturn, 1) := by decide +kernel
theorem eRe_within_0 : decode prog_8_method_20_code 0 = .ok (.aload_n 0, 1) := by decide +kernel
theorem eRe_within_1 : decode prog_8_method_20_code 1 = .ok (.getfield 101, 3) := by decide +kernel
theorem eRe_within_4 : decode prog_8_method_20_code 4 = .ok (.iload_n 1, 1) := by decide +kernel
theorem eRe_within_5 : decode prog_8_method_20_code 5 = .ok (.if_icmp .lt 11, 3) := by decide +kernel
theorem eRe_within_8 : decode prog_8_method_20_code 8 = .ok (.aload_n 0, 1) := by decide +kernel
theorem eRe_within_9 : decode prog_8_method_20_code 9 = .ok (.getfield 101, 3) := by decide +kernel
theorem eRe_within_12 : decode prog_8_method_20_code 12 = .ok (.iload_n 2, 1) := by decide +kernel
theorem eRe_within_13 : decode prog_8_method_20_code 13 = .ok (.if_icmp .le 10, 3) := by decide +kernel
theorem eRe_within_16 : decode prog_8_method_20_code 16 = .ok (.aload_n 0, 1) := by decide +kernel
theorem eRe_within_17 : decode prog_8_method_20_code 17 = .ok (.iconst 2, 1) := by decide +kernel
theorem eRe_within_18 : decode prog_8_method_20_code 18 = .ok (.invokevirtual 126, 3) := by decide +kernel
theorem eRe_within_21 : decode prog_8_method_20_code 21 = .ok (.iload_n 1, 1) := by decide +kernel
theorem eRe_within_22 : decode prog_8_method_20_code 22 = .ok (.ireturn, 1) := by decide +kernel
theorem eRe_within_23 : decode prog_8_method_20_code 23 = .ok (.aload_n 0, 1) := by decide +kernel
theorem eRe_within_24 : decode prog_8_method_20_code 24 = .ok (.getfield 101, 3) := by decide +kernel
theorem eRe_within_27 : decode prog_8_method_20_code 27 = .ok (.ireturn, 1) := by decide +kernel
theorem eRe_needSemicolon_0 : decode prog_8_method_21_code 0 = .ok (.aload_n 0, 1) := by decide +kernel
theorem eRe_needSemicolon_1 : decode prog_8_method_21_code 1 = .ok (.getfield 60, 3) := by decide +kernel
theorem eRe_needSemicolon_4 : decode prog_8_method_21_code 4 = .ok (.ifCond .ne 20, 3) := by decide +kernel
theorem eRe_needSemicolon_7 : decode prog_8_method_21_code 7 = .ok (.aload_n 0, 1) := by decide +kernel
theorem eRe_needSemicolon_8 : decode prog_8_method_21_code 8 = .ok (.invokevirtual 68, 3) := by decide +kernel
theorem eRe_needSemicolon_11 : decode prog_8_method_21_code 11 = .ok (.aload_n 0, 1) := by decide +kernel
theorem eRe_needSemicolon_12 : decode prog_8_method_21_code 12 = .ok (.getfield 71, 3) := by decide +kernel
theorem eRe_needSemicolon_15 : decode prog_8_method_21_code 15 = .ok (.iconst 4, 1) := by decide +kernel
theorem eRe_needSemicolon_16 : decode prog_8_method_21_code 16 = .ok (.if_icmp .eq 8, 3) := by decide +kernel
theorem eRe_needSemicolon_19 : decode prog_8_method_21_code 19 = .ok (.aload_n 0, 1) := by decide +kernel
theorem eRe_needSemicolon_20 : decode prog_8_method_21_code 20 = .ok (.iconst 1, 1) := by decide +kernel
theorem eRe_needSemicolon_21 : decode prog_8_method_21_code 21 = .ok (.invokevirtual 126, 3) := by decide +kernel
theorem eRe_needSemicolon_24 : decode prog_8_method_21_code 24 = .ok (.return_, 1) := by decide +kernel
theorem eRe_readBlock_0 : decode prog_8_method_22_code 0 = .ok (.aload_n 0, 1) := by decide +kernel
theorem eRe_readBlock_1 : decode prog_8_method_22_code 1 = .ok (.iconst 0, 1) := by decide +kernel
theorem eRe_readBlock_2 : decode prog_8_method_22_code 2 = .ok (.aload_n 0, 1) := by decide +kernel
theorem eRe_readBlock_3 : decode prog_8_method_22_code 3 = .ok (.getfield 18, 3) := by decide +kernel
theorem eRe_readBlock_6 : decode prog_8_method_22_code 6 = .ok (.getfield 135, 3) := by decide +kernel
theorem eRe_readBlock_9 : decode prog_8_method_22_code 9 = .ok (.iconst 1, 1) := by decide +kernel
theorem eRe_readBlock_10 : decode prog_8_method_22_code 10 = .ok (.isub, 1) := by decide +kernel
theorem eRe_readBlock_11 : decode prog_8_method_22_code 11 = .ok (.invokevirtual 132, 3) := by decide +kernel
theorem eRe_readBlock_14 : decode prog_8_method_22_code 14 = .ok (.istore_n 1, 1) := by decide +kernel
theorem eRe_readBlock_15 : decode prog_8_method_22_code 15 = .ok (.aload_n 0, 1) := by decide +kernel
theorem eRe_readBlock_16 : decode prog_8_method_22_code 16 = .ok (.iload_n 1, 1) := by decide +kernel
theorem eRe_readBlock_17 : decode prog_8_method_22_code 17 = .ok (.aload_n 0, 1) := by decide +kernel
theorem eRe_readBlock_18 : decode prog_8_method_22_code 18 = .ok (.getfield 18, 3) := by decide +kernel
theorem eRe_readBlock_21 : decode prog_8_method_22_code 21 = .ok (.getfield 135, 3) := by decide +kernel
theorem eRe_readBlock_24 : decode prog_8_method_22_code 24 = .ok (.iconst 1, 1) := by decide +kernel
theorem eRe_readBlock_25 : decode prog_8_method_22_code 25 = .ok (.isub, 1) := by decide +kernel
theorem eRe_readBlock_26 : decode prog_8_method_22_code 26 = .ok (.invokevirtual 132, 3) := by decide +kernel
theorem eRe_readBlock_29 : decode prog_8_method_22_code 29 = .ok (.istore_n 2, 1) := by decide +kernel
theorem eRe_readBlock_30 : decode prog_8_method_22_code 30 = .ok (.aload_n 0, 1) := by decide +kernel
theorem eRe_readBlock_31 : decode prog_8_method_22_code 31 = .ok (.iconst 0, 1) := by decide +kernel
theorem eRe_readBlock_32 : decode prog_8_method_22_code 32 = .ok (.aload_n 0, 1) := by decide +kernel
theorem eRe_readBlock_33 : decode prog_8_method_22_code 33 = .ok (.getfield 18, 3) := by decide +kernel
theorem eRe_readBlock_36 : decode prog_8_method_22_code 36 = .ok (.getfield 138, 3) := by decide +kernel
theorem eRe_readBlock_39 : decode prog_8_method_22_code 39 = .ok (.invokevirtual 132, 3) := by decide +kernel
theorem eRe_readBlock_42 : decode prog_8_method_22_code 42 = .ok (.istore_n 3, 1) := by decide +kernel
theorem eRe_readBlock_43 : decode prog_8_method_22_code 43 = .ok (.iload_n 1, 1) := by decide +kernel
theorem eRe_readBlock_44 : decode prog_8_method_22_code 44 = .ok (.istore 4, 2) := by decide +kernel
theorem eRe_readBlock_46 : decode prog_8_method_22_code 46 = .ok (.iload 4, 2) := by decide +kernel
theorem eRe_readBlock_48 : decode prog_8_method_22_code 48 = .ok (.iload_n 2, 1) := by decide +kernel
theorem eRe_readBlock_49 : decode prog_8_method_22_code 49 = .ok (.if_icmp .gt 52, 3) := by decide +kernel
theorem eRe_readBlock_52 : decode prog_8_method_22_code 52 = .ok (.iload 4, 2) := by decide +kernel
theorem eRe_readBlock_54 : decode prog_8_method_22_code 54 = .ok (.aload_n 0, 1) := by decide +kernel
theorem eRe_readBlock_55 : decode prog_8_method_22_code 55 = .ok (.getfield 18, 3) := by decide +kernel
theorem eRe_readBlock_58 : decode prog_8_method_22_code 58 = .ok (.getfield 178, 3) := by decide +kernel
theorem eRe_readBlock_61 : decode prog_8_method_22_code 61 = .ok (.arraylength, 1) := by decide +kernel
theorem eRe_readBlock_62 : decode prog_8_method_22_code 62 = .ok (.if_icmp .ge 39, 3) := by decide +kernel
theorem eRe_readBlock_65 : decode prog_8_method_22_code 65 = .ok (.iload 4, 2) := by decide +kernel
theorem eRe_readBlock_67 : decode prog_8_method_22_code 67 = .ok (.ifCond .lt 28, 3) := by decide +kernel
theorem eRe_readBlock_70 : decode prog_8_method_22_code 70 = .ok (.iload_n 3, 1) := by decide +kernel
theorem eRe_readBlock_71 : decode prog_8_method_22_code 71 = .ok (.aload_n 0, 1) := by decide +kernel
theorem eRe_readBlock_72 : decode prog_8_method_22_code 72 = .ok (.getfield 18, 3) := by decide +kernel
theorem eRe_readBlock_75 : decode prog_8_method_22_code 75 = .ok (.getfield 178, 3) := by decide +kernel
theorem eRe_readBlock_78 : decode prog_8_method_22_code 78 = .ok (.iload 4, 2) := by decide +kernel
theorem eRe_readBlock_80 : decode prog_8_method_22_code 80 = .ok (.iaload, 1) := by decide +kernel
theorem eRe_readBlock_81 : decode prog_8_method_22_code 81 = .ok (.if_icmp .ge 14, 3) := by decide +kernel
theorem eRe_readBlock_84 : decode prog_8_method_22_code 84 = .ok (.aload_n 0, 1) := by decide +kernel
theorem eRe_readBlock_85 : decode prog_8_method_22_code 85 = .ok (.getfield 18, 3) := by decide +kernel
theorem eRe_readBlock_88 : decode prog_8_method_22_code 88 = .ok (.getfield 178, 3) := by decide +kernel
theorem eRe_readBlock_91 : decode prog_8_method_22_code 91 = .ok (.iload 4, 2) := by decide +kernel
theorem eRe_readBlock_93 : decode prog_8_method_22_code 93 = .ok (.iload_n 3, 1) := by decide +kernel
theorem eRe_readBlock_94 : decode prog_8_method_22_code 94 = .ok (.iastore, 1) := by decide +kernel
theorem eRe_readBlock_95 : decode prog_8_method_22_code 95 = .ok (.iinc 4 1, 3) := by decide +kernel
theorem eRe_readBlock_98 : decode prog_8_method_22_code 98 = .ok (.goto (-52), 3) := by decide +kernel
theorem eRe_readBlock_101 : decode prog_8_method_22_code 101 = .ok (.return_, 1) := by decide +kernel
theorem eRe_readSpot_0 : decode prog_8_method_23_code 0 = .ok (.aload_n 0, 1) := by decide +kernel
theorem eRe_readSpot_1 : decode prog_8_method_23_code 1 = .ok (.invokevirtual 68, 3) := by decide +kernel
theorem eRe_readSpot_4 : decode prog_8_method_23_code 4 = .ok (.aload_n 0, 1) := by decide +kernel
theorem eRe_readSpot_5 : decode prog_8_method_23_code 5 = .ok (.getfield 71, 3) := by decide +kernel
theorem eRe_readSpot_8 : decode prog_8_method_23_code 8 = .ok (.iconst 1, 1) := by decide +kernel
theorem eRe_readSpot_9 : decode prog_8_method_23_code 9 = .ok (.if_icmp .ne 11, 3) := by decide +kernel
theorem eRe_readSpot_12 : decode prog_8_method_23_code 12 = .ok (.aload_n 0, 1) := by decide +kernel
theorem eRe_readSpot_13 : decode prog_8_method_23_code 13 = .ok (.invokevirtual 74, 3) := by decide +kernel
theorem eRe_readSpot_16 : decode prog_8_method_23_code 16 = .ok (.iconst (-1), 1) := by decide +kernel
theorem eRe_readSpot_17 : decode prog_8_method_23_code 17 = .ok (.if_icmp .eq 11, 3) := by decide +kernel
theorem eRe_readSpot_20 : decode prog_8_method_23_code 20 = .ok (.aload_n 0, 1) := by decide +kernel
theorem eRe_readSpot_21 : decode prog_8_method_23_code 21 = .ok (.iconst 1, 1) := by decide +kernel
theorem eRe_readSpot_22 : decode prog_8_method_23_code 22 = .ok (.invokevirtual 126, 3) := by decide +kernel
theorem eRe_readSpot_25 : decode prog_8_method_23_code 25 = .ok (.goto 23, 3) := by decide +kernel
theorem eRe_readSpot_28 : decode prog_8_method_23_code 28 = .ok (.aload_n 0, 1) := by decide +kernel
theorem eRe_readSpot_29 : decode prog_8_method_23_code 29 = .ok (.getfield 18, 3) := by decide +kernel
theorem eRe_readSpot_32 : decode prog_8_method_23_code 32 = .ok (.aload_n 0, 1) := by decide +kernel
theorem eRe_readSpot_33 : decode prog_8_method_23_code 33 = .ok (.getfield 101, 3) := by decide +kernel
theorem eRe_readSpot_36 : decode prog_8_method_23_code 36 = .ok (.invokevirtual 181, 3) := by decide +kernel
theorem eRe_readSpot_39 : decode prog_8_method_23_code 39 = .ok (.iconst (-1), 1) := by decide +kernel
theorem eRe_readSpot_40 : decode prog_8_method_23_code 40 = .ok (.if_icmp .eq 8, 3) := by decide +kernel
theorem eRe_readSpot_43 : decode prog_8_method_23_code 43 = .ok (.aload_n 0, 1) := by decide +kernel
theorem eRe_readSpot_44 : decode prog_8_method_23_code 44 = .ok (.iconst 3, 1) := by decide +kernel
theorem eRe_readSpot_45 : decode prog_8_method_23_code 45 = .ok (.invokevirtual 126, 3) := by decide +kernel
theorem eRe_readSpot_48 : decode prog_8_method_23_code 48 = .ok (.aload_n 0, 1) := by decide +kernel
theorem eRe_readSpot_49 : decode prog_8_method_23_code 49 = .ok (.getfield 101, 3) := by decide +kernel
theorem eRe_readSpot_52 : decode prog_8_method_23_code 52 = .ok (.istore_n 2, 1) := by decide +kernel
theorem eRe_readSpot_53 : decode prog_8_method_23_code 53 = .ok (.aload_n 0, 1) := by decide +kernel
theorem eRe_readSpot_54 : decode prog_8_method_23_code 54 = .ok (.iconst 0, 1) := by decide +kernel
theorem eRe_readSpot_55 : decode prog_8_method_23_code 55 = .ok (.aload_n 0, 1) := by decide +kernel
theorem eRe_readSpot_56 : decode prog_8_method_23_code 56 = .ok (.getfield 18, 3) := by decide +kernel
theorem eRe_readSpot_59 : decode prog_8_method_23_code 59 = .ok (.getfield 135, 3) := by decide +kernel
theorem eRe_readSpot_62 : decode prog_8_method_23_code 62 = .ok (.iconst 1, 1) := by decide +kernel
theorem eRe_readSpot_63 : decode prog_8_method_23_code 63 = .ok (.isub, 1) := by decide +kernel
theorem eRe_readSpot_64 : decode prog_8_method_23_code 64 = .ok (.invokevirtual 132, 3) := by decide +kernel
theorem eRe_readSpot_67 : decode prog_8_method_23_code 67 = .ok (.istore_n 3, 1) := by decide +kernel
theorem eRe_readSpot_68 : decode prog_8_method_23_code 68 = .ok (.aload_n 0, 1) := by decide +kernel
theorem eRe_readSpot_69 : decode prog_8_method_23_code 69 = .ok (.iconst 1, 1) := by decide +kernel
theorem eRe_readSpot_70 : decode prog_8_method_23_code 70 = .ok (.aload_n 0, 1) := by decide +kernel
theorem eRe_readSpot_71 : decode prog_8_method_23_code 71 = .ok (.getfield 18, 3) := by decide +kernel
theorem eRe_readSpot_74 : decode prog_8_method_23_code 74 = .ok (.getfield 138, 3) := by decide +kernel
theorem eRe_readSpot_77 : decode prog_8_method_23_code 77 = .ok (.invokevirtual 132, 3) := by decide +kernel
theorem eRe_readSpot_80 : decode prog_8_method_23_code 80 = .ok (.istore 4, 2) := by decide +kernel
theorem eRe_readSpot_82 : decode prog_8_method_23_code 82 = .ok (.iload_n 1, 1) := by decide +kernel
theorem eRe_readSpot_83 : decode prog_8_method_23_code 83 = .ok (.ifCond .lt 40, 3) := by decide +kernel
theorem eRe_readSpot_86 : decode prog_8_method_23_code 86 = .ok (.iload_n 1, 1) := by decide +kernel
theorem eRe_readSpot_87 : decode prog_8_method_23_code 87 = .ok (.bipush 6, 2) := by decide +kernel
theorem eRe_readSpot_89 : decode prog_8_method_23_code 89 = .ok (.if_icmp .ge 34, 3) := by decide +kernel
theorem eRe_readSpot_92 : decode prog_8_method_23_code 92 = .ok (.aload_n 0, 1) := by decide +kernel
theorem eRe_readSpot_93 : decode prog_8_method_23_code 93 = .ok (.getfield 18, 3) := by decide +kernel
theorem eRe_readSpot_96 : decode prog_8_method_23_code 96 = .ok (.getfield 184, 3) := by decide +kernel
theorem eRe_readSpot_99 : decode prog_8_method_23_code 99 = .ok (.iload_n 1, 1) := by decide +kernel
theorem eRe_readSpot_100 : decode prog_8_method_23_code 100 = .ok (.iload_n 2, 1) := by decide +kernel
theorem eRe_readSpot_101 : decode prog_8_method_23_code 101 = .ok (.iastore, 1) := by decide +kernel
theorem eRe_readSpot_102 : decode prog_8_method_23_code 102 = .ok (.aload_n 0, 1) := by decide +kernel
theorem eRe_readSpot_103 : decode prog_8_method_23_code 103 = .ok (.getfield 18, 3) := by decide +kernel
theorem eRe_readSpot_106 : decode prog_8_method_23_code 106 = .ok (.getfield 187, 3) := by decide +kernel
theorem eRe_readSpot_109 : decode prog_8_method_23_code 109 = .ok (.iload_n 1, 1) := by decide +kernel
theorem eRe_readSpot_110 : decode prog_8_method_23_code 110 = .ok (.iload_n 3, 1) := by decide +kernel
theorem eRe_readSpot_111 : decode prog_8_method_23_code 111 = .ok (.iastore, 1) := by decide +kernel
theorem eRe_readSpot_112 : decode prog_8_method_23_code 112 = .ok (.aload_n 0, 1) := by decide +kernel
theorem eRe_readSpot_113 : decode prog_8_method_23_code 113 = .ok (.getfield 18, 3) := by decide +kernel
theorem eRe_readSpot_116 : decode prog_8_method_23_code 116 = .ok (.getfield 190, 3) := by decide +kernel
theorem eRe_readSpot_119 : decode prog_8_method_23_code 119 = .ok (.iload_n 1, 1) := by decide +kernel
theorem eRe_readSpot_120 : decode prog_8_method_23_code 120 = .ok (.iload 4, 2) := by decide +kernel
theorem eRe_readSpot_122 : decode prog_8_method_23_code 122 = .ok (.iastore, 1) := by decide +kernel
theorem eRe_readSpot_123 : decode prog_8_method_23_code 123 = .ok (.return_, 1) := by decide +kernel
theorem eRe_readWind_0 : decode prog_8_method_24_code 0 = .ok (.iload_n 1, 1) := by decide +kernel
theorem eRe_readWind_1 : decode prog_8_method_24_code 1 = .ok (.ifCond .le 25, 3) := by decide +kernel
theorem eRe_readWind_4 : decode prog_8_method_24_code 4 = .ok (.iload_n 1, 1) := by decide +kernel
theorem eRe_readWind_5 : decode prog_8_method_24_code 5 = .ok (.bipush 8, 2) := by decide +kernel
theorem eRe_readWind_7 : decode prog_8_method_24_code 7 = .ok (.if_icmp .gt 19, 3) := by decide +kernel
theorem eRe_readWind_10 : decode prog_8_method_24_code 10 = .ok (.aload_n 0, 1) := by decide +kernel
theorem eRe_readWind_11 : decode prog_8_method_24_code 11 = .ok (.getfield 18, 3) := by decide +kernel
theorem eRe_readWind_14 : decode prog_8_method_24_code 14 = .ok (.getfield 193, 3) := by decide +kernel
theorem eRe_readWind_17 : decode prog_8_method_24_code 17 = .ok (.iload_n 1, 1) := by decide +kernel
theorem eRe_readWind_18 : decode prog_8_method_24_code 18 = .ok (.iconst 1, 1) := by decide +kernel
theorem eRe_readWind_19 : decode prog_8_method_24_code 19 = .ok (.isub, 1) := by decide +kernel
theorem eRe_readWind_20 : decode prog_8_method_24_code 20 = .ok (.iaload, 1) := by decide +kernel
theorem eRe_readWind_21 : decode prog_8_method_24_code 21 = .ok (.iconst 1, 1) := by decide +kernel
theorem eRe_readWind_22 : decode prog_8_method_24_code 22 = .ok (.iadd, 1) := by decide +kernel
theorem eRe_readWind_23 : decode prog_8_method_24_code 23 = .ok (.goto 4, 3) := by decide +kernel
theorem eRe_readWind_26 : decode prog_8_method_24_code 26 = .ok (.iconst 0, 1) := by decide +kernel
theorem eRe_readWind_27 : decode prog_8_method_24_code 27 = .ok (.istore_n 2, 1) := by decide +kernel
theorem eRe_readWind_28 : decode prog_8_method_24_code 28 = .ok (.aload_n 0, 1) := by decide +kernel
theorem eRe_readWind_29 : decode prog_8_method_24_code 29 = .ok (.iload_n 2, 1) := by decide +kernel
theorem eRe_readWind_30 : decode prog_8_method_24_code 30 = .ok (.sipush 999, 3) := by decide +kernel
theorem eRe_readWind_33 : decode prog_8_method_24_code 33 = .ok (.invokevirtual 132, 3) := by decide +kernel
theorem eRe_readWind_36 : decode prog_8_method_24_code 36 = .ok (.istore_n 3, 1) := by decide +kernel
theorem eRe_readWind_37 : decode prog_8_method_24_code 37 = .ok (.aload_n 0, 1) := by decide +kernel
theorem eRe_readWind_38 : decode prog_8_method_24_code 38 = .ok (.invokevirtual 196, 3) := by decide +kernel
theorem eRe_readWind_41 : decode prog_8_method_24_code 41 = .ok (.istore 4, 2) := by decide +kernel
theorem eRe_readWind_43 : decode prog_8_method_24_code 43 = .ok (.iload_n 1, 1) := by decide +kernel
theorem eRe_readWind_44 : decode prog_8_method_24_code 44 = .ok (.ifCond .lt 30, 3) := by decide +kernel
theorem eRe_readWind_47 : decode prog_8_method_24_code 47 = .ok (.iload_n 1, 1) := by decide +kernel
theorem eRe_readWind_48 : decode prog_8_method_24_code 48 = .ok (.bipush 8, 2) := by decide +kernel
theorem eRe_readWind_50 : decode prog_8_method_24_code 50 = .ok (.if_icmp .ge 24, 3) := by decide +kernel
theorem eRe_readWind_53 : decode prog_8_method_24_code 53 = .ok (.aload_n 0, 1) := by decide +kernel
theorem eRe_readWind_54 : decode prog_8_method_24_code 54 = .ok (.getfield 18, 3) := by decide +kernel
theorem eRe_readWind_57 : decode prog_8_method_24_code 57 = .ok (.getfield 193, 3) := by decide +kernel
theorem eRe_readWind_60 : decode prog_8_method_24_code 60 = .ok (.iload_n 1, 1) := by decide +kernel
theorem eRe_readWind_61 : decode prog_8_method_24_code 61 = .ok (.iload_n 3, 1) := by decide +kernel
theorem eRe_readWind_62 : decode prog_8_method_24_code 62 = .ok (.iastore, 1) := by decide +kernel
theorem eRe_readWind_63 : decode prog_8_method_24_code 63 = .ok (.aload_n 0, 1) := by decide +kernel
theorem eRe_readWind_64 : decode prog_8_method_24_code 64 = .ok (.getfield 18, 3) := by decide +kernel
theorem eRe_readWind_67 : decode prog_8_method_24_code 67 = .ok (.getfield 199, 3) := by decide +kernel
theorem eRe_readWind_70 : decode prog_8_method_24_code 70 = .ok (.iload_n 1, 1) := by decide +kernel
theorem eRe_readWind_71 : decode prog_8_method_24_code 71 = .ok (.iload 4, 2) := by decide +kernel
theorem eRe_readWind_73 : decode prog_8_method_24_code 73 = .ok (.iastore, 1) := by decide +kernel
theorem eRe_readWind_74 : decode prog_8_method_24_code 74 = .ok (.return_, 1) := by decide +kernel
theorem eRe_signedNumber_0 : decode prog_8_method_25_code 0 = .ok (.aload_n 0, 1) := by decide +kernel
theorem eRe_signedNumber_1 : decode prog_8_method_25_code 1 = .ok (.getfield 60, 3) := by decide +kernel
theorem eRe_signedNumber_4 : decode prog_8_method_25_code 4 = .ok (.ifCond .eq 5, 3) := by decide +kernel
theorem eRe_signedNumber_7 : decode prog_8_method_25_code 7 = .ok (.iconst 0, 1) := by decide +kernel
theorem eRe_signedNumber_8 : decode prog_8_method_25_code 8 = .ok (.ireturn, 1) := by decide +kernel
theorem eRe_signedNumber_9 : decode prog_8_method_25_code 9 = .ok (.aload_n 0, 1) := by decide +kernel
theorem eRe_signedNumber_10 : decode prog_8_method_25_code 10 = .ok (.invokevirtual 68, 3) := by decide +kernel
theorem eRe_signedNumber_13 : decode prog_8_method_25_code 13 = .ok (.aload_n 0, 1) := by decide +kernel
theorem eRe_signedNumber_14 : decode prog_8_method_25_code 14 = .ok (.getfield 71, 3) := by decide +kernel
theorem eRe_signedNumber_17 : decode prog_8_method_25_code 17 = .ok (.iconst 2, 1) := by decide +kernel
theorem eRe_signedNumber_18 : decode prog_8_method_25_code 18 = .ok (.if_icmp .eq 18, 3) := by decide +kernel
theorem eRe_signedNumber_21 : decode prog_8_method_25_code 21 = .ok (.aload_n 0, 1) := by decide +kernel
theorem eRe_signedNumber_22 : decode prog_8_method_25_code 22 = .ok (.getfield 71, 3) := by decide +kernel
theorem eRe_signedNumber_25 : decode prog_8_method_25_code 25 = .ok (.iconst 3, 1) := by decide +kernel
theorem eRe_signedNumber_26 : decode prog_8_method_25_code 26 = .ok (.if_icmp .eq 10, 3) := by decide +kernel
theorem eRe_signedNumber_29 : decode prog_8_method_25_code 29 = .ok (.aload_n 0, 1) := by decide +kernel
theorem eRe_signedNumber_30 : decode prog_8_method_25_code 30 = .ok (.iconst 1, 1) := by decide +kernel
theorem eRe_signedNumber_31 : decode prog_8_method_25_code 31 = .ok (.invokevirtual 126, 3) := by decide +kernel
theorem eRe_signedNumber_34 : decode prog_8_method_25_code 34 = .ok (.iconst 0, 1) := by decide +kernel
theorem eRe_signedNumber_35 : decode prog_8_method_25_code 35 = .ok (.ireturn, 1) := by decide +kernel
theorem eRe_signedNumber_36 : decode prog_8_method_25_code 36 = .ok (.aload_n 0, 1) := by decide +kernel
theorem eRe_signedNumber_37 : decode prog_8_method_25_code 37 = .ok (.bipush (-4), 2) := by decide +kernel
theorem eRe_signedNumber_39 : decode prog_8_method_25_code 39 = .ok (.iconst 4, 1) := by decide +kernel
theorem eRe_signedNumber_40 : decode prog_8_method_25_code 40 = .ok (.invokevirtual 175, 3) := by decide +kernel
theorem eRe_signedNumber_43 : decode prog_8_method_25_code 43 = .ok (.ireturn, 1) := by decide +kernel
theorem eRe_readOrder_0 : decode prog_8_method_26_code 0 = .ok (.aload_n 0, 1) := by decide +kernel
theorem eRe_readOrder_1 : decode prog_8_method_26_code 1 = .ok (.invokevirtual 68, 3) := by decide +kernel
theorem eRe_readOrder_4 : decode prog_8_method_26_code 4 = .ok (.aload_n 0, 1) := by decide +kernel
theorem eRe_readOrder_5 : decode prog_8_method_26_code 5 = .ok (.invokevirtual 74, 3) := by decide +kernel
theorem eRe_readOrder_8 : decode prog_8_method_26_code 8 = .ok (.istore_n 2, 1) := by decide +kernel
theorem eRe_readOrder_9 : decode prog_8_method_26_code 9 = .ok (.iload_n 2, 1) := by decide +kernel
theorem eRe_readOrder_10 : decode prog_8_method_26_code 10 = .ok (.bipush 12, 2) := by decide +kernel
theorem eRe_readOrder_12 : decode prog_8_method_26_code 12 = .ok (.if_icmp .ge 8, 3) := by decide +kernel
theorem eRe_readOrder_15 : decode prog_8_method_26_code 15 = .ok (.aload_n 0, 1) := by decide +kernel
theorem eRe_readOrder_16 : decode prog_8_method_26_code 16 = .ok (.iconst 1, 1) := by decide +kernel
theorem eRe_readOrder_17 : decode prog_8_method_26_code 17 = .ok (.invokevirtual 126, 3) := by decide +kernel
theorem eRe_readOrder_20 : decode prog_8_method_26_code 20 = .ok (.aload_n 0, 1) := by decide +kernel
theorem eRe_readOrder_21 : decode prog_8_method_26_code 21 = .ok (.iconst 1, 1) := by decide +kernel
theorem eRe_readOrder_22 : decode prog_8_method_26_code 22 = .ok (.bipush 30, 2) := by decide +kernel
theorem eRe_readOrder_24 : decode prog_8_method_26_code 24 = .ok (.invokevirtual 132, 3) := by decide +kernel
theorem eRe_readOrder_27 : decode prog_8_method_26_code 27 = .ok (.istore_n 3, 1) := by decide +kernel
theorem eRe_readOrder_28 : decode prog_8_method_26_code 28 = .ok (.iload_n 1, 1) := by decide +kernel
theorem eRe_readOrder_29 : decode prog_8_method_26_code 29 = .ok (.ifCond .lt 29, 3) := by decide +kernel
theorem eRe_readOrder_32 : decode prog_8_method_26_code 32 = .ok (.iload_n 1, 1) := by decide +kernel
theorem eRe_readOrder_33 : decode prog_8_method_26_code 33 = .ok (.bipush 16, 2) := by decide +kernel
theorem eRe_readOrder_35 : decode prog_8_method_26_code 35 = .ok (.if_icmp .ge 23, 3) := by decide +kernel
theorem eRe_readOrder_38 : decode prog_8_method_26_code 38 = .ok (.aload_n 0, 1) := by decide +kernel
theorem eRe_readOrder_39 : decode prog_8_method_26_code 39 = .ok (.getfield 18, 3) := by decide +kernel
theorem eRe_readOrder_42 : decode prog_8_method_26_code 42 = .ok (.getfield 202, 3) := by decide +kernel
theorem eRe_readOrder_45 : decode prog_8_method_26_code 45 = .ok (.iload_n 1, 1) := by decide +kernel
theorem eRe_readOrder_46 : decode prog_8_method_26_code 46 = .ok (.iload_n 2, 1) := by decide +kernel
theorem eRe_readOrder_47 : decode prog_8_method_26_code 47 = .ok (.iastore, 1) := by decide +kernel
theorem eRe_readOrder_48 : decode prog_8_method_26_code 48 = .ok (.aload_n 0, 1) := by decide +kernel
theorem eRe_readOrder_49 : decode prog_8_method_26_code 49 = .ok (.getfield 18, 3) := by decide +kernel
theorem eRe_readOrder_52 : decode prog_8_method_26_code 52 = .ok (.getfield 205, 3) := by decide +kernel
theorem eRe_readOrder_55 : decode prog_8_method_26_code 55 = .ok (.iload_n 1, 1) := by decide +kernel
theorem eRe_readOrder_56 : decode prog_8_method_26_code 56 = .ok (.iload_n 3, 1) := by decide +kernel
theorem eRe_readOrder_57 : decode prog_8_method_26_code 57 = .ok (.iastore, 1) := by decide +kernel
theorem eRe_readOrder_58 : decode prog_8_method_26_code 58 = .ok (.return_, 1) := by decide +kernel
theorem eRe_readPile_0 : decode prog_8_method_27_code 0 = .ok (.aload_n 0, 1) := by decide +kernel
theorem eRe_readPile_1 : decode prog_8_method_27_code 1 = .ok (.iconst 0, 1) := by decide +kernel
theorem eRe_readPile_2 : decode prog_8_method_27_code 2 = .ok (.aload_n 0, 1) := by decide +kernel
theorem eRe_readPile_3 : decode prog_8_method_27_code 3 = .ok (.getfield 18, 3) := by decide +kernel
theorem eRe_readPile_6 : decode prog_8_method_27_code 6 = .ok (.getfield 135, 3) := by decide +kernel
theorem eRe_readPile_9 : decode prog_8_method_27_code 9 = .ok (.iconst 1, 1) := by decide +kernel
theorem eRe_readPile_10 : decode prog_8_method_27_code 10 = .ok (.isub, 1) := by decide +kernel
theorem eRe_readPile_11 : decode prog_8_method_27_code 11 = .ok (.invokevirtual 132, 3) := by decide +kernel
theorem eRe_readPile_14 : decode prog_8_method_27_code 14 = .ok (.istore_n 1, 1) := by decide +kernel
theorem eRe_readPile_15 : decode prog_8_method_27_code 15 = .ok (.iload_n 1, 1) := by decide +kernel
theorem eRe_readPile_16 : decode prog_8_method_27_code 16 = .ok (.ifCond .lt 15, 3) := by decide +kernel
theorem eRe_readPile_19 : decode prog_8_method_27_code 19 = .ok (.iload_n 1, 1) := by decide +kernel
theorem eRe_readPile_20 : decode prog_8_method_27_code 20 = .ok (.aload_n 0, 1) := by decide +kernel
theorem eRe_readPile_21 : decode prog_8_method_27_code 21 = .ok (.getfield 18, 3) := by decide +kernel
theorem eRe_readPile_24 : decode prog_8_method_27_code 24 = .ok (.getfield 208, 3) := by decide +kernel
theorem eRe_readPile_27 : decode prog_8_method_27_code 27 = .ok (.arraylength, 1) := by decide +kernel
theorem eRe_readPile_28 : decode prog_8_method_27_code 28 = .ok (.if_icmp .lt 4, 3) := by decide +kernel
theorem eRe_readPile_31 : decode prog_8_method_27_code 31 = .ok (.return_, 1) := by decide +kernel
theorem eRe_readPile_32 : decode prog_8_method_27_code 32 = .ok (.aload_n 0, 1) := by decide +kernel
theorem eRe_readPile_33 : decode prog_8_method_27_code 33 = .ok (.getfield 18, 3) := by decide +kernel
theorem eRe_readPile_36 : decode prog_8_method_27_code 36 = .ok (.getfield 208, 3) := by decide +kernel
theorem eRe_readPile_39 : decode prog_8_method_27_code 39 = .ok (.iload_n 1, 1) := by decide +kernel
theorem eRe_readPile_40 : decode prog_8_method_27_code 40 = .ok (.iaload, 1) := by decide +kernel
theorem eRe_readPile_41 : decode prog_8_method_27_code 41 = .ok (.ifCond .le 8, 3) := by decide +kernel
theorem eRe_readPile_44 : decode prog_8_method_27_code 44 = .ok (.aload_n 0, 1) := by decide +kernel
theorem eRe_readPile_45 : decode prog_8_method_27_code 45 = .ok (.iconst 3, 1) := by decide +kernel
theorem eRe_readPile_46 : decode prog_8_method_27_code 46 = .ok (.invokevirtual 126, 3) := by decide +kernel
theorem eRe_readPile_49 : decode prog_8_method_27_code 49 = .ok (.aload_n 0, 1) := by decide +kernel
theorem eRe_readPile_50 : decode prog_8_method_27_code 50 = .ok (.getfield 18, 3) := by decide +kernel
theorem eRe_readPile_53 : decode prog_8_method_27_code 53 = .ok (.getfield 208, 3) := by decide +kernel
theorem eRe_readPile_56 : decode prog_8_method_27_code 56 = .ok (.iload_n 1, 1) := by decide +kernel
theorem eRe_readPile_57 : decode prog_8_method_27_code 57 = .ok (.aload_n 0, 1) := by decide +kernel
theorem eRe_readPile_58 : decode prog_8_method_27_code 58 = .ok (.iconst 1, 1) := by decide +kernel
theorem eRe_readPile_59 : decode prog_8_method_27_code 59 = .ok (.aload_n 0, 1) := by decide +kernel
theorem eRe_readPile_60 : decode prog_8_method_27_code 60 = .ok (.getfield 18, 3) := by decide +kernel
theorem eRe_readPile_63 : decode prog_8_method_27_code 63 = .ok (.getfield 138, 3) := by decide +kernel
theorem eRe_readPile_66 : decode prog_8_method_27_code 66 = .ok (.invokevirtual 132, 3) := by decide +kernel
theorem eRe_readPile_69 : decode prog_8_method_27_code 69 = .ok (.iastore, 1) := by decide +kernel
theorem eRe_readPile_70 : decode prog_8_method_27_code 70 = .ok (.return_, 1) := by decide +kernel
theorem eRe_readJob_0 : decode prog_8_method_28_code 0 = .ok (.aload_n 0, 1) := by decide +kernel
theorem eRe_readJob_1 : decode prog_8_method_28_code 1 = .ok (.iconst 0, 1) := by decide +kernel
theorem eRe_readJob_2 : decode prog_8_method_28_code 2 = .ok (.aload_n 0, 1) := by decide +kernel
theorem eRe_readJob_3 : decode prog_8_method_28_code 3 = .ok (.getfield 18, 3) := by decide +kernel
theorem eRe_readJob_6 : decode prog_8_method_28_code 6 = .ok (.getfield 135, 3) := by decide +kernel
theorem eRe_readJob_9 : decode prog_8_method_28_code 9 = .ok (.iconst 1, 1) := by decide +kernel
theorem eRe_readJob_10 : decode prog_8_method_28_code 10 = .ok (.isub, 1) := by decide +kernel
theorem eRe_readJob_11 : decode prog_8_method_28_code 11 = .ok (.invokevirtual 132, 3) := by decide +kernel
theorem eRe_readJob_14 : decode prog_8_method_28_code 14 = .ok (.istore_n 2, 1) := by decide +kernel
theorem eRe_readJob_15 : decode prog_8_method_28_code 15 = .ok (.aload_n 0, 1) := by decide +kernel
theorem eRe_readJob_16 : decode prog_8_method_28_code 16 = .ok (.iconst 0, 1) := by decide +kernel
theorem eRe_readJob_17 : decode prog_8_method_28_code 17 = .ok (.aload_n 0, 1) := by decide +kernel
theorem eRe_readJob_18 : decode prog_8_method_28_code 18 = .ok (.getfield 18, 3) := by decide +kernel
theorem eRe_readJob_21 : decode prog_8_method_28_code 21 = .ok (.getfield 135, 3) := by decide +kernel
theorem eRe_readJob_24 : decode prog_8_method_28_code 24 = .ok (.iconst 1, 1) := by decide +kernel
theorem eRe_readJob_25 : decode prog_8_method_28_code 25 = .ok (.isub, 1) := by decide +kernel
theorem eRe_readJob_26 : decode prog_8_method_28_code 26 = .ok (.invokevirtual 132, 3) := by decide +kernel
theorem eRe_readJob_29 : decode prog_8_method_28_code 29 = .ok (.istore_n 3, 1) := by decide +kernel
theorem eRe_readJob_30 : decode prog_8_method_28_code 30 = .ok (.iload_n 3, 1) := by decide +kernel
theorem eRe_readJob_31 : decode prog_8_method_28_code 31 = .ok (.iload_n 2, 1) := by decide +kernel
theorem eRe_readJob_32 : decode prog_8_method_28_code 32 = .ok (.if_icmp .ne 8, 3) := by decide +kernel
theorem eRe_readJob_35 : decode prog_8_method_28_code 35 = .ok (.aload_n 0, 1) := by decide +kernel
theorem eRe_readJob_36 : decode prog_8_method_28_code 36 = .ok (.iconst 2, 1) := by decide +kernel
theorem eRe_readJob_37 : decode prog_8_method_28_code 37 = .ok (.invokevirtual 126, 3) := by decide +kernel
theorem eRe_readJob_40 : decode prog_8_method_28_code 40 = .ok (.iload_n 1, 1) := by decide +kernel
theorem eRe_readJob_41 : decode prog_8_method_28_code 41 = .ok (.ifCond .lt 28, 3) := by decide +kernel
theorem eRe_readJob_44 : decode prog_8_method_28_code 44 = .ok (.iload_n 1, 1) := by decide +kernel
theorem eRe_readJob_45 : decode prog_8_method_28_code 45 = .ok (.iconst 3, 1) := by decide +kernel
theorem eRe_readJob_46 : decode prog_8_method_28_code 46 = .ok (.if_icmp .ge 23, 3) := by decide +kernel
theorem eRe_readJob_49 : decode prog_8_method_28_code 49 = .ok (.aload_n 0, 1) := by decide +kernel
theorem eRe_readJob_50 : decode prog_8_method_28_code 50 = .ok (.getfield 18, 3) := by decide +kernel
theorem eRe_readJob_53 : decode prog_8_method_28_code 53 = .ok (.getfield 211, 3) := by decide +kernel
theorem eRe_readJob_56 : decode prog_8_method_28_code 56 = .ok (.iload_n 1, 1) := by decide +kernel
theorem eRe_readJob_57 : decode prog_8_method_28_code 57 = .ok (.iload_n 2, 1) := by decide +kernel
theorem eRe_readJob_58 : decode prog_8_method_28_code 58 = .ok (.iastore, 1) := by decide +kernel
theorem eRe_readJob_59 : decode prog_8_method_28_code 59 = .ok (.aload_n 0, 1) := by decide +kernel
theorem eRe_readJob_60 : decode prog_8_method_28_code 60 = .ok (.getfield 18, 3) := by decide +kernel
theorem eRe_readJob_63 : decode prog_8_method_28_code 63 = .ok (.getfield 214, 3) := by decide +kernel
theorem eRe_readJob_66 : decode prog_8_method_28_code 66 = .ok (.iload_n 1, 1) := by decide +kernel
theorem eRe_readJob_67 : decode prog_8_method_28_code 67 = .ok (.iload_n 3, 1) := by decide +kernel
theorem eRe_readJob_68 : decode prog_8_method_28_code 68 = .ok (.iastore, 1) := by decide +kernel
theorem eRe_readJob_69 : decode prog_8_method_28_code 69 = .ok (.return_, 1) := by decide +kernel
theorem eRo_init_0 : decode prog_9_method_1_code 0 = .ok (.aload_n 0, 1) := by decide +kernel
theorem eRo_init_1 : decode prog_9_method_1_code 1 = .ok (.invokespecial 3, 3) := by decide +kernel
theorem eRo_init_4 : decode prog_9_method_1_code 4 = .ok (.aload_n 0, 1) := by decide +kernel
theorem eRo_init_5 : decode prog_9_method_1_code 5 = .ok (.aload_n 1, 1) := by decide +kernel
theorem eRo_init_6 : decode prog_9_method_1_code 6 = .ok (.putfield 9, 3) := by decide +kernel
theorem eRo_init_9 : decode prog_9_method_1_code 9 = .ok (.aload_n 0, 1) := by decide +kernel
theorem eRo_init_10 : decode prog_9_method_1_code 10 = .ok (.aload_n 2, 1) := by decide +kernel
theorem eRo_init_11 : decode prog_9_method_1_code 11 = .ok (.putfield 15, 3) := by decide +kernel
theorem eRo_init_14 : decode prog_9_method_1_code 14 = .ok (.aload_n 0, 1) := by decide +kernel
theorem eRo_init_15 : decode prog_9_method_1_code 15 = .ok (.bipush 6, 2) := by decide +kernel
theorem eRo_init_17 : decode prog_9_method_1_code 17 = .ok (.newarray .int, 2) := by decide +kernel
theorem eRo_init_19 : decode prog_9_method_1_code 19 = .ok (.putfield 19, 3) := by decide +kernel
theorem eRo_init_22 : decode prog_9_method_1_code 22 = .ok (.aload_n 0, 1) := by decide +kernel
theorem eRo_init_23 : decode prog_9_method_1_code 23 = .ok (.bipush 6, 2) := by decide +kernel
theorem eRo_init_25 : decode prog_9_method_1_code 25 = .ok (.newarray .int, 2) := by decide +kernel
theorem eRo_init_27 : decode prog_9_method_1_code 27 = .ok (.putfield 23, 3) := by decide +kernel
theorem eRo_init_30 : decode prog_9_method_1_code 30 = .ok (.aload_n 0, 1) := by decide +kernel
theorem eRo_init_31 : decode prog_9_method_1_code 31 = .ok (.iconst (-1), 1) := by decide +kernel
theorem eRo_init_32 : decode prog_9_method_1_code 32 = .ok (.putfield 26, 3) := by decide +kernel
theorem eRo_init_35 : decode prog_9_method_1_code 35 = .ok (.return_, 1) := by decide +kernel
theorem eRo_fewestInAll_0 : decode prog_9_method_2_code 0 = .ok (.aload_n 0, 1) := by decide +kernel
theorem eRo_fewestInAll_1 : decode prog_9_method_2_code 1 = .ok (.getfield 26, 3) := by decide +kernel
theorem eRo_fewestInAll_4 : decode prog_9_method_2_code 4 = .ok (.aload_n 0, 1) := by decide +kernel
theorem eRo_fewestInAll_5 : decode prog_9_method_2_code 5 = .ok (.getfield 15, 3) := by decide +kernel
theorem eRo_fewestInAll_8 : decode prog_9_method_2_code 8 = .ok (.getfield 30, 3) := by decide +kernel
theorem eRo_fewestInAll_11 : decode prog_9_method_2_code 11 = .ok (.if_icmp .eq 27, 3) := by decide +kernel
theorem eRo_fewestInAll_14 : decode prog_9_method_2_code 14 = .ok (.aload_n 0, 1) := by decide +kernel
theorem eRo_fewestInAll_15 : decode prog_9_method_2_code 15 = .ok (.bipush (-2), 2) := by decide +kernel
theorem eRo_fewestInAll_17 : decode prog_9_method_2_code 17 = .ok (.putfield 33, 3) := by decide +kernel
theorem eRo_fewestInAll_20 : decode prog_9_method_2_code 20 = .ok (.aload_n 0, 1) := by decide +kernel
theorem eRo_fewestInAll_21 : decode prog_9_method_2_code 21 = .ok (.iconst 0, 1) := by decide +kernel
theorem eRo_fewestInAll_22 : decode prog_9_method_2_code 22 = .ok (.iconst 0, 1) := by decide +kernel
theorem eRo_fewestInAll_23 : decode prog_9_method_2_code 23 = .ok (.iconst 0, 1) := by decide +kernel
theorem eRo_fewestInAll_24 : decode prog_9_method_2_code 24 = .ok (.invokevirtual 36, 3) := by decide +kernel
theorem eRo_fewestInAll_27 : decode prog_9_method_2_code 27 = .ok (.aload_n 0, 1) := by decide +kernel
theorem eRo_fewestInAll_28 : decode prog_9_method_2_code 28 = .ok (.aload_n 0, 1) := by decide +kernel
theorem eRo_fewestInAll_29 : decode prog_9_method_2_code 29 = .ok (.getfield 15, 3) := by decide +kernel
theorem eRo_fewestInAll_32 : decode prog_9_method_2_code 32 = .ok (.getfield 30, 3) := by decide +kernel
theorem eRo_fewestInAll_35 : decode prog_9_method_2_code 35 = .ok (.putfield 26, 3) := by decide +kernel
theorem eRo_fewestInAll_38 : decode prog_9_method_2_code 38 = .ok (.aload_n 0, 1) := by decide +kernel
theorem eRo_fewestInAll_39 : decode prog_9_method_2_code 39 = .ok (.getfield 33, 3) := by decide +kernel
theorem eRo_fewestInAll_42 : decode prog_9_method_2_code 42 = .ok (.ireturn, 1) := by decide +kernel
theorem eRo_goOn_0 : decode prog_9_method_3_code 0 = .ok (.aload_n 0, 1) := by decide +kernel
theorem eRo_goOn_1 : decode prog_9_method_3_code 1 = .ok (.getfield 33, 3) := by decide +kernel
theorem eRo_goOn_4 : decode prog_9_method_3_code 4 = .ok (.ifCond .lt 12, 3) := by decide +kernel
theorem eRo_goOn_7 : decode prog_9_method_3_code 7 = .ok (.iload_n 3, 1) := by decide +kernel
theorem eRo_goOn_8 : decode prog_9_method_3_code 8 = .ok (.aload_n 0, 1) := by decide +kernel
theorem eRo_goOn_9 : decode prog_9_method_3_code 9 = .ok (.getfield 33, 3) := by decide +kernel
theorem eRo_goOn_12 : decode prog_9_method_3_code 12 = .ok (.if_icmp .lt 4, 3) := by decide +kernel
theorem eRo_goOn_15 : decode prog_9_method_3_code 15 = .ok (.return_, 1) := by decide +kernel
theorem eRo_goOn_16 : decode prog_9_method_3_code 16 = .ok (.iload_n 1, 1) := by decide +kernel
theorem eRo_goOn_17 : decode prog_9_method_3_code 17 = .ok (.aload_n 0, 1) := by decide +kernel
theorem eRo_goOn_18 : decode prog_9_method_3_code 18 = .ok (.getfield 9, 3) := by decide +kernel
theorem eRo_goOn_21 : decode prog_9_method_3_code 21 = .ok (.getfield 40, 3) := by decide +kernel
theorem eRo_goOn_24 : decode prog_9_method_3_code 24 = .ok (.iconst 5, 1) := by decide +kernel
theorem eRo_goOn_25 : decode prog_9_method_3_code 25 = .ok (.iaload, 1) := by decide +kernel
theorem eRo_goOn_26 : decode prog_9_method_3_code 26 = .ok (.if_icmp .ge 12, 3) := by decide +kernel
theorem eRo_goOn_29 : decode prog_9_method_3_code 29 = .ok (.iload_n 1, 1) := by decide +kernel
theorem eRo_goOn_30 : decode prog_9_method_3_code 30 = .ok (.aload_n 0, 1) := by decide +kernel
theorem eRo_goOn_31 : decode prog_9_method_3_code 31 = .ok (.getfield 19, 3) := by decide +kernel
theorem eRo_goOn_34 : decode prog_9_method_3_code 34 = .ok (.arraylength, 1) := by decide +kernel
theorem eRo_goOn_35 : decode prog_9_method_3_code 35 = .ok (.if_icmp .lt 20, 3) := by decide +kernel
theorem eRo_goOn_38 : decode prog_9_method_3_code 38 = .ok (.aload_n 0, 1) := by decide +kernel
theorem eRo_goOn_39 : decode prog_9_method_3_code 39 = .ok (.iload_n 3, 1) := by decide +kernel
theorem eRo_goOn_40 : decode prog_9_method_3_code 40 = .ok (.putfield 33, 3) := by decide +kernel
theorem eRo_goOn_43 : decode prog_9_method_3_code 43 = .ok (.aload_n 0, 1) := by decide +kernel
theorem eRo_goOn_44 : decode prog_9_method_3_code 44 = .ok (.getfield 19, 3) := by decide +kernel
theorem eRo_goOn_47 : decode prog_9_method_3_code 47 = .ok (.aload_n 0, 1) := by decide +kernel
theorem eRo_goOn_48 : decode prog_9_method_3_code 48 = .ok (.getfield 23, 3) := by decide +kernel
theorem eRo_goOn_51 : decode prog_9_method_3_code 51 = .ok (.invokestatic 45, 3) := by decide +kernel
theorem eRo_goOn_54 : decode prog_9_method_3_code 54 = .ok (.return_, 1) := by decide +kernel
theorem eRo_goOn_55 : decode prog_9_method_3_code 55 = .ok (.iconst 0, 1) := by decide +kernel
theorem eRo_goOn_56 : decode prog_9_method_3_code 56 = .ok (.istore 4, 2) := by decide +kernel
theorem eRo_goOn_58 : decode prog_9_method_3_code 58 = .ok (.iload 4, 2) := by decide +kernel
theorem eRo_goOn_60 : decode prog_9_method_3_code 60 = .ok (.aload_n 0, 1) := by decide +kernel
theorem eRo_goOn_61 : decode prog_9_method_3_code 61 = .ok (.getfield 9, 3) := by decide +kernel
theorem eRo_goOn_64 : decode prog_9_method_3_code 64 = .ok (.getfield 40, 3) := by decide +kernel
theorem eRo_goOn_67 : decode prog_9_method_3_code 67 = .ok (.iconst 5, 1) := by decide +kernel
theorem eRo_goOn_68 : decode prog_9_method_3_code 68 = .ok (.iaload, 1) := by decide +kernel
theorem eRo_goOn_69 : decode prog_9_method_3_code 69 = .ok (.if_icmp .ge 88, 3) := by decide +kernel
theorem eRo_goOn_72 : decode prog_9_method_3_code 72 = .ok (.iload_n 2, 1) := by decide +kernel
theorem eRo_goOn_73 : decode prog_9_method_3_code 73 = .ok (.iload 4, 2) := by decide +kernel
theorem eRo_goOn_75 : decode prog_9_method_3_code 75 = .ok (.ishr, 1) := by decide +kernel
theorem eRo_goOn_76 : decode prog_9_method_3_code 76 = .ok (.iconst 1, 1) := by decide +kernel
theorem eRo_goOn_77 : decode prog_9_method_3_code 77 = .ok (.iand, 1) := by decide +kernel
theorem eRo_goOn_78 : decode prog_9_method_3_code 78 = .ok (.ifCond .ne 73, 3) := by decide +kernel
theorem eRo_goOn_81 : decode prog_9_method_3_code 81 = .ok (.iload_n 1, 1) := by decide +kernel
theorem eRo_goOn_82 : decode prog_9_method_3_code 82 = .ok (.iconst 1, 1) := by decide +kernel
theorem eRo_goOn_83 : decode prog_9_method_3_code 83 = .ok (.if_icmp .ge 15, 3) := by decide +kernel
theorem eRo_goOn_86 : decode prog_9_method_3_code 86 = .ok (.aload_n 0, 1) := by decide +kernel
theorem eRo_goOn_87 : decode prog_9_method_3_code 87 = .ok (.getfield 15, 3) := by decide +kernel
theorem eRo_goOn_90 : decode prog_9_method_3_code 90 = .ok (.iload 4, 2) := by decide +kernel
theorem eRo_goOn_92 : decode prog_9_method_3_code 92 = .ok (.invokevirtual 49, 3) := by decide +kernel
theorem eRo_goOn_95 : decode prog_9_method_3_code 95 = .ok (.goto 20, 3) := by decide +kernel
theorem eRo_goOn_98 : decode prog_9_method_3_code 98 = .ok (.aload_n 0, 1) := by decide +kernel
theorem eRo_goOn_99 : decode prog_9_method_3_code 99 = .ok (.getfield 15, 3) := by decide +kernel
theorem eRo_goOn_102 : decode prog_9_method_3_code 102 = .ok (.aload_n 0, 1) := by decide +kernel
theorem eRo_goOn_103 : decode prog_9_method_3_code 103 = .ok (.getfield 19, 3) := by decide +kernel
theorem eRo_goOn_106 : decode prog_9_method_3_code 106 = .ok (.iload_n 1, 1) := by decide +kernel
theorem eRo_goOn_107 : decode prog_9_method_3_code 107 = .ok (.iconst 1, 1) := by decide +kernel
theorem eRo_goOn_108 : decode prog_9_method_3_code 108 = .ok (.isub, 1) := by decide +kernel
theorem eRo_goOn_109 : decode prog_9_method_3_code 109 = .ok (.iaload, 1) := by decide +kernel
theorem eRo_goOn_110 : decode prog_9_method_3_code 110 = .ok (.iload 4, 2) := by decide +kernel
theorem eRo_goOn_112 : decode prog_9_method_3_code 112 = .ok (.invokevirtual 53, 3) := by decide +kernel
theorem eRo_goOn_115 : decode prog_9_method_3_code 115 = .ok (.istore 5, 2) := by decide +kernel
theorem eRo_goOn_117 : decode prog_9_method_3_code 117 = .ok (.iload 5, 2) := by decide +kernel
theorem eRo_goOn_119 : decode prog_9_method_3_code 119 = .ok (.ifCond .lt 32, 3) := by decide +kernel
theorem eRo_goOn_122 : decode prog_9_method_3_code 122 = .ok (.iload_n 1, 1) := by decide +kernel
theorem eRo_goOn_123 : decode prog_9_method_3_code 123 = .ok (.ifCond .lt 28, 3) := by decide +kernel
theorem eRo_goOn_126 : decode prog_9_method_3_code 126 = .ok (.aload_n 0, 1) := by decide +kernel
theorem eRo_goOn_127 : decode prog_9_method_3_code 127 = .ok (.getfield 19, 3) := by decide +kernel
theorem eRo_goOn_130 : decode prog_9_method_3_code 130 = .ok (.iload_n 1, 1) := by decide +kernel
theorem eRo_goOn_131 : decode prog_9_method_3_code 131 = .ok (.iload 4, 2) := by decide +kernel
theorem eRo_goOn_133 : decode prog_9_method_3_code 133 = .ok (.iastore, 1) := by decide +kernel
theorem eRo_goOn_134 : decode prog_9_method_3_code 134 = .ok (.aload_n 0, 1) := by decide +kernel
theorem eRo_goOn_135 : decode prog_9_method_3_code 135 = .ok (.iload_n 1, 1) := by decide +kernel
theorem eRo_goOn_136 : decode prog_9_method_3_code 136 = .ok (.iconst 1, 1) := by decide +kernel
theorem eRo_goOn_137 : decode prog_9_method_3_code 137 = .ok (.iadd, 1) := by decide +kernel
theorem eRo_goOn_138 : decode prog_9_method_3_code 138 = .ok (.iload_n 2, 1) := by decide +kernel
theorem eRo_goOn_139 : decode prog_9_method_3_code 139 = .ok (.iconst 1, 1) := by decide +kernel
theorem eRo_goOn_140 : decode prog_9_method_3_code 140 = .ok (.iload 4, 2) := by decide +kernel
theorem eRo_goOn_142 : decode prog_9_method_3_code 142 = .ok (.ishl, 1) := by decide +kernel
theorem eRo_goOn_143 : decode prog_9_method_3_code 143 = .ok (.ior, 1) := by decide +kernel
theorem eRo_goOn_144 : decode prog_9_method_3_code 144 = .ok (.iload_n 3, 1) := by decide +kernel
theorem eRo_goOn_145 : decode prog_9_method_3_code 145 = .ok (.iload 5, 2) := by decide +kernel
theorem eRo_goOn_147 : decode prog_9_method_3_code 147 = .ok (.iadd, 1) := by decide +kernel
theorem eRo_goOn_148 : decode prog_9_method_3_code 148 = .ok (.invokevirtual 36, 3) := by decide +kernel
theorem eRo_goOn_151 : decode prog_9_method_3_code 151 = .ok (.iinc 4 1, 3) := by decide +kernel
theorem eRo_goOn_154 : decode prog_9_method_3_code 154 = .ok (.goto (-96), 3) := by decide +kernel
theorem eRo_goOn_157 : decode prog_9_method_3_code 157 = .ok (.return_, 1) := by decide +kernel
theorem eSe_init_0 : decode prog_10_method_1_code 0 = .ok (.aload_n 0, 1) := by decide +kernel
theorem eSe_init_1 : decode prog_10_method_1_code 1 = .ok (.invokespecial 3, 3) := by decide +kernel
theorem eSe_init_4 : decode prog_10_method_1_code 4 = .ok (.aload_n 0, 1) := by decide +kernel
theorem eSe_init_5 : decode prog_10_method_1_code 5 = .ok (.iconst 0, 1) := by decide +kernel
theorem eSe_init_6 : decode prog_10_method_1_code 6 = .ok (.newarray .int, 2) := by decide +kernel
theorem eSe_init_8 : decode prog_10_method_1_code 8 = .ok (.putfield 9, 3) := by decide +kernel
theorem eSe_init_11 : decode prog_10_method_1_code 11 = .ok (.aload_n 0, 1) := by decide +kernel
theorem eSe_init_12 : decode prog_10_method_1_code 12 = .ok (.iconst 0, 1) := by decide +kernel
theorem eSe_init_13 : decode prog_10_method_1_code 13 = .ok (.newarray .int, 2) := by decide +kernel
theorem eSe_init_15 : decode prog_10_method_1_code 15 = .ok (.putfield 15, 3) := by decide +kernel
theorem eSe_init_18 : decode prog_10_method_1_code 18 = .ok (.aload_n 0, 1) := by decide +kernel
theorem eSe_init_19 : decode prog_10_method_1_code 19 = .ok (.aload_n 1, 1) := by decide +kernel
theorem eSe_init_20 : decode prog_10_method_1_code 20 = .ok (.putfield 18, 3) := by decide +kernel
theorem eSe_init_23 : decode prog_10_method_1_code 23 = .ok (.aload_n 0, 1) := by decide +kernel
theorem eSe_init_24 : decode prog_10_method_1_code 24 = .ok (.new 22, 3) := by decide +kernel
theorem eSe_init_27 : decode prog_10_method_1_code 27 = .ok (.dup, 1) := by decide +kernel
theorem eSe_init_28 : decode prog_10_method_1_code 28 = .ok (.invokespecial 24, 3) := by decide +kernel
theorem eSe_init_31 : decode prog_10_method_1_code 31 = .ok (.putfield 25, 3) := by decide +kernel
theorem eSe_init_34 : decode prog_10_method_1_code 34 = .ok (.aload_n 0, 1) := by decide +kernel
theorem eSe_init_35 : decode prog_10_method_1_code 35 = .ok (.new 22, 3) := by decide +kernel
theorem eSe_init_38 : decode prog_10_method_1_code 38 = .ok (.dup, 1) := by decide +kernel
theorem eSe_init_39 : decode prog_10_method_1_code 39 = .ok (.invokespecial 24, 3) := by decide +kernel
theorem eSe_init_42 : decode prog_10_method_1_code 42 = .ok (.putfield 29, 3) := by decide +kernel
theorem eSe_init_45 : decode prog_10_method_1_code 45 = .ok (.return_, 1) := by decide +kernel
theorem eSe_begin_0 : decode prog_10_method_2_code 0 = .ok (.aload_n 0, 1) := by decide +kernel
theorem eSe_begin_1 : decode prog_10_method_2_code 1 = .ok (.aload_n 1, 1) := by decide +kernel
theorem eSe_begin_2 : decode prog_10_method_2_code 2 = .ok (.putfield 18, 3) := by decide +kernel
theorem eSe_begin_5 : decode prog_10_method_2_code 5 = .ok (.aload_n 0, 1) := by decide +kernel
theorem eSe_begin_6 : decode prog_10_method_2_code 6 = .ok (.iload_n 2, 1) := by decide +kernel
theorem eSe_begin_7 : decode prog_10_method_2_code 7 = .ok (.putfield 32, 3) := by decide +kernel
theorem eSe_begin_10 : decode prog_10_method_2_code 10 = .ok (.aload_n 0, 1) := by decide +kernel
theorem eSe_begin_11 : decode prog_10_method_2_code 11 = .ok (.iload_n 3, 1) := by decide +kernel
theorem eSe_begin_12 : decode prog_10_method_2_code 12 = .ok (.putfield 36, 3) := by decide +kernel
theorem eSe_begin_15 : decode prog_10_method_2_code 15 = .ok (.aload_n 0, 1) := by decide +kernel
theorem eSe_begin_16 : decode prog_10_method_2_code 16 = .ok (.iload 4, 2) := by decide +kernel
theorem eSe_begin_18 : decode prog_10_method_2_code 18 = .ok (.putfield 40, 3) := by decide +kernel
theorem eSe_begin_21 : decode prog_10_method_2_code 21 = .ok (.aload_n 0, 1) := by decide +kernel
theorem eSe_begin_22 : decode prog_10_method_2_code 22 = .ok (.iconst 0, 1) := by decide +kernel
theorem eSe_begin_23 : decode prog_10_method_2_code 23 = .ok (.putfield 43, 3) := by decide +kernel
theorem eSe_begin_26 : decode prog_10_method_2_code 26 = .ok (.aload_n 0, 1) := by decide +kernel
theorem eSe_begin_27 : decode prog_10_method_2_code 27 = .ok (.iconst 0, 1) := by decide +kernel
theorem eSe_begin_28 : decode prog_10_method_2_code 28 = .ok (.putfield 46, 3) := by decide +kernel
theorem eSe_begin_31 : decode prog_10_method_2_code 31 = .ok (.aload_n 1, 1) := by decide +kernel
theorem eSe_begin_32 : decode prog_10_method_2_code 32 = .ok (.getfield 49, 3) := by decide +kernel
theorem eSe_begin_35 : decode prog_10_method_2_code 35 = .ok (.istore 5, 2) := by decide +kernel
theorem eSe_begin_37 : decode prog_10_method_2_code 37 = .ok (.iload 5, 2) := by decide +kernel
theorem eSe_begin_39 : decode prog_10_method_2_code 39 = .ok (.aload_n 0, 1) := by decide +kernel
theorem eSe_begin_40 : decode prog_10_method_2_code 40 = .ok (.getfield 9, 3) := by decide +kernel
theorem eSe_begin_43 : decode prog_10_method_2_code 43 = .ok (.arraylength, 1) := by decide +kernel
theorem eSe_begin_44 : decode prog_10_method_2_code 44 = .ok (.if_icmp .le 45, 3) := by decide +kernel
theorem eSe_begin_47 : decode prog_10_method_2_code 47 = .ok (.iload 5, 2) := by decide +kernel
theorem eSe_begin_49 : decode prog_10_method_2_code 49 = .ok (.ldc 54, 2) := by decide +kernel
theorem eSe_begin_51 : decode prog_10_method_2_code 51 = .ok (.if_icmp .gt 38, 3) := by decide +kernel
theorem eSe_begin_54 : decode prog_10_method_2_code 54 = .ok (.iload 5, 2) := by decide +kernel
theorem eSe_begin_56 : decode prog_10_method_2_code 56 = .ok (.ldc 54, 2) := by decide +kernel
theorem eSe_begin_58 : decode prog_10_method_2_code 58 = .ok (.iconst 2, 1) := by decide +kernel
theorem eSe_begin_59 : decode prog_10_method_2_code 59 = .ok (.aload_n 0, 1) := by decide +kernel
theorem eSe_begin_60 : decode prog_10_method_2_code 60 = .ok (.getfield 9, 3) := by decide +kernel
theorem eSe_begin_63 : decode prog_10_method_2_code 63 = .ok (.arraylength, 1) := by decide +kernel
theorem eSe_begin_64 : decode prog_10_method_2_code 64 = .ok (.imul, 1) := by decide +kernel
theorem eSe_begin_65 : decode prog_10_method_2_code 65 = .ok (.invokestatic 55, 3) := by decide +kernel
theorem eSe_begin_68 : decode prog_10_method_2_code 68 = .ok (.invokestatic 61, 3) := by decide +kernel
theorem eSe_begin_71 : decode prog_10_method_2_code 71 = .ok (.istore 6, 2) := by decide +kernel
theorem eSe_begin_73 : decode prog_10_method_2_code 73 = .ok (.aload_n 0, 1) := by decide +kernel
theorem eSe_begin_74 : decode prog_10_method_2_code 74 = .ok (.iload 6, 2) := by decide +kernel
theorem eSe_begin_76 : decode prog_10_method_2_code 76 = .ok (.newarray .int, 2) := by decide +kernel
theorem eSe_begin_78 : decode prog_10_method_2_code 78 = .ok (.putfield 9, 3) := by decide +kernel
theorem eSe_begin_81 : decode prog_10_method_2_code 81 = .ok (.aload_n 0, 1) := by decide +kernel
theorem eSe_begin_82 : decode prog_10_method_2_code 82 = .ok (.iload 6, 2) := by decide +kernel
theorem eSe_begin_84 : decode prog_10_method_2_code 84 = .ok (.newarray .int, 2) := by decide +kernel
theorem eSe_begin_86 : decode prog_10_method_2_code 86 = .ok (.putfield 15, 3) := by decide +kernel
theorem eSe_begin_89 : decode prog_10_method_2_code 89 = .ok (.iconst 0, 1) := by decide +kernel
theorem eSe_begin_90 : decode prog_10_method_2_code 90 = .ok (.istore 6, 2) := by decide +kernel
theorem eSe_begin_92 : decode prog_10_method_2_code 92 = .ok (.iload 6, 2) := by decide +kernel
theorem eSe_begin_94 : decode prog_10_method_2_code 94 = .ok (.iload 5, 2) := by decide +kernel
theorem eSe_begin_96 : decode prog_10_method_2_code 96 = .ok (.if_icmp .ge 27, 3) := by decide +kernel
theorem eSe_begin_99 : decode prog_10_method_2_code 99 = .ok (.iload 6, 2) := by decide +kernel
theorem eSe_begin_101 : decode prog_10_method_2_code 101 = .ok (.aload_n 0, 1) := by decide +kernel
theorem eSe_begin_102 : decode prog_10_method_2_code 102 = .ok (.getfield 9, 3) := by decide +kernel
theorem eSe_begin_105 : decode prog_10_method_2_code 105 = .ok (.arraylength, 1) := by decide +kernel
theorem eSe_begin_106 : decode prog_10_method_2_code 106 = .ok (.if_icmp .ge 17, 3) := by decide +kernel
theorem eSe_begin_109 : decode prog_10_method_2_code 109 = .ok (.aload_n 0, 1) := by decide +kernel
theorem eSe_begin_110 : decode prog_10_method_2_code 110 = .ok (.getfield 9, 3) := by decide +kernel
theorem eSe_begin_113 : decode prog_10_method_2_code 113 = .ok (.iload 6, 2) := by decide +kernel
theorem eSe_begin_115 : decode prog_10_method_2_code 115 = .ok (.iconst 0, 1) := by decide +kernel
theorem eSe_begin_116 : decode prog_10_method_2_code 116 = .ok (.iastore, 1) := by decide +kernel
theorem eSe_begin_117 : decode prog_10_method_2_code 117 = .ok (.iinc 6 1, 3) := by decide +kernel
theorem eSe_begin_120 : decode prog_10_method_2_code 120 = .ok (.goto (-28), 3) := by decide +kernel
theorem eSe_begin_123 : decode prog_10_method_2_code 123 = .ok (.return_, 1) := by decide +kernel
theorem eSe_seed_0 : decode prog_10_method_3_code 0 = .ok (.aload_n 0, 1) := by decide +kernel
theorem eSe_seed_1 : decode prog_10_method_3_code 1 = .ok (.getfield 18, 3) := by decide +kernel
theorem eSe_seed_4 : decode prog_10_method_3_code 4 = .ok (.aload_n 1, 1) := by decide +kernel
theorem eSe_seed_5 : decode prog_10_method_3_code 5 = .ok (.invokevirtual 64, 3) := by decide +kernel
theorem eSe_seed_8 : decode prog_10_method_3_code 8 = .ok (.istore_n 2, 1) := by decide +kernel
theorem eSe_seed_9 : decode prog_10_method_3_code 9 = .ok (.iload_n 2, 1) := by decide +kernel
theorem eSe_seed_10 : decode prog_10_method_3_code 10 = .ok (.ifCond .lt 62, 3) := by decide +kernel
theorem eSe_seed_13 : decode prog_10_method_3_code 13 = .ok (.iload_n 2, 1) := by decide +kernel
theorem eSe_seed_14 : decode prog_10_method_3_code 14 = .ok (.aload_n 0, 1) := by decide +kernel
theorem eSe_seed_15 : decode prog_10_method_3_code 15 = .ok (.getfield 9, 3) := by decide +kernel
theorem eSe_seed_18 : decode prog_10_method_3_code 18 = .ok (.arraylength, 1) := by decide +kernel
