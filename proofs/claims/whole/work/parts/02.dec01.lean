theorem eSe_seed_19 : decode prog_10_method_3_code 19 = .ok (.if_icmp .ge 53, 3) := by decide +kernel
theorem eSe_seed_22 : decode prog_10_method_3_code 22 = .ok (.aload_n 0, 1) := by decide +kernel
theorem eSe_seed_23 : decode prog_10_method_3_code 23 = .ok (.getfield 46, 3) := by decide +kernel
theorem eSe_seed_26 : decode prog_10_method_3_code 26 = .ok (.ifCond .lt 46, 3) := by decide +kernel
theorem eSe_seed_29 : decode prog_10_method_3_code 29 = .ok (.aload_n 0, 1) := by decide +kernel
theorem eSe_seed_30 : decode prog_10_method_3_code 30 = .ok (.getfield 46, 3) := by decide +kernel
theorem eSe_seed_33 : decode prog_10_method_3_code 33 = .ok (.aload_n 0, 1) := by decide +kernel
theorem eSe_seed_34 : decode prog_10_method_3_code 34 = .ok (.getfield 15, 3) := by decide +kernel
theorem eSe_seed_37 : decode prog_10_method_3_code 37 = .ok (.arraylength, 1) := by decide +kernel
theorem eSe_seed_38 : decode prog_10_method_3_code 38 = .ok (.if_icmp .ge 34, 3) := by decide +kernel
theorem eSe_seed_41 : decode prog_10_method_3_code 41 = .ok (.aload_n 0, 1) := by decide +kernel
theorem eSe_seed_42 : decode prog_10_method_3_code 42 = .ok (.getfield 9, 3) := by decide +kernel
theorem eSe_seed_45 : decode prog_10_method_3_code 45 = .ok (.iload_n 2, 1) := by decide +kernel
theorem eSe_seed_46 : decode prog_10_method_3_code 46 = .ok (.bipush 10, 2) := by decide +kernel
theorem eSe_seed_48 : decode prog_10_method_3_code 48 = .ok (.iastore, 1) := by decide +kernel
theorem eSe_seed_49 : decode prog_10_method_3_code 49 = .ok (.aload_n 0, 1) := by decide +kernel
theorem eSe_seed_50 : decode prog_10_method_3_code 50 = .ok (.getfield 15, 3) := by decide +kernel
theorem eSe_seed_53 : decode prog_10_method_3_code 53 = .ok (.aload_n 0, 1) := by decide +kernel
theorem eSe_seed_54 : decode prog_10_method_3_code 54 = .ok (.getfield 46, 3) := by decide +kernel
theorem eSe_seed_57 : decode prog_10_method_3_code 57 = .ok (.aload_n 1, 1) := by decide +kernel
theorem eSe_seed_58 : decode prog_10_method_3_code 58 = .ok (.invokevirtual 68, 3) := by decide +kernel
theorem eSe_seed_61 : decode prog_10_method_3_code 61 = .ok (.iastore, 1) := by decide +kernel
theorem eSe_seed_62 : decode prog_10_method_3_code 62 = .ok (.aload_n 0, 1) := by decide +kernel
theorem eSe_seed_63 : decode prog_10_method_3_code 63 = .ok (.dup, 1) := by decide +kernel
theorem eSe_seed_64 : decode prog_10_method_3_code 64 = .ok (.getfield 46, 3) := by decide +kernel
theorem eSe_seed_67 : decode prog_10_method_3_code 67 = .ok (.iconst 1, 1) := by decide +kernel
theorem eSe_seed_68 : decode prog_10_method_3_code 68 = .ok (.iadd, 1) := by decide +kernel
theorem eSe_seed_69 : decode prog_10_method_3_code 69 = .ok (.putfield 46, 3) := by decide +kernel
theorem eSe_seed_72 : decode prog_10_method_3_code 72 = .ok (.return_, 1) := by decide +kernel
theorem eSe_stepsMet_0 : decode prog_10_method_4_code 0 = .ok (.iload_n 1, 1) := by decide +kernel
theorem eSe_stepsMet_1 : decode prog_10_method_4_code 1 = .ok (.ifCond .lt 21, 3) := by decide +kernel
theorem eSe_stepsMet_4 : decode prog_10_method_4_code 4 = .ok (.iload_n 1, 1) := by decide +kernel
theorem eSe_stepsMet_5 : decode prog_10_method_4_code 5 = .ok (.aload_n 0, 1) := by decide +kernel
theorem eSe_stepsMet_6 : decode prog_10_method_4_code 6 = .ok (.getfield 9, 3) := by decide +kernel
theorem eSe_stepsMet_9 : decode prog_10_method_4_code 9 = .ok (.arraylength, 1) := by decide +kernel
theorem eSe_stepsMet_10 : decode prog_10_method_4_code 10 = .ok (.if_icmp .ge 12, 3) := by decide +kernel
theorem eSe_stepsMet_13 : decode prog_10_method_4_code 13 = .ok (.aload_n 0, 1) := by decide +kernel
theorem eSe_stepsMet_14 : decode prog_10_method_4_code 14 = .ok (.getfield 9, 3) := by decide +kernel
theorem eSe_stepsMet_17 : decode prog_10_method_4_code 17 = .ok (.iload_n 1, 1) := by decide +kernel
theorem eSe_stepsMet_18 : decode prog_10_method_4_code 18 = .ok (.iaload, 1) := by decide +kernel
theorem eSe_stepsMet_19 : decode prog_10_method_4_code 19 = .ok (.ifCond .ne 6, 3) := by decide +kernel
theorem eSe_stepsMet_22 : decode prog_10_method_4_code 22 = .ok (.bipush (-2), 2) := by decide +kernel
theorem eSe_stepsMet_24 : decode prog_10_method_4_code 24 = .ok (.ireturn, 1) := by decide +kernel
theorem eSe_stepsMet_25 : decode prog_10_method_4_code 25 = .ok (.aload_n 0, 1) := by decide +kernel
theorem eSe_stepsMet_26 : decode prog_10_method_4_code 26 = .ok (.getfield 9, 3) := by decide +kernel
theorem eSe_stepsMet_29 : decode prog_10_method_4_code 29 = .ok (.iload_n 1, 1) := by decide +kernel
theorem eSe_stepsMet_30 : decode prog_10_method_4_code 30 = .ok (.iaload, 1) := by decide +kernel
theorem eSe_stepsMet_31 : decode prog_10_method_4_code 31 = .ok (.iconst 4, 1) := by decide +kernel
theorem eSe_stepsMet_32 : decode prog_10_method_4_code 32 = .ok (.ishr, 1) := by decide +kernel
theorem eSe_stepsMet_33 : decode prog_10_method_4_code 33 = .ok (.ireturn, 1) := by decide +kernel
theorem eSe_codeMet_0 : decode prog_10_method_5_code 0 = .ok (.iload_n 1, 1) := by decide +kernel
theorem eSe_codeMet_1 : decode prog_10_method_5_code 1 = .ok (.ifCond .lt 21, 3) := by decide +kernel
theorem eSe_codeMet_4 : decode prog_10_method_5_code 4 = .ok (.iload_n 1, 1) := by decide +kernel
theorem eSe_codeMet_5 : decode prog_10_method_5_code 5 = .ok (.aload_n 0, 1) := by decide +kernel
theorem eSe_codeMet_6 : decode prog_10_method_5_code 6 = .ok (.getfield 9, 3) := by decide +kernel
theorem eSe_codeMet_9 : decode prog_10_method_5_code 9 = .ok (.arraylength, 1) := by decide +kernel
theorem eSe_codeMet_10 : decode prog_10_method_5_code 10 = .ok (.if_icmp .ge 12, 3) := by decide +kernel
theorem eSe_codeMet_13 : decode prog_10_method_5_code 13 = .ok (.aload_n 0, 1) := by decide +kernel
theorem eSe_codeMet_14 : decode prog_10_method_5_code 14 = .ok (.getfield 9, 3) := by decide +kernel
theorem eSe_codeMet_17 : decode prog_10_method_5_code 17 = .ok (.iload_n 1, 1) := by decide +kernel
theorem eSe_codeMet_18 : decode prog_10_method_5_code 18 = .ok (.iaload, 1) := by decide +kernel
theorem eSe_codeMet_19 : decode prog_10_method_5_code 19 = .ok (.ifCond .ne 5, 3) := by decide +kernel
theorem eSe_codeMet_22 : decode prog_10_method_5_code 22 = .ok (.iconst (-1), 1) := by decide +kernel
theorem eSe_codeMet_23 : decode prog_10_method_5_code 23 = .ok (.ireturn, 1) := by decide +kernel
theorem eSe_codeMet_24 : decode prog_10_method_5_code 24 = .ok (.aload_n 0, 1) := by decide +kernel
theorem eSe_codeMet_25 : decode prog_10_method_5_code 25 = .ok (.getfield 9, 3) := by decide +kernel
theorem eSe_codeMet_28 : decode prog_10_method_5_code 28 = .ok (.iload_n 1, 1) := by decide +kernel
theorem eSe_codeMet_29 : decode prog_10_method_5_code 29 = .ok (.iaload, 1) := by decide +kernel
theorem eSe_codeMet_30 : decode prog_10_method_5_code 30 = .ok (.bipush 15, 2) := by decide +kernel
theorem eSe_codeMet_32 : decode prog_10_method_5_code 32 = .ok (.iand, 1) := by decide +kernel
theorem eSe_codeMet_33 : decode prog_10_method_5_code 33 = .ok (.iconst 1, 1) := by decide +kernel
theorem eSe_codeMet_34 : decode prog_10_method_5_code 34 = .ok (.isub, 1) := by decide +kernel
theorem eSe_codeMet_35 : decode prog_10_method_5_code 35 = .ok (.istore_n 2, 1) := by decide +kernel
theorem eSe_codeMet_36 : decode prog_10_method_5_code 36 = .ok (.iload_n 2, 1) := by decide +kernel
theorem eSe_codeMet_37 : decode prog_10_method_5_code 37 = .ok (.bipush 9, 2) := by decide +kernel
theorem eSe_codeMet_39 : decode prog_10_method_5_code 39 = .ok (.if_icmp .ge 7, 3) := by decide +kernel
theorem eSe_codeMet_42 : decode prog_10_method_5_code 42 = .ok (.iload_n 2, 1) := by decide +kernel
theorem eSe_codeMet_43 : decode prog_10_method_5_code 43 = .ok (.goto 4, 3) := by decide +kernel
theorem eSe_codeMet_46 : decode prog_10_method_5_code 46 = .ok (.iconst (-1), 1) := by decide +kernel
theorem eSe_codeMet_47 : decode prog_10_method_5_code 47 = .ok (.ireturn, 1) := by decide +kernel
theorem eSe_stepsTo_0 : decode prog_10_method_6_code 0 = .ok (.iload_n 1, 1) := by decide +kernel
theorem eSe_stepsTo_1 : decode prog_10_method_6_code 1 = .ok (.ifCond .lt 12, 3) := by decide +kernel
theorem eSe_stepsTo_4 : decode prog_10_method_6_code 4 = .ok (.iload_n 1, 1) := by decide +kernel
theorem eSe_stepsTo_5 : decode prog_10_method_6_code 5 = .ok (.aload_n 0, 1) := by decide +kernel
theorem eSe_stepsTo_6 : decode prog_10_method_6_code 6 = .ok (.getfield 9, 3) := by decide +kernel
theorem eSe_stepsTo_9 : decode prog_10_method_6_code 9 = .ok (.arraylength, 1) := by decide +kernel
theorem eSe_stepsTo_10 : decode prog_10_method_6_code 10 = .ok (.if_icmp .lt 6, 3) := by decide +kernel
theorem eSe_stepsTo_13 : decode prog_10_method_6_code 13 = .ok (.bipush (-2), 2) := by decide +kernel
theorem eSe_stepsTo_15 : decode prog_10_method_6_code 15 = .ok (.ireturn, 1) := by decide +kernel
theorem eSe_stepsTo_16 : decode prog_10_method_6_code 16 = .ok (.aload_n 0, 1) := by decide +kernel
theorem eSe_stepsTo_17 : decode prog_10_method_6_code 17 = .ok (.getfield 43, 3) := by decide +kernel
theorem eSe_stepsTo_20 : decode prog_10_method_6_code 20 = .ok (.aload_n 0, 1) := by decide +kernel
theorem eSe_stepsTo_21 : decode prog_10_method_6_code 21 = .ok (.getfield 46, 3) := by decide +kernel
theorem eSe_stepsTo_24 : decode prog_10_method_6_code 24 = .ok (.if_icmp .ge 50, 3) := by decide +kernel
theorem eSe_stepsTo_27 : decode prog_10_method_6_code 27 = .ok (.aload_n 0, 1) := by decide +kernel
theorem eSe_stepsTo_28 : decode prog_10_method_6_code 28 = .ok (.getfield 43, 3) := by decide +kernel
theorem eSe_stepsTo_31 : decode prog_10_method_6_code 31 = .ok (.aload_n 0, 1) := by decide +kernel
theorem eSe_stepsTo_32 : decode prog_10_method_6_code 32 = .ok (.getfield 15, 3) := by decide +kernel
theorem eSe_stepsTo_35 : decode prog_10_method_6_code 35 = .ok (.arraylength, 1) := by decide +kernel
theorem eSe_stepsTo_36 : decode prog_10_method_6_code 36 = .ok (.if_icmp .ge 38, 3) := by decide +kernel
theorem eSe_stepsTo_39 : decode prog_10_method_6_code 39 = .ok (.aload_n 0, 1) := by decide +kernel
theorem eSe_stepsTo_40 : decode prog_10_method_6_code 40 = .ok (.getfield 9, 3) := by decide +kernel
theorem eSe_stepsTo_43 : decode prog_10_method_6_code 43 = .ok (.iload_n 1, 1) := by decide +kernel
theorem eSe_stepsTo_44 : decode prog_10_method_6_code 44 = .ok (.iaload, 1) := by decide +kernel
theorem eSe_stepsTo_45 : decode prog_10_method_6_code 45 = .ok (.ifCond .ne 29, 3) := by decide +kernel
theorem eSe_stepsTo_48 : decode prog_10_method_6_code 48 = .ok (.aload_n 0, 1) := by decide +kernel
theorem eSe_stepsTo_49 : decode prog_10_method_6_code 49 = .ok (.aload_n 0, 1) := by decide +kernel
theorem eSe_stepsTo_50 : decode prog_10_method_6_code 50 = .ok (.getfield 43, 3) := by decide +kernel
theorem eSe_stepsTo_53 : decode prog_10_method_6_code 53 = .ok (.aload_n 0, 1) := by decide +kernel
theorem eSe_stepsTo_54 : decode prog_10_method_6_code 54 = .ok (.getfield 36, 3) := by decide +kernel
theorem eSe_stepsTo_57 : decode prog_10_method_6_code 57 = .ok (.iconst 1, 1) := by decide +kernel
theorem eSe_stepsTo_58 : decode prog_10_method_6_code 58 = .ok (.invokevirtual 72, 3) := by decide +kernel
theorem eSe_stepsTo_61 : decode prog_10_method_6_code 61 = .ok (.aload_n 0, 1) := by decide +kernel
theorem eSe_stepsTo_62 : decode prog_10_method_6_code 62 = .ok (.dup, 1) := by decide +kernel
theorem eSe_stepsTo_63 : decode prog_10_method_6_code 63 = .ok (.getfield 43, 3) := by decide +kernel
theorem eSe_stepsTo_66 : decode prog_10_method_6_code 66 = .ok (.iconst 1, 1) := by decide +kernel
theorem eSe_stepsTo_67 : decode prog_10_method_6_code 67 = .ok (.iadd, 1) := by decide +kernel
theorem eSe_stepsTo_68 : decode prog_10_method_6_code 68 = .ok (.putfield 43, 3) := by decide +kernel
theorem eSe_stepsTo_71 : decode prog_10_method_6_code 71 = .ok (.goto (-55), 3) := by decide +kernel
theorem eSe_stepsTo_74 : decode prog_10_method_6_code 74 = .ok (.aload_n 0, 1) := by decide +kernel
theorem eSe_stepsTo_75 : decode prog_10_method_6_code 75 = .ok (.iload_n 1, 1) := by decide +kernel
theorem eSe_stepsTo_76 : decode prog_10_method_6_code 76 = .ok (.invokevirtual 76, 3) := by decide +kernel
theorem eSe_stepsTo_79 : decode prog_10_method_6_code 79 = .ok (.ireturn, 1) := by decide +kernel
theorem eSe_countMet_0 : decode prog_10_method_7_code 0 = .ok (.aload_n 0, 1) := by decide +kernel
theorem eSe_countMet_1 : decode prog_10_method_7_code 1 = .ok (.getfield 43, 3) := by decide +kernel
theorem eSe_countMet_4 : decode prog_10_method_7_code 4 = .ok (.aload_n 0, 1) := by decide +kernel
theorem eSe_countMet_5 : decode prog_10_method_7_code 5 = .ok (.getfield 46, 3) := by decide +kernel
theorem eSe_countMet_8 : decode prog_10_method_7_code 8 = .ok (.if_icmp .ge 41, 3) := by decide +kernel
theorem eSe_countMet_11 : decode prog_10_method_7_code 11 = .ok (.aload_n 0, 1) := by decide +kernel
theorem eSe_countMet_12 : decode prog_10_method_7_code 12 = .ok (.getfield 43, 3) := by decide +kernel
theorem eSe_countMet_15 : decode prog_10_method_7_code 15 = .ok (.aload_n 0, 1) := by decide +kernel
theorem eSe_countMet_16 : decode prog_10_method_7_code 16 = .ok (.getfield 15, 3) := by decide +kernel
theorem eSe_countMet_19 : decode prog_10_method_7_code 19 = .ok (.arraylength, 1) := by decide +kernel
theorem eSe_countMet_20 : decode prog_10_method_7_code 20 = .ok (.if_icmp .ge 29, 3) := by decide +kernel
theorem eSe_countMet_23 : decode prog_10_method_7_code 23 = .ok (.aload_n 0, 1) := by decide +kernel
theorem eSe_countMet_24 : decode prog_10_method_7_code 24 = .ok (.aload_n 0, 1) := by decide +kernel
theorem eSe_countMet_25 : decode prog_10_method_7_code 25 = .ok (.getfield 43, 3) := by decide +kernel
theorem eSe_countMet_28 : decode prog_10_method_7_code 28 = .ok (.aload_n 0, 1) := by decide +kernel
theorem eSe_countMet_29 : decode prog_10_method_7_code 29 = .ok (.getfield 36, 3) := by decide +kernel
theorem eSe_countMet_32 : decode prog_10_method_7_code 32 = .ok (.iconst 1, 1) := by decide +kernel
theorem eSe_countMet_33 : decode prog_10_method_7_code 33 = .ok (.invokevirtual 72, 3) := by decide +kernel
theorem eSe_countMet_36 : decode prog_10_method_7_code 36 = .ok (.aload_n 0, 1) := by decide +kernel
theorem eSe_countMet_37 : decode prog_10_method_7_code 37 = .ok (.dup, 1) := by decide +kernel
theorem eSe_countMet_38 : decode prog_10_method_7_code 38 = .ok (.getfield 43, 3) := by decide +kernel
theorem eSe_countMet_41 : decode prog_10_method_7_code 41 = .ok (.iconst 1, 1) := by decide +kernel
theorem eSe_countMet_42 : decode prog_10_method_7_code 42 = .ok (.iadd, 1) := by decide +kernel
theorem eSe_countMet_43 : decode prog_10_method_7_code 43 = .ok (.putfield 43, 3) := by decide +kernel
theorem eSe_countMet_46 : decode prog_10_method_7_code 46 = .ok (.goto (-46), 3) := by decide +kernel
theorem eSe_countMet_49 : decode prog_10_method_7_code 49 = .ok (.aload_n 0, 1) := by decide +kernel
theorem eSe_countMet_50 : decode prog_10_method_7_code 50 = .ok (.getfield 46, 3) := by decide +kernel
theorem eSe_countMet_53 : decode prog_10_method_7_code 53 = .ok (.ireturn, 1) := by decide +kernel
theorem eSe_expand_0 : decode prog_10_method_8_code 0 = .ok (.iload_n 1, 1) := by decide +kernel
theorem eSe_expand_1 : decode prog_10_method_8_code 1 = .ok (.ifCond .lt 12, 3) := by decide +kernel
theorem eSe_expand_4 : decode prog_10_method_8_code 4 = .ok (.iload_n 1, 1) := by decide +kernel
theorem eSe_expand_5 : decode prog_10_method_8_code 5 = .ok (.aload_n 0, 1) := by decide +kernel
theorem eSe_expand_6 : decode prog_10_method_8_code 6 = .ok (.getfield 15, 3) := by decide +kernel
theorem eSe_expand_9 : decode prog_10_method_8_code 9 = .ok (.arraylength, 1) := by decide +kernel
theorem eSe_expand_10 : decode prog_10_method_8_code 10 = .ok (.if_icmp .lt 4, 3) := by decide +kernel
theorem eSe_expand_13 : decode prog_10_method_8_code 13 = .ok (.return_, 1) := by decide +kernel
theorem eSe_expand_14 : decode prog_10_method_8_code 14 = .ok (.aload_n 0, 1) := by decide +kernel
theorem eSe_expand_15 : decode prog_10_method_8_code 15 = .ok (.getfield 25, 3) := by decide +kernel
theorem eSe_expand_18 : decode prog_10_method_8_code 18 = .ok (.aload_n 0, 1) := by decide +kernel
theorem eSe_expand_19 : decode prog_10_method_8_code 19 = .ok (.getfield 15, 3) := by decide +kernel
theorem eSe_expand_22 : decode prog_10_method_8_code 22 = .ok (.iload_n 1, 1) := by decide +kernel
theorem eSe_expand_23 : decode prog_10_method_8_code 23 = .ok (.iaload, 1) := by decide +kernel
theorem eSe_expand_24 : decode prog_10_method_8_code 24 = .ok (.invokevirtual 80, 3) := by decide +kernel
theorem eSe_expand_27 : decode prog_10_method_8_code 27 = .ok (.aload_n 0, 1) := by decide +kernel
theorem eSe_expand_28 : decode prog_10_method_8_code 28 = .ok (.aload_n 0, 1) := by decide +kernel
theorem eSe_expand_29 : decode prog_10_method_8_code 29 = .ok (.getfield 18, 3) := by decide +kernel
theorem eSe_expand_32 : decode prog_10_method_8_code 32 = .ok (.aload_n 0, 1) := by decide +kernel
theorem eSe_expand_33 : decode prog_10_method_8_code 33 = .ok (.getfield 25, 3) := by decide +kernel
theorem eSe_expand_36 : decode prog_10_method_8_code 36 = .ok (.invokevirtual 64, 3) := by decide +kernel
theorem eSe_expand_39 : decode prog_10_method_8_code 39 = .ok (.invokevirtual 76, 3) := by decide +kernel
theorem eSe_expand_42 : decode prog_10_method_8_code 42 = .ok (.iload_n 3, 1) := by decide +kernel
theorem eSe_expand_43 : decode prog_10_method_8_code 43 = .ok (.iadd, 1) := by decide +kernel
theorem eSe_expand_44 : decode prog_10_method_8_code 44 = .ok (.istore 4, 2) := by decide +kernel
theorem eSe_expand_46 : decode prog_10_method_8_code 46 = .ok (.iconst 0, 1) := by decide +kernel
theorem eSe_expand_47 : decode prog_10_method_8_code 47 = .ok (.istore 5, 2) := by decide +kernel
theorem eSe_expand_49 : decode prog_10_method_8_code 49 = .ok (.iload 5, 2) := by decide +kernel
theorem eSe_expand_51 : decode prog_10_method_8_code 51 = .ok (.bipush 9, 2) := by decide +kernel
theorem eSe_expand_53 : decode prog_10_method_8_code 53 = .ok (.if_icmp .ge 190, 3) := by decide +kernel
theorem eSe_expand_56 : decode prog_10_method_8_code 56 = .ok (.iload_n 2, 1) := by decide +kernel
theorem eSe_expand_57 : decode prog_10_method_8_code 57 = .ok (.iload 5, 2) := by decide +kernel
theorem eSe_expand_59 : decode prog_10_method_8_code 59 = .ok (.ishr, 1) := by decide +kernel
theorem eSe_expand_60 : decode prog_10_method_8_code 60 = .ok (.iconst 1, 1) := by decide +kernel
theorem eSe_expand_61 : decode prog_10_method_8_code 61 = .ok (.iand, 1) := by decide +kernel
theorem eSe_expand_62 : decode prog_10_method_8_code 62 = .ok (.ifCond .eq 175, 3) := by decide +kernel
theorem eSe_expand_65 : decode prog_10_method_8_code 65 = .ok (.aload_n 0, 1) := by decide +kernel
theorem eSe_expand_66 : decode prog_10_method_8_code 66 = .ok (.getfield 29, 3) := by decide +kernel
theorem eSe_expand_69 : decode prog_10_method_8_code 69 = .ok (.aload_n 0, 1) := by decide +kernel
theorem eSe_expand_70 : decode prog_10_method_8_code 70 = .ok (.getfield 25, 3) := by decide +kernel
theorem eSe_expand_73 : decode prog_10_method_8_code 73 = .ok (.invokevirtual 84, 3) := by decide +kernel
theorem eSe_expand_76 : decode prog_10_method_8_code 76 = .ok (.aload_n 0, 1) := by decide +kernel
theorem eSe_expand_77 : decode prog_10_method_8_code 77 = .ok (.getfield 32, 3) := by decide +kernel
theorem eSe_expand_80 : decode prog_10_method_8_code 80 = .ok (.ifCond .eq 15, 3) := by decide +kernel
theorem eSe_expand_83 : decode prog_10_method_8_code 83 = .ok (.aload_n 0, 1) := by decide +kernel
theorem eSe_expand_84 : decode prog_10_method_8_code 84 = .ok (.getfield 29, 3) := by decide +kernel
theorem eSe_expand_87 : decode prog_10_method_8_code 87 = .ok (.iload 5, 2) := by decide +kernel
theorem eSe_expand_89 : decode prog_10_method_8_code 89 = .ok (.invokevirtual 88, 3) := by decide +kernel
theorem eSe_expand_92 : decode prog_10_method_8_code 92 = .ok (.goto 13, 3) := by decide +kernel
theorem eSe_expand_95 : decode prog_10_method_8_code 95 = .ok (.aload_n 0, 1) := by decide +kernel
theorem eSe_expand_96 : decode prog_10_method_8_code 96 = .ok (.getfield 29, 3) := by decide +kernel
theorem eSe_expand_99 : decode prog_10_method_8_code 99 = .ok (.iload 5, 2) := by decide +kernel
theorem eSe_expand_101 : decode prog_10_method_8_code 101 = .ok (.iconst 0, 1) := by decide +kernel
theorem eSe_expand_102 : decode prog_10_method_8_code 102 = .ok (.invokevirtual 91, 3) := by decide +kernel
theorem eSe_expand_105 : decode prog_10_method_8_code 105 = .ok (.aload_n 0, 1) := by decide +kernel
theorem eSe_expand_106 : decode prog_10_method_8_code 106 = .ok (.getfield 29, 3) := by decide +kernel
theorem eSe_expand_109 : decode prog_10_method_8_code 109 = .ok (.getfield 95, 3) := by decide +kernel
theorem eSe_expand_112 : decode prog_10_method_8_code 112 = .ok (.aload_n 0, 1) := by decide +kernel
theorem eSe_expand_113 : decode prog_10_method_8_code 113 = .ok (.getfield 40, 3) := by decide +kernel
theorem eSe_expand_116 : decode prog_10_method_8_code 116 = .ok (.if_icmp .gt 18, 3) := by decide +kernel
theorem eSe_expand_119 : decode prog_10_method_8_code 119 = .ok (.aload_n 0, 1) := by decide +kernel
theorem eSe_expand_120 : decode prog_10_method_8_code 120 = .ok (.getfield 29, 3) := by decide +kernel
theorem eSe_expand_123 : decode prog_10_method_8_code 123 = .ok (.getfield 95, 3) := by decide +kernel
theorem eSe_expand_126 : decode prog_10_method_8_code 126 = .ok (.aload_n 0, 1) := by decide +kernel
theorem eSe_expand_127 : decode prog_10_method_8_code 127 = .ok (.getfield 40, 3) := by decide +kernel
theorem eSe_expand_130 : decode prog_10_method_8_code 130 = .ok (.ineg, 1) := by decide +kernel
theorem eSe_expand_131 : decode prog_10_method_8_code 131 = .ok (.if_icmp .ge 7, 3) := by decide +kernel
theorem eSe_expand_134 : decode prog_10_method_8_code 134 = .ok (.iconst (-1), 1) := by decide +kernel
theorem eSe_expand_135 : decode prog_10_method_8_code 135 = .ok (.goto 14, 3) := by decide +kernel
theorem eSe_expand_138 : decode prog_10_method_8_code 138 = .ok (.aload_n 0, 1) := by decide +kernel
theorem eSe_expand_139 : decode prog_10_method_8_code 139 = .ok (.getfield 18, 3) := by decide +kernel
theorem eSe_expand_142 : decode prog_10_method_8_code 142 = .ok (.aload_n 0, 1) := by decide +kernel
theorem eSe_expand_143 : decode prog_10_method_8_code 143 = .ok (.getfield 29, 3) := by decide +kernel
theorem eSe_expand_146 : decode prog_10_method_8_code 146 = .ok (.invokevirtual 64, 3) := by decide +kernel
theorem eSe_expand_149 : decode prog_10_method_8_code 149 = .ok (.istore 6, 2) := by decide +kernel
theorem eSe_expand_151 : decode prog_10_method_8_code 151 = .ok (.iload 6, 2) := by decide +kernel
theorem eSe_expand_153 : decode prog_10_method_8_code 153 = .ok (.ifCond .lt 84, 3) := by decide +kernel
theorem eSe_expand_156 : decode prog_10_method_8_code 156 = .ok (.iload 6, 2) := by decide +kernel
theorem eSe_expand_158 : decode prog_10_method_8_code 158 = .ok (.aload_n 0, 1) := by decide +kernel
theorem eSe_expand_159 : decode prog_10_method_8_code 159 = .ok (.getfield 9, 3) := by decide +kernel
theorem eSe_expand_162 : decode prog_10_method_8_code 162 = .ok (.arraylength, 1) := by decide +kernel
theorem eSe_expand_163 : decode prog_10_method_8_code 163 = .ok (.if_icmp .ge 74, 3) := by decide +kernel
theorem eSe_expand_166 : decode prog_10_method_8_code 166 = .ok (.aload_n 0, 1) := by decide +kernel
theorem eSe_expand_167 : decode prog_10_method_8_code 167 = .ok (.getfield 9, 3) := by decide +kernel
theorem eSe_expand_170 : decode prog_10_method_8_code 170 = .ok (.iload 6, 2) := by decide +kernel
theorem eSe_expand_172 : decode prog_10_method_8_code 172 = .ok (.iaload, 1) := by decide +kernel
theorem eSe_expand_173 : decode prog_10_method_8_code 173 = .ok (.ifCond .ne 64, 3) := by decide +kernel
theorem eSe_expand_176 : decode prog_10_method_8_code 176 = .ok (.aload_n 0, 1) := by decide +kernel
theorem eSe_expand_177 : decode prog_10_method_8_code 177 = .ok (.getfield 46, 3) := by decide +kernel
theorem eSe_expand_180 : decode prog_10_method_8_code 180 = .ok (.ifCond .lt 57, 3) := by decide +kernel
theorem eSe_expand_183 : decode prog_10_method_8_code 183 = .ok (.aload_n 0, 1) := by decide +kernel
theorem eSe_expand_184 : decode prog_10_method_8_code 184 = .ok (.getfield 46, 3) := by decide +kernel
theorem eSe_expand_187 : decode prog_10_method_8_code 187 = .ok (.aload_n 0, 1) := by decide +kernel
theorem eSe_expand_188 : decode prog_10_method_8_code 188 = .ok (.getfield 15, 3) := by decide +kernel
theorem eSe_expand_191 : decode prog_10_method_8_code 191 = .ok (.arraylength, 1) := by decide +kernel
theorem eSe_expand_192 : decode prog_10_method_8_code 192 = .ok (.if_icmp .ge 45, 3) := by decide +kernel
theorem eSe_expand_195 : decode prog_10_method_8_code 195 = .ok (.aload_n 0, 1) := by decide +kernel
theorem eSe_expand_196 : decode prog_10_method_8_code 196 = .ok (.getfield 9, 3) := by decide +kernel
theorem eSe_expand_199 : decode prog_10_method_8_code 199 = .ok (.iload 6, 2) := by decide +kernel
theorem eSe_expand_201 : decode prog_10_method_8_code 201 = .ok (.iload 4, 2) := by decide +kernel
theorem eSe_expand_203 : decode prog_10_method_8_code 203 = .ok (.iconst 4, 1) := by decide +kernel
theorem eSe_expand_204 : decode prog_10_method_8_code 204 = .ok (.ishl, 1) := by decide +kernel
theorem eSe_expand_205 : decode prog_10_method_8_code 205 = .ok (.iload 5, 2) := by decide +kernel
theorem eSe_expand_207 : decode prog_10_method_8_code 207 = .ok (.iconst 1, 1) := by decide +kernel
theorem eSe_expand_208 : decode prog_10_method_8_code 208 = .ok (.iadd, 1) := by decide +kernel
theorem eSe_expand_209 : decode prog_10_method_8_code 209 = .ok (.ior, 1) := by decide +kernel
theorem eSe_expand_210 : decode prog_10_method_8_code 210 = .ok (.iastore, 1) := by decide +kernel
theorem eSe_expand_211 : decode prog_10_method_8_code 211 = .ok (.aload_n 0, 1) := by decide +kernel
theorem eSe_expand_212 : decode prog_10_method_8_code 212 = .ok (.getfield 15, 3) := by decide +kernel
theorem eSe_expand_215 : decode prog_10_method_8_code 215 = .ok (.aload_n 0, 1) := by decide +kernel
theorem eSe_expand_216 : decode prog_10_method_8_code 216 = .ok (.getfield 46, 3) := by decide +kernel
theorem eSe_expand_219 : decode prog_10_method_8_code 219 = .ok (.aload_n 0, 1) := by decide +kernel
theorem eSe_expand_220 : decode prog_10_method_8_code 220 = .ok (.getfield 29, 3) := by decide +kernel
theorem eSe_expand_223 : decode prog_10_method_8_code 223 = .ok (.invokevirtual 68, 3) := by decide +kernel
theorem eSe_expand_226 : decode prog_10_method_8_code 226 = .ok (.iastore, 1) := by decide +kernel
theorem eSe_expand_227 : decode prog_10_method_8_code 227 = .ok (.aload_n 0, 1) := by decide +kernel
theorem eSe_expand_228 : decode prog_10_method_8_code 228 = .ok (.dup, 1) := by decide +kernel
theorem eSe_expand_229 : decode prog_10_method_8_code 229 = .ok (.getfield 46, 3) := by decide +kernel
theorem eSe_expand_232 : decode prog_10_method_8_code 232 = .ok (.iconst 1, 1) := by decide +kernel
theorem eSe_expand_233 : decode prog_10_method_8_code 233 = .ok (.iadd, 1) := by decide +kernel
theorem eSe_expand_234 : decode prog_10_method_8_code 234 = .ok (.putfield 46, 3) := by decide +kernel
theorem eSe_expand_237 : decode prog_10_method_8_code 237 = .ok (.iinc 5 1, 3) := by decide +kernel
theorem eSe_expand_240 : decode prog_10_method_8_code 240 = .ok (.goto (-191), 3) := by decide +kernel
theorem eSe_expand_243 : decode prog_10_method_8_code 243 = .ok (.return_, 1) := by decide +kernel
theorem eSe_costTo_0 : decode prog_10_method_9_code 0 = .ok (.iload_n 1, 1) := by decide +kernel
theorem eSe_costTo_1 : decode prog_10_method_9_code 1 = .ok (.ifCond .lt 12, 3) := by decide +kernel
theorem eSe_costTo_4 : decode prog_10_method_9_code 4 = .ok (.iload_n 1, 1) := by decide +kernel
theorem eSe_costTo_5 : decode prog_10_method_9_code 5 = .ok (.aload_n 0, 1) := by decide +kernel
theorem eSe_costTo_6 : decode prog_10_method_9_code 6 = .ok (.getfield 9, 3) := by decide +kernel
theorem eSe_costTo_9 : decode prog_10_method_9_code 9 = .ok (.arraylength, 1) := by decide +kernel
theorem eSe_costTo_10 : decode prog_10_method_9_code 10 = .ok (.if_icmp .lt 6, 3) := by decide +kernel
theorem eSe_costTo_13 : decode prog_10_method_9_code 13 = .ok (.bipush (-2), 2) := by decide +kernel
theorem eSe_costTo_15 : decode prog_10_method_9_code 15 = .ok (.ireturn, 1) := by decide +kernel
theorem eSe_costTo_16 : decode prog_10_method_9_code 16 = .ok (.iconst 0, 1) := by decide +kernel
theorem eSe_costTo_17 : decode prog_10_method_9_code 17 = .ok (.istore_n 2, 1) := by decide +kernel
theorem eSe_costTo_18 : decode prog_10_method_9_code 18 = .ok (.iconst 0, 1) := by decide +kernel
theorem eSe_costTo_19 : decode prog_10_method_9_code 19 = .ok (.istore_n 3, 1) := by decide +kernel
theorem eSe_costTo_20 : decode prog_10_method_9_code 20 = .ok (.iconst 0, 1) := by decide +kernel
theorem eSe_costTo_21 : decode prog_10_method_9_code 21 = .ok (.istore 4, 2) := by decide +kernel
theorem eSe_costTo_23 : decode prog_10_method_9_code 23 = .ok (.aload_n 0, 1) := by decide +kernel
theorem eSe_costTo_24 : decode prog_10_method_9_code 24 = .ok (.iconst 0, 1) := by decide +kernel
theorem eSe_costTo_25 : decode prog_10_method_9_code 25 = .ok (.invokevirtual 98, 3) := by decide +kernel
theorem eSe_costTo_28 : decode prog_10_method_9_code 28 = .ok (.iconst 0, 1) := by decide +kernel
theorem eSe_costTo_29 : decode prog_10_method_9_code 29 = .ok (.istore 5, 2) := by decide +kernel
theorem eSe_costTo_31 : decode prog_10_method_9_code 31 = .ok (.iload 5, 2) := by decide +kernel
theorem eSe_costTo_33 : decode prog_10_method_9_code 33 = .ok (.ldc 101, 2) := by decide +kernel
theorem eSe_costTo_35 : decode prog_10_method_9_code 35 = .ok (.if_icmp .ge 46, 3) := by decide +kernel
theorem eSe_costTo_38 : decode prog_10_method_9_code 38 = .ok (.aload_n 0, 1) := by decide +kernel
theorem eSe_costTo_39 : decode prog_10_method_9_code 39 = .ok (.getfield 9, 3) := by decide +kernel
theorem eSe_costTo_42 : decode prog_10_method_9_code 42 = .ok (.iload_n 1, 1) := by decide +kernel
theorem eSe_costTo_43 : decode prog_10_method_9_code 43 = .ok (.iaload, 1) := by decide +kernel
theorem eSe_costTo_44 : decode prog_10_method_9_code 44 = .ok (.ifCond .ne 37, 3) := by decide +kernel
theorem eSe_costTo_47 : decode prog_10_method_9_code 47 = .ok (.iload_n 3, 1) := by decide +kernel
theorem eSe_costTo_48 : decode prog_10_method_9_code 48 = .ok (.istore_n 2, 1) := by decide +kernel
theorem eSe_costTo_49 : decode prog_10_method_9_code 49 = .ok (.iload 4, 2) := by decide +kernel
theorem eSe_costTo_51 : decode prog_10_method_9_code 51 = .ok (.istore_n 3, 1) := by decide +kernel
theorem eSe_costTo_52 : decode prog_10_method_9_code 52 = .ok (.aload_n 0, 1) := by decide +kernel
theorem eSe_costTo_53 : decode prog_10_method_9_code 53 = .ok (.getfield 46, 3) := by decide +kernel
theorem eSe_costTo_56 : decode prog_10_method_9_code 56 = .ok (.istore 4, 2) := by decide +kernel
theorem eSe_costTo_58 : decode prog_10_method_9_code 58 = .ok (.iload_n 2, 1) := by decide +kernel
theorem eSe_costTo_59 : decode prog_10_method_9_code 59 = .ok (.iload 4, 2) := by decide +kernel
theorem eSe_costTo_61 : decode prog_10_method_9_code 61 = .ok (.if_icmp .ne 6, 3) := by decide +kernel
theorem eSe_costTo_64 : decode prog_10_method_9_code 64 = .ok (.bipush (-2), 2) := by decide +kernel
theorem eSe_costTo_66 : decode prog_10_method_9_code 66 = .ok (.ireturn, 1) := by decide +kernel
theorem eSe_costTo_67 : decode prog_10_method_9_code 67 = .ok (.aload_n 0, 1) := by decide +kernel
theorem eSe_costTo_68 : decode prog_10_method_9_code 68 = .ok (.iload_n 2, 1) := by decide +kernel
theorem eSe_costTo_69 : decode prog_10_method_9_code 69 = .ok (.iload_n 3, 1) := by decide +kernel
theorem eSe_costTo_70 : decode prog_10_method_9_code 70 = .ok (.iload 4, 2) := by decide +kernel
theorem eSe_costTo_72 : decode prog_10_method_9_code 72 = .ok (.invokevirtual 102, 3) := by decide +kernel
theorem eSe_costTo_75 : decode prog_10_method_9_code 75 = .ok (.iinc 5 1, 3) := by decide +kernel
theorem eSe_costTo_78 : decode prog_10_method_9_code 78 = .ok (.goto (-47), 3) := by decide +kernel
theorem eSe_costTo_81 : decode prog_10_method_9_code 81 = .ok (.aload_n 0, 1) := by decide +kernel
theorem eSe_costTo_82 : decode prog_10_method_9_code 82 = .ok (.iload_n 1, 1) := by decide +kernel
theorem eSe_costTo_83 : decode prog_10_method_9_code 83 = .ok (.invokevirtual 76, 3) := by decide +kernel
theorem eSe_costTo_86 : decode prog_10_method_9_code 86 = .ok (.ireturn, 1) := by decide +kernel
theorem eSe_spreadLevels_0 : decode prog_10_method_10_code 0 = .ok (.iload_n 1, 1) := by decide +kernel
theorem eSe_spreadLevels_1 : decode prog_10_method_10_code 1 = .ok (.istore 4, 2) := by decide +kernel
theorem eSe_spreadLevels_3 : decode prog_10_method_10_code 3 = .ok (.iload 4, 2) := by decide +kernel
theorem eSe_spreadLevels_5 : decode prog_10_method_10_code 5 = .ok (.iload_n 2, 1) := by decide +kernel
theorem eSe_spreadLevels_6 : decode prog_10_method_10_code 6 = .ok (.if_icmp .ge 29, 3) := by decide +kernel
theorem eSe_spreadLevels_9 : decode prog_10_method_10_code 9 = .ok (.iload 4, 2) := by decide +kernel
theorem eSe_spreadLevels_11 : decode prog_10_method_10_code 11 = .ok (.aload_n 0, 1) := by decide +kernel
theorem eSe_spreadLevels_12 : decode prog_10_method_10_code 12 = .ok (.getfield 15, 3) := by decide +kernel
theorem eSe_spreadLevels_15 : decode prog_10_method_10_code 15 = .ok (.arraylength, 1) := by decide +kernel
theorem eSe_spreadLevels_16 : decode prog_10_method_10_code 16 = .ok (.if_icmp .ge 19, 3) := by decide +kernel
theorem eSe_spreadLevels_19 : decode prog_10_method_10_code 19 = .ok (.aload_n 0, 1) := by decide +kernel
theorem eSe_spreadLevels_20 : decode prog_10_method_10_code 20 = .ok (.iload 4, 2) := by decide +kernel
theorem eSe_spreadLevels_22 : decode prog_10_method_10_code 22 = .ok (.sipush 325, 3) := by decide +kernel
theorem eSe_spreadLevels_25 : decode prog_10_method_10_code 25 = .ok (.iconst 2, 1) := by decide +kernel
theorem eSe_spreadLevels_26 : decode prog_10_method_10_code 26 = .ok (.invokevirtual 72, 3) := by decide +kernel
theorem eSe_spreadLevels_29 : decode prog_10_method_10_code 29 = .ok (.iinc 4 1, 3) := by decide +kernel
theorem eSe_spreadLevels_32 : decode prog_10_method_10_code 32 = .ok (.goto (-29), 3) := by decide +kernel
theorem eSe_spreadLevels_35 : decode prog_10_method_10_code 35 = .ok (.iload_n 2, 1) := by decide +kernel
theorem eSe_spreadLevels_36 : decode prog_10_method_10_code 36 = .ok (.istore 4, 2) := by decide +kernel
theorem eSe_spreadLevels_38 : decode prog_10_method_10_code 38 = .ok (.iload 4, 2) := by decide +kernel
theorem eSe_spreadLevels_40 : decode prog_10_method_10_code 40 = .ok (.iload_n 3, 1) := by decide +kernel
theorem eSe_spreadLevels_41 : decode prog_10_method_10_code 41 = .ok (.if_icmp .ge 29, 3) := by decide +kernel
theorem eSe_spreadLevels_44 : decode prog_10_method_10_code 44 = .ok (.iload 4, 2) := by decide +kernel
theorem eSe_spreadLevels_46 : decode prog_10_method_10_code 46 = .ok (.aload_n 0, 1) := by decide +kernel
theorem eSe_spreadLevels_47 : decode prog_10_method_10_code 47 = .ok (.getfield 15, 3) := by decide +kernel
theorem eSe_spreadLevels_50 : decode prog_10_method_10_code 50 = .ok (.arraylength, 1) := by decide +kernel
theorem eSe_spreadLevels_51 : decode prog_10_method_10_code 51 = .ok (.if_icmp .ge 19, 3) := by decide +kernel
theorem eSe_spreadLevels_54 : decode prog_10_method_10_code 54 = .ok (.aload_n 0, 1) := by decide +kernel
theorem eSe_spreadLevels_55 : decode prog_10_method_10_code 55 = .ok (.iload 4, 2) := by decide +kernel
theorem eSe_spreadLevels_57 : decode prog_10_method_10_code 57 = .ok (.sipush 170, 3) := by decide +kernel
theorem eSe_spreadLevels_60 : decode prog_10_method_10_code 60 = .ok (.iconst 1, 1) := by decide +kernel
theorem eSe_spreadLevels_61 : decode prog_10_method_10_code 61 = .ok (.invokevirtual 72, 3) := by decide +kernel
theorem eSe_spreadLevels_64 : decode prog_10_method_10_code 64 = .ok (.iinc 4 1, 3) := by decide +kernel
theorem eSe_spreadLevels_67 : decode prog_10_method_10_code 67 = .ok (.goto (-29), 3) := by decide +kernel
theorem eSe_spreadLevels_70 : decode prog_10_method_10_code 70 = .ok (.aload_n 0, 1) := by decide +kernel
theorem eSe_spreadLevels_71 : decode prog_10_method_10_code 71 = .ok (.iload_n 3, 1) := by decide +kernel
theorem eSe_spreadLevels_72 : decode prog_10_method_10_code 72 = .ok (.invokevirtual 98, 3) := by decide +kernel
theorem eSe_spreadLevels_75 : decode prog_10_method_10_code 75 = .ok (.return_, 1) := by decide +kernel
theorem eSe_spread_0 : decode prog_10_method_11_code 0 = .ok (.iload_n 1, 1) := by decide +kernel
theorem eSe_spread_1 : decode prog_10_method_11_code 1 = .ok (.istore_n 2, 1) := by decide +kernel
theorem eSe_spread_2 : decode prog_10_method_11_code 2 = .ok (.iload_n 2, 1) := by decide +kernel
theorem eSe_spread_3 : decode prog_10_method_11_code 3 = .ok (.aload_n 0, 1) := by decide +kernel
theorem eSe_spread_4 : decode prog_10_method_11_code 4 = .ok (.getfield 46, 3) := by decide +kernel
theorem eSe_spread_7 : decode prog_10_method_11_code 7 = .ok (.if_icmp .ge 26, 3) := by decide +kernel
theorem eSe_spread_10 : decode prog_10_method_11_code 10 = .ok (.iload_n 2, 1) := by decide +kernel
theorem eSe_spread_11 : decode prog_10_method_11_code 11 = .ok (.aload_n 0, 1) := by decide +kernel
theorem eSe_spread_12 : decode prog_10_method_11_code 12 = .ok (.getfield 15, 3) := by decide +kernel
theorem eSe_spread_15 : decode prog_10_method_11_code 15 = .ok (.arraylength, 1) := by decide +kernel
theorem eSe_spread_16 : decode prog_10_method_11_code 16 = .ok (.if_icmp .ge 17, 3) := by decide +kernel
theorem eSe_spread_19 : decode prog_10_method_11_code 19 = .ok (.aload_n 0, 1) := by decide +kernel
theorem eSe_spread_20 : decode prog_10_method_11_code 20 = .ok (.iload_n 2, 1) := by decide +kernel
theorem eSe_spread_21 : decode prog_10_method_11_code 21 = .ok (.bipush 16, 2) := by decide +kernel
theorem eSe_spread_23 : decode prog_10_method_11_code 23 = .ok (.iconst 0, 1) := by decide +kernel
theorem eSe_spread_24 : decode prog_10_method_11_code 24 = .ok (.invokevirtual 72, 3) := by decide +kernel
theorem eSe_spread_27 : decode prog_10_method_11_code 27 = .ok (.iinc 2 1, 3) := by decide +kernel
theorem eSe_spread_30 : decode prog_10_method_11_code 30 = .ok (.goto (-28), 3) := by decide +kernel
theorem eSe_spread_33 : decode prog_10_method_11_code 33 = .ok (.return_, 1) := by decide +kernel
theorem eSp_init_0 : decode prog_11_method_1_code 0 = .ok (.aload_n 0, 1) := by decide +kernel
theorem eSp_init_1 : decode prog_11_method_1_code 1 = .ok (.invokespecial 3, 3) := by decide +kernel
theorem eSp_init_4 : decode prog_11_method_1_code 4 = .ok (.aload_n 0, 1) := by decide +kernel
theorem eSp_init_5 : decode prog_11_method_1_code 5 = .ok (.bipush 16, 2) := by decide +kernel
theorem eSp_init_7 : decode prog_11_method_1_code 7 = .ok (.newarray .int, 2) := by decide +kernel
theorem eSp_init_9 : decode prog_11_method_1_code 9 = .ok (.putfield 9, 3) := by decide +kernel
theorem eSp_init_12 : decode prog_11_method_1_code 12 = .ok (.aload_n 0, 1) := by decide +kernel
theorem eSp_init_13 : decode prog_11_method_1_code 13 = .ok (.sipush 864, 3) := by decide +kernel
theorem eSp_init_16 : decode prog_11_method_1_code 16 = .ok (.newarray .boolean, 2) := by decide +kernel
theorem eSp_init_18 : decode prog_11_method_1_code 18 = .ok (.putfield 15, 3) := by decide +kernel
theorem eSp_init_21 : decode prog_11_method_1_code 21 = .ok (.return_, 1) := by decide +kernel
theorem eSp_lay_0 : decode prog_11_method_2_code 0 = .ok (.aload_n 0, 1) := by decide +kernel
theorem eSp_lay_1 : decode prog_11_method_2_code 1 = .ok (.aload_n 1, 1) := by decide +kernel
theorem eSp_lay_2 : decode prog_11_method_2_code 2 = .ok (.getfield 19, 3) := by decide +kernel
theorem eSp_lay_5 : decode prog_11_method_2_code 5 = .ok (.putfield 25, 3) := by decide +kernel
theorem eSp_lay_8 : decode prog_11_method_2_code 8 = .ok (.aload_n 0, 1) := by decide +kernel
theorem eSp_lay_9 : decode prog_11_method_2_code 9 = .ok (.aload_n 1, 1) := by decide +kernel
theorem eSp_lay_10 : decode prog_11_method_2_code 10 = .ok (.getfield 26, 3) := by decide +kernel
theorem eSp_lay_13 : decode prog_11_method_2_code 13 = .ok (.putfield 29, 3) := by decide +kernel
theorem eSp_lay_16 : decode prog_11_method_2_code 16 = .ok (.aload_n 0, 1) := by decide +kernel
theorem eSp_lay_17 : decode prog_11_method_2_code 17 = .ok (.aload_n 1, 1) := by decide +kernel
theorem eSp_lay_18 : decode prog_11_method_2_code 18 = .ok (.getfield 30, 3) := by decide +kernel
theorem eSp_lay_21 : decode prog_11_method_2_code 21 = .ok (.putfield 33, 3) := by decide +kernel
theorem eSp_lay_24 : decode prog_11_method_2_code 24 = .ok (.aload_n 0, 1) := by decide +kernel
theorem eSp_lay_25 : decode prog_11_method_2_code 25 = .ok (.aload_n 1, 1) := by decide +kernel
theorem eSp_lay_26 : decode prog_11_method_2_code 26 = .ok (.getfield 34, 3) := by decide +kernel
theorem eSp_lay_29 : decode prog_11_method_2_code 29 = .ok (.putfield 37, 3) := by decide +kernel
theorem eSp_lay_32 : decode prog_11_method_2_code 32 = .ok (.aload_n 0, 1) := by decide +kernel
theorem eSp_lay_33 : decode prog_11_method_2_code 33 = .ok (.iload_n 3, 1) := by decide +kernel
theorem eSp_lay_34 : decode prog_11_method_2_code 34 = .ok (.putfield 38, 3) := by decide +kernel
theorem eSp_lay_37 : decode prog_11_method_2_code 37 = .ok (.aload_n 0, 1) := by decide +kernel
theorem eSp_lay_38 : decode prog_11_method_2_code 38 = .ok (.iconst 2, 1) := by decide +kernel
theorem eSp_lay_39 : decode prog_11_method_2_code 39 = .ok (.aload_n 0, 1) := by decide +kernel
theorem eSp_lay_40 : decode prog_11_method_2_code 40 = .ok (.getfield 33, 3) := by decide +kernel
theorem eSp_lay_43 : decode prog_11_method_2_code 43 = .ok (.imul, 1) := by decide +kernel
theorem eSp_lay_44 : decode prog_11_method_2_code 44 = .ok (.iconst 1, 1) := by decide +kernel
theorem eSp_lay_45 : decode prog_11_method_2_code 45 = .ok (.iadd, 1) := by decide +kernel
theorem eSp_lay_46 : decode prog_11_method_2_code 46 = .ok (.putfield 41, 3) := by decide +kernel
theorem eSp_lay_49 : decode prog_11_method_2_code 49 = .ok (.aload_n 0, 1) := by decide +kernel
theorem eSp_lay_50 : decode prog_11_method_2_code 50 = .ok (.iconst 2, 1) := by decide +kernel
theorem eSp_lay_51 : decode prog_11_method_2_code 51 = .ok (.aload_n 0, 1) := by decide +kernel
theorem eSp_lay_52 : decode prog_11_method_2_code 52 = .ok (.getfield 37, 3) := by decide +kernel
theorem eSp_lay_55 : decode prog_11_method_2_code 55 = .ok (.imul, 1) := by decide +kernel
theorem eSp_lay_56 : decode prog_11_method_2_code 56 = .ok (.iconst 1, 1) := by decide +kernel
theorem eSp_lay_57 : decode prog_11_method_2_code 57 = .ok (.iadd, 1) := by decide +kernel
theorem eSp_lay_58 : decode prog_11_method_2_code 58 = .ok (.putfield 44, 3) := by decide +kernel
theorem eSp_lay_61 : decode prog_11_method_2_code 61 = .ok (.aload_n 0, 1) := by decide +kernel
theorem eSp_lay_62 : decode prog_11_method_2_code 62 = .ok (.aload_n 0, 1) := by decide +kernel
theorem eSp_lay_63 : decode prog_11_method_2_code 63 = .ok (.getfield 25, 3) := by decide +kernel
theorem eSp_lay_66 : decode prog_11_method_2_code 66 = .ok (.aload_n 0, 1) := by decide +kernel
theorem eSp_lay_67 : decode prog_11_method_2_code 67 = .ok (.getfield 29, 3) := by decide +kernel
theorem eSp_lay_70 : decode prog_11_method_2_code 70 = .ok (.imul, 1) := by decide +kernel
theorem eSp_lay_71 : decode prog_11_method_2_code 71 = .ok (.aload_n 0, 1) := by decide +kernel
theorem eSp_lay_72 : decode prog_11_method_2_code 72 = .ok (.getfield 44, 3) := by decide +kernel
theorem eSp_lay_75 : decode prog_11_method_2_code 75 = .ok (.imul, 1) := by decide +kernel
theorem eSp_lay_76 : decode prog_11_method_2_code 76 = .ok (.aload_n 0, 1) := by decide +kernel
theorem eSp_lay_77 : decode prog_11_method_2_code 77 = .ok (.getfield 41, 3) := by decide +kernel
theorem eSp_lay_80 : decode prog_11_method_2_code 80 = .ok (.imul, 1) := by decide +kernel
theorem eSp_lay_81 : decode prog_11_method_2_code 81 = .ok (.aload_n 0, 1) := by decide +kernel
theorem eSp_lay_82 : decode prog_11_method_2_code 82 = .ok (.getfield 44, 3) := by decide +kernel
theorem eSp_lay_85 : decode prog_11_method_2_code 85 = .ok (.imul, 1) := by decide +kernel
theorem eSp_lay_86 : decode prog_11_method_2_code 86 = .ok (.putfield 47, 3) := by decide +kernel
theorem eSp_lay_89 : decode prog_11_method_2_code 89 = .ok (.iconst 0, 1) := by decide +kernel
theorem eSp_lay_90 : decode prog_11_method_2_code 90 = .ok (.istore 4, 2) := by decide +kernel
theorem eSp_lay_92 : decode prog_11_method_2_code 92 = .ok (.iload 4, 2) := by decide +kernel
theorem eSp_lay_94 : decode prog_11_method_2_code 94 = .ok (.aload_n 0, 1) := by decide +kernel
theorem eSp_lay_95 : decode prog_11_method_2_code 95 = .ok (.getfield 9, 3) := by decide +kernel
theorem eSp_lay_98 : decode prog_11_method_2_code 98 = .ok (.arraylength, 1) := by decide +kernel
theorem eSp_lay_99 : decode prog_11_method_2_code 99 = .ok (.if_icmp .ge 23, 3) := by decide +kernel
theorem eSp_lay_102 : decode prog_11_method_2_code 102 = .ok (.aload_n 0, 1) := by decide +kernel
theorem eSp_lay_103 : decode prog_11_method_2_code 103 = .ok (.getfield 9, 3) := by decide +kernel
theorem eSp_lay_106 : decode prog_11_method_2_code 106 = .ok (.iload 4, 2) := by decide +kernel
theorem eSp_lay_108 : decode prog_11_method_2_code 108 = .ok (.aload_n 1, 1) := by decide +kernel
theorem eSp_lay_109 : decode prog_11_method_2_code 109 = .ok (.aload_n 2, 1) := by decide +kernel
theorem eSp_lay_110 : decode prog_11_method_2_code 110 = .ok (.iload 4, 2) := by decide +kernel
theorem eSp_lay_112 : decode prog_11_method_2_code 112 = .ok (.invokevirtual 50, 3) := by decide +kernel
theorem eSp_lay_115 : decode prog_11_method_2_code 115 = .ok (.iastore, 1) := by decide +kernel
theorem eSp_lay_116 : decode prog_11_method_2_code 116 = .ok (.iinc 4 1, 3) := by decide +kernel
theorem eSp_lay_119 : decode prog_11_method_2_code 119 = .ok (.goto (-27), 3) := by decide +kernel
theorem eSp_lay_122 : decode prog_11_method_2_code 122 = .ok (.aload_n 0, 1) := by decide +kernel
theorem eSp_lay_123 : decode prog_11_method_2_code 123 = .ok (.iconst 0, 1) := by decide +kernel
theorem eSp_lay_124 : decode prog_11_method_2_code 124 = .ok (.putfield 54, 3) := by decide +kernel
theorem eSp_lay_127 : decode prog_11_method_2_code 127 = .ok (.iconst 0, 1) := by decide +kernel
theorem eSp_lay_128 : decode prog_11_method_2_code 128 = .ok (.istore 4, 2) := by decide +kernel
theorem eSp_lay_130 : decode prog_11_method_2_code 130 = .ok (.iload 4, 2) := by decide +kernel
theorem eSp_lay_132 : decode prog_11_method_2_code 132 = .ok (.aload_n 0, 1) := by decide +kernel
theorem eSp_lay_133 : decode prog_11_method_2_code 133 = .ok (.getfield 15, 3) := by decide +kernel
theorem eSp_lay_136 : decode prog_11_method_2_code 136 = .ok (.arraylength, 1) := by decide +kernel
theorem eSp_lay_137 : decode prog_11_method_2_code 137 = .ok (.if_icmp .ge 17, 3) := by decide +kernel
theorem eSp_lay_140 : decode prog_11_method_2_code 140 = .ok (.aload_n 0, 1) := by decide +kernel
theorem eSp_lay_141 : decode prog_11_method_2_code 141 = .ok (.getfield 15, 3) := by decide +kernel
theorem eSp_lay_144 : decode prog_11_method_2_code 144 = .ok (.iload 4, 2) := by decide +kernel
theorem eSp_lay_146 : decode prog_11_method_2_code 146 = .ok (.iconst 0, 1) := by decide +kernel
theorem eSp_lay_147 : decode prog_11_method_2_code 147 = .ok (.bastore, 1) := by decide +kernel
theorem eSp_lay_148 : decode prog_11_method_2_code 148 = .ok (.iinc 4 1, 3) := by decide +kernel
theorem eSp_lay_151 : decode prog_11_method_2_code 151 = .ok (.goto (-21), 3) := by decide +kernel
theorem eSp_lay_154 : decode prog_11_method_2_code 154 = .ok (.iconst 0, 1) := by decide +kernel
theorem eSp_lay_155 : decode prog_11_method_2_code 155 = .ok (.istore 4, 2) := by decide +kernel
theorem eSp_lay_157 : decode prog_11_method_2_code 157 = .ok (.iload 4, 2) := by decide +kernel
theorem eSp_lay_159 : decode prog_11_method_2_code 159 = .ok (.aload_n 0, 1) := by decide +kernel
theorem eSp_lay_160 : decode prog_11_method_2_code 160 = .ok (.getfield 25, 3) := by decide +kernel
theorem eSp_lay_163 : decode prog_11_method_2_code 163 = .ok (.if_icmp .ge 35, 3) := by decide +kernel
theorem eSp_lay_166 : decode prog_11_method_2_code 166 = .ok (.iconst 1, 1) := by decide +kernel
theorem eSp_lay_167 : decode prog_11_method_2_code 167 = .ok (.istore 5, 2) := by decide +kernel
theorem eSp_lay_169 : decode prog_11_method_2_code 169 = .ok (.iload 5, 2) := by decide +kernel
theorem eSp_lay_171 : decode prog_11_method_2_code 171 = .ok (.aload_n 0, 1) := by decide +kernel
theorem eSp_lay_172 : decode prog_11_method_2_code 172 = .ok (.getfield 29, 3) := by decide +kernel
theorem eSp_lay_175 : decode prog_11_method_2_code 175 = .ok (.if_icmp .gt 17, 3) := by decide +kernel
theorem eSp_lay_178 : decode prog_11_method_2_code 178 = .ok (.aload_n 0, 1) := by decide +kernel
theorem eSp_lay_179 : decode prog_11_method_2_code 179 = .ok (.iload 4, 2) := by decide +kernel
theorem eSp_lay_181 : decode prog_11_method_2_code 181 = .ok (.iload 5, 2) := by decide +kernel
theorem eSp_lay_183 : decode prog_11_method_2_code 183 = .ok (.invokevirtual 57, 3) := by decide +kernel
theorem eSp_lay_186 : decode prog_11_method_2_code 186 = .ok (.iinc 5 1, 3) := by decide +kernel
theorem eSp_lay_189 : decode prog_11_method_2_code 189 = .ok (.goto (-20), 3) := by decide +kernel
theorem eSp_lay_192 : decode prog_11_method_2_code 192 = .ok (.iinc 4 1, 3) := by decide +kernel
theorem eSp_lay_195 : decode prog_11_method_2_code 195 = .ok (.goto (-38), 3) := by decide +kernel
theorem eSp_lay_198 : decode prog_11_method_2_code 198 = .ok (.return_, 1) := by decide +kernel
theorem eSp_layRopes_0 : decode prog_11_method_3_code 0 = .ok (.aload_n 0, 1) := by decide +kernel
theorem eSp_layRopes_1 : decode prog_11_method_3_code 1 = .ok (.getfield 37, 3) := by decide +kernel
theorem eSp_layRopes_4 : decode prog_11_method_3_code 4 = .ok (.ineg, 1) := by decide +kernel
theorem eSp_layRopes_5 : decode prog_11_method_3_code 5 = .ok (.istore_n 3, 1) := by decide +kernel
theorem eSp_layRopes_6 : decode prog_11_method_3_code 6 = .ok (.iload_n 3, 1) := by decide +kernel
theorem eSp_layRopes_7 : decode prog_11_method_3_code 7 = .ok (.aload_n 0, 1) := by decide +kernel
theorem eSp_layRopes_8 : decode prog_11_method_3_code 8 = .ok (.getfield 37, 3) := by decide +kernel
theorem eSp_layRopes_11 : decode prog_11_method_3_code 11 = .ok (.if_icmp .gt 104, 3) := by decide +kernel
theorem eSp_layRopes_14 : decode prog_11_method_3_code 14 = .ok (.iload_n 1, 1) := by decide +kernel
theorem eSp_layRopes_15 : decode prog_11_method_3_code 15 = .ok (.aload_n 0, 1) := by decide +kernel
theorem eSp_layRopes_16 : decode prog_11_method_3_code 16 = .ok (.getfield 29, 3) := by decide +kernel
theorem eSp_layRopes_19 : decode prog_11_method_3_code 19 = .ok (.imul, 1) := by decide +kernel
theorem eSp_layRopes_20 : decode prog_11_method_3_code 20 = .ok (.iload_n 2, 1) := by decide +kernel
theorem eSp_layRopes_21 : decode prog_11_method_3_code 21 = .ok (.iadd, 1) := by decide +kernel
theorem eSp_layRopes_22 : decode prog_11_method_3_code 22 = .ok (.iconst 1, 1) := by decide +kernel
theorem eSp_layRopes_23 : decode prog_11_method_3_code 23 = .ok (.isub, 1) := by decide +kernel
theorem eSp_layRopes_24 : decode prog_11_method_3_code 24 = .ok (.aload_n 0, 1) := by decide +kernel
theorem eSp_layRopes_25 : decode prog_11_method_3_code 25 = .ok (.getfield 44, 3) := by decide +kernel
theorem eSp_layRopes_28 : decode prog_11_method_3_code 28 = .ok (.imul, 1) := by decide +kernel
theorem eSp_layRopes_29 : decode prog_11_method_3_code 29 = .ok (.iload_n 3, 1) := by decide +kernel
theorem eSp_layRopes_30 : decode prog_11_method_3_code 30 = .ok (.iadd, 1) := by decide +kernel
theorem eSp_layRopes_31 : decode prog_11_method_3_code 31 = .ok (.aload_n 0, 1) := by decide +kernel
theorem eSp_layRopes_32 : decode prog_11_method_3_code 32 = .ok (.getfield 37, 3) := by decide +kernel
theorem eSp_layRopes_35 : decode prog_11_method_3_code 35 = .ok (.iadd, 1) := by decide +kernel
theorem eSp_layRopes_36 : decode prog_11_method_3_code 36 = .ok (.istore 4, 2) := by decide +kernel
theorem eSp_layRopes_38 : decode prog_11_method_3_code 38 = .ok (.iload_n 1, 1) := by decide +kernel
theorem eSp_layRopes_39 : decode prog_11_method_3_code 39 = .ok (.iload_n 3, 1) := by decide +kernel
theorem eSp_layRopes_40 : decode prog_11_method_3_code 40 = .ok (.iadd, 1) := by decide +kernel
theorem eSp_layRopes_41 : decode prog_11_method_3_code 41 = .ok (.ifCond .lt 17, 3) := by decide +kernel
theorem eSp_layRopes_44 : decode prog_11_method_3_code 44 = .ok (.iload_n 1, 1) := by decide +kernel
theorem eSp_layRopes_45 : decode prog_11_method_3_code 45 = .ok (.iload_n 3, 1) := by decide +kernel
theorem eSp_layRopes_46 : decode prog_11_method_3_code 46 = .ok (.iadd, 1) := by decide +kernel
theorem eSp_layRopes_47 : decode prog_11_method_3_code 47 = .ok (.aload_n 0, 1) := by decide +kernel
theorem eSp_layRopes_48 : decode prog_11_method_3_code 48 = .ok (.getfield 25, 3) := by decide +kernel
theorem eSp_layRopes_51 : decode prog_11_method_3_code 51 = .ok (.if_icmp .ge 7, 3) := by decide +kernel
theorem eSp_layRopes_54 : decode prog_11_method_3_code 54 = .ok (.iconst 1, 1) := by decide +kernel
theorem eSp_layRopes_55 : decode prog_11_method_3_code 55 = .ok (.goto 4, 3) := by decide +kernel
theorem eSp_layRopes_58 : decode prog_11_method_3_code 58 = .ok (.iconst 0, 1) := by decide +kernel
theorem eSp_layRopes_59 : decode prog_11_method_3_code 59 = .ok (.istore 5, 2) := by decide +kernel
theorem eSp_layRopes_61 : decode prog_11_method_3_code 61 = .ok (.iload 5, 2) := by decide +kernel
theorem eSp_layRopes_63 : decode prog_11_method_3_code 63 = .ok (.ifCond .eq 46, 3) := by decide +kernel
theorem eSp_layRopes_66 : decode prog_11_method_3_code 66 = .ok (.iload 4, 2) := by decide +kernel
theorem eSp_layRopes_68 : decode prog_11_method_3_code 68 = .ok (.ifCond .lt 41, 3) := by decide +kernel
theorem eSp_layRopes_71 : decode prog_11_method_3_code 71 = .ok (.iload 4, 2) := by decide +kernel
theorem eSp_layRopes_73 : decode prog_11_method_3_code 73 = .ok (.aload_n 0, 1) := by decide +kernel
theorem eSp_layRopes_74 : decode prog_11_method_3_code 74 = .ok (.getfield 15, 3) := by decide +kernel
theorem eSp_layRopes_77 : decode prog_11_method_3_code 77 = .ok (.arraylength, 1) := by decide +kernel
theorem eSp_layRopes_78 : decode prog_11_method_3_code 78 = .ok (.if_icmp .ge 31, 3) := by decide +kernel
theorem eSp_layRopes_81 : decode prog_11_method_3_code 81 = .ok (.aload_n 0, 1) := by decide +kernel
theorem eSp_layRopes_82 : decode prog_11_method_3_code 82 = .ok (.iload_n 1, 1) := by decide +kernel
theorem eSp_layRopes_83 : decode prog_11_method_3_code 83 = .ok (.iload_n 2, 1) := by decide +kernel
theorem eSp_layRopes_84 : decode prog_11_method_3_code 84 = .ok (.iload_n 3, 1) := by decide +kernel
theorem eSp_layRopes_85 : decode prog_11_method_3_code 85 = .ok (.invokevirtual 61, 3) := by decide +kernel
theorem eSp_layRopes_88 : decode prog_11_method_3_code 88 = .ok (.ifCond .eq 21, 3) := by decide +kernel
theorem eSp_layRopes_91 : decode prog_11_method_3_code 91 = .ok (.aload_n 0, 1) := by decide +kernel
theorem eSp_layRopes_92 : decode prog_11_method_3_code 92 = .ok (.getfield 15, 3) := by decide +kernel
theorem eSp_layRopes_95 : decode prog_11_method_3_code 95 = .ok (.iload 4, 2) := by decide +kernel
theorem eSp_layRopes_97 : decode prog_11_method_3_code 97 = .ok (.iconst 1, 1) := by decide +kernel
theorem eSp_layRopes_98 : decode prog_11_method_3_code 98 = .ok (.bastore, 1) := by decide +kernel
theorem eSp_layRopes_99 : decode prog_11_method_3_code 99 = .ok (.aload_n 0, 1) := by decide +kernel
theorem eSp_layRopes_100 : decode prog_11_method_3_code 100 = .ok (.dup, 1) := by decide +kernel
theorem eSp_layRopes_101 : decode prog_11_method_3_code 101 = .ok (.getfield 54, 3) := by decide +kernel
theorem eSp_layRopes_104 : decode prog_11_method_3_code 104 = .ok (.iconst 1, 1) := by decide +kernel
theorem eSp_layRopes_105 : decode prog_11_method_3_code 105 = .ok (.iadd, 1) := by decide +kernel
theorem eSp_layRopes_106 : decode prog_11_method_3_code 106 = .ok (.putfield 54, 3) := by decide +kernel
theorem eSp_layRopes_109 : decode prog_11_method_3_code 109 = .ok (.iinc 3 1, 3) := by decide +kernel
theorem eSp_layRopes_112 : decode prog_11_method_3_code 112 = .ok (.goto (-106), 3) := by decide +kernel
theorem eSp_layRopes_115 : decode prog_11_method_3_code 115 = .ok (.return_, 1) := by decide +kernel
theorem eSp_freeAt_0 : decode prog_11_method_4_code 0 = .ok (.iload_n 1, 1) := by decide +kernel
theorem eSp_freeAt_1 : decode prog_11_method_4_code 1 = .ok (.ifCond .lt 21, 3) := by decide +kernel
theorem eSp_freeAt_4 : decode prog_11_method_4_code 4 = .ok (.iload_n 1, 1) := by decide +kernel
theorem eSp_freeAt_5 : decode prog_11_method_4_code 5 = .ok (.aload_n 0, 1) := by decide +kernel
theorem eSp_freeAt_6 : decode prog_11_method_4_code 6 = .ok (.getfield 9, 3) := by decide +kernel
theorem eSp_freeAt_9 : decode prog_11_method_4_code 9 = .ok (.arraylength, 1) := by decide +kernel
theorem eSp_freeAt_10 : decode prog_11_method_4_code 10 = .ok (.if_icmp .ge 12, 3) := by decide +kernel
theorem eSp_freeAt_13 : decode prog_11_method_4_code 13 = .ok (.aload_n 0, 1) := by decide +kernel
theorem eSp_freeAt_14 : decode prog_11_method_4_code 14 = .ok (.getfield 9, 3) := by decide +kernel
theorem eSp_freeAt_17 : decode prog_11_method_4_code 17 = .ok (.iload_n 1, 1) := by decide +kernel
theorem eSp_freeAt_18 : decode prog_11_method_4_code 18 = .ok (.iaload, 1) := by decide +kernel
theorem eSp_freeAt_19 : decode prog_11_method_4_code 19 = .ok (.goto 4, 3) := by decide +kernel
theorem eSp_freeAt_22 : decode prog_11_method_4_code 22 = .ok (.iconst 0, 1) := by decide +kernel
theorem eSp_freeAt_23 : decode prog_11_method_4_code 23 = .ok (.ireturn, 1) := by decide +kernel
theorem eSp_isClear_0 : decode prog_11_method_5_code 0 = .ok (.iload_n 3, 1) := by decide +kernel
theorem eSp_isClear_1 : decode prog_11_method_5_code 1 = .ok (.ifCond .ge 8, 3) := by decide +kernel
theorem eSp_isClear_4 : decode prog_11_method_5_code 4 = .ok (.iload_n 3, 1) := by decide +kernel
theorem eSp_isClear_5 : decode prog_11_method_5_code 5 = .ok (.ineg, 1) := by decide +kernel
theorem eSp_isClear_6 : decode prog_11_method_5_code 6 = .ok (.goto 4, 3) := by decide +kernel
theorem eSp_isClear_9 : decode prog_11_method_5_code 9 = .ok (.iload_n 3, 1) := by decide +kernel
theorem eSp_isClear_10 : decode prog_11_method_5_code 10 = .ok (.istore 4, 2) := by decide +kernel
theorem eSp_isClear_12 : decode prog_11_method_5_code 12 = .ok (.iload_n 3, 1) := by decide +kernel
theorem eSp_isClear_13 : decode prog_11_method_5_code 13 = .ok (.ifCond .ge 7, 3) := by decide +kernel
theorem eSp_isClear_16 : decode prog_11_method_5_code 16 = .ok (.iconst (-1), 1) := by decide +kernel
theorem eSp_isClear_17 : decode prog_11_method_5_code 17 = .ok (.goto 4, 3) := by decide +kernel
theorem eSp_isClear_20 : decode prog_11_method_5_code 20 = .ok (.iconst 1, 1) := by decide +kernel
theorem eSp_isClear_21 : decode prog_11_method_5_code 21 = .ok (.istore 5, 2) := by decide +kernel
theorem eSp_isClear_23 : decode prog_11_method_5_code 23 = .ok (.iconst 1, 1) := by decide +kernel
theorem eSp_isClear_24 : decode prog_11_method_5_code 24 = .ok (.istore 6, 2) := by decide +kernel
theorem eSp_isClear_26 : decode prog_11_method_5_code 26 = .ok (.iload 6, 2) := by decide +kernel
theorem eSp_isClear_28 : decode prog_11_method_5_code 28 = .ok (.iload 4, 2) := by decide +kernel
theorem eSp_isClear_30 : decode prog_11_method_5_code 30 = .ok (.if_icmp .ge 37, 3) := by decide +kernel
theorem eSp_isClear_33 : decode prog_11_method_5_code 33 = .ok (.iload_n 2, 1) := by decide +kernel
theorem eSp_isClear_34 : decode prog_11_method_5_code 34 = .ok (.iload 6, 2) := by decide +kernel
theorem eSp_isClear_36 : decode prog_11_method_5_code 36 = .ok (.imul, 1) := by decide +kernel
theorem eSp_isClear_37 : decode prog_11_method_5_code 37 = .ok (.iload 4, 2) := by decide +kernel
theorem eSp_isClear_39 : decode prog_11_method_5_code 39 = .ok (.iadd, 1) := by decide +kernel
theorem eSp_isClear_40 : decode prog_11_method_5_code 40 = .ok (.iconst 1, 1) := by decide +kernel
theorem eSp_isClear_41 : decode prog_11_method_5_code 41 = .ok (.isub, 1) := by decide +kernel
theorem eSp_isClear_42 : decode prog_11_method_5_code 42 = .ok (.iload 4, 2) := by decide +kernel
theorem eSp_isClear_44 : decode prog_11_method_5_code 44 = .ok (.idiv, 1) := by decide +kernel
theorem eSp_isClear_45 : decode prog_11_method_5_code 45 = .ok (.aload_n 0, 1) := by decide +kernel
theorem eSp_isClear_46 : decode prog_11_method_5_code 46 = .ok (.iload_n 1, 1) := by decide +kernel
theorem eSp_isClear_47 : decode prog_11_method_5_code 47 = .ok (.iload 5, 2) := by decide +kernel
theorem eSp_isClear_49 : decode prog_11_method_5_code 49 = .ok (.iload 6, 2) := by decide +kernel
theorem eSp_isClear_51 : decode prog_11_method_5_code 51 = .ok (.imul, 1) := by decide +kernel
theorem eSp_isClear_52 : decode prog_11_method_5_code 52 = .ok (.iadd, 1) := by decide +kernel
theorem eSp_isClear_53 : decode prog_11_method_5_code 53 = .ok (.invokevirtual 65, 3) := by decide +kernel
theorem eSp_isClear_56 : decode prog_11_method_5_code 56 = .ok (.if_icmp .le 5, 3) := by decide +kernel
theorem eSp_isClear_59 : decode prog_11_method_5_code 59 = .ok (.iconst 0, 1) := by decide +kernel
theorem eSp_isClear_60 : decode prog_11_method_5_code 60 = .ok (.ireturn, 1) := by decide +kernel
theorem eSp_isClear_61 : decode prog_11_method_5_code 61 = .ok (.iinc 6 1, 3) := by decide +kernel
theorem eSp_isClear_64 : decode prog_11_method_5_code 64 = .ok (.goto (-38), 3) := by decide +kernel
theorem eSp_isClear_67 : decode prog_11_method_5_code 67 = .ok (.iload_n 2, 1) := by decide +kernel
theorem eSp_isClear_68 : decode prog_11_method_5_code 68 = .ok (.aload_n 0, 1) := by decide +kernel
theorem eSp_isClear_69 : decode prog_11_method_5_code 69 = .ok (.getfield 38, 3) := by decide +kernel
theorem eSp_isClear_72 : decode prog_11_method_5_code 72 = .ok (.iadd, 1) := by decide +kernel
theorem eSp_isClear_73 : decode prog_11_method_5_code 73 = .ok (.aload_n 0, 1) := by decide +kernel
theorem eSp_isClear_74 : decode prog_11_method_5_code 74 = .ok (.iload_n 1, 1) := by decide +kernel
theorem eSp_isClear_75 : decode prog_11_method_5_code 75 = .ok (.iload_n 3, 1) := by decide +kernel
theorem eSp_isClear_76 : decode prog_11_method_5_code 76 = .ok (.iadd, 1) := by decide +kernel
theorem eSp_isClear_77 : decode prog_11_method_5_code 77 = .ok (.invokevirtual 65, 3) := by decide +kernel
theorem eSp_isClear_80 : decode prog_11_method_5_code 80 = .ok (.if_icmp .gt 7, 3) := by decide +kernel
theorem eSp_isClear_83 : decode prog_11_method_5_code 83 = .ok (.iconst 1, 1) := by decide +kernel
theorem eSp_isClear_84 : decode prog_11_method_5_code 84 = .ok (.goto 4, 3) := by decide +kernel
theorem eSp_isClear_87 : decode prog_11_method_5_code 87 = .ok (.iconst 0, 1) := by decide +kernel
theorem eSp_isClear_88 : decode prog_11_method_5_code 88 = .ok (.ireturn, 1) := by decide +kernel
theorem eSp_whyNot_0 : decode prog_11_method_6_code 0 = .ok (.aload_n 1, 1) := by decide +kernel
theorem eSp_whyNot_1 : decode prog_11_method_6_code 1 = .ok (.getfield 69, 3) := by decide +kernel
theorem eSp_whyNot_4 : decode prog_11_method_6_code 4 = .ok (.ifCond .lt 14, 3) := by decide +kernel
theorem eSp_whyNot_7 : decode prog_11_method_6_code 7 = .ok (.aload_n 1, 1) := by decide +kernel
theorem eSp_whyNot_8 : decode prog_11_method_6_code 8 = .ok (.getfield 69, 3) := by decide +kernel
theorem eSp_whyNot_11 : decode prog_11_method_6_code 11 = .ok (.aload_n 0, 1) := by decide +kernel
theorem eSp_whyNot_12 : decode prog_11_method_6_code 12 = .ok (.getfield 25, 3) := by decide +kernel
theorem eSp_whyNot_15 : decode prog_11_method_6_code 15 = .ok (.if_icmp .lt 5, 3) := by decide +kernel
theorem eSp_whyNot_18 : decode prog_11_method_6_code 18 = .ok (.iconst 1, 1) := by decide +kernel
theorem eSp_whyNot_19 : decode prog_11_method_6_code 19 = .ok (.ireturn, 1) := by decide +kernel
theorem eSp_whyNot_20 : decode prog_11_method_6_code 20 = .ok (.aload_n 1, 1) := by decide +kernel
theorem eSp_whyNot_21 : decode prog_11_method_6_code 21 = .ok (.getfield 74, 3) := by decide +kernel
theorem eSp_whyNot_24 : decode prog_11_method_6_code 24 = .ok (.aload_n 0, 1) := by decide +kernel
theorem eSp_whyNot_25 : decode prog_11_method_6_code 25 = .ok (.getfield 33, 3) := by decide +kernel
theorem eSp_whyNot_28 : decode prog_11_method_6_code 28 = .ok (.ineg, 1) := by decide +kernel
theorem eSp_whyNot_29 : decode prog_11_method_6_code 29 = .ok (.if_icmp .lt 14, 3) := by decide +kernel
theorem eSp_whyNot_32 : decode prog_11_method_6_code 32 = .ok (.aload_n 1, 1) := by decide +kernel
theorem eSp_whyNot_33 : decode prog_11_method_6_code 33 = .ok (.getfield 74, 3) := by decide +kernel
theorem eSp_whyNot_36 : decode prog_11_method_6_code 36 = .ok (.aload_n 0, 1) := by decide +kernel
theorem eSp_whyNot_37 : decode prog_11_method_6_code 37 = .ok (.getfield 33, 3) := by decide +kernel
theorem eSp_whyNot_40 : decode prog_11_method_6_code 40 = .ok (.if_icmp .le 5, 3) := by decide +kernel
theorem eSp_whyNot_43 : decode prog_11_method_6_code 43 = .ok (.iconst 2, 1) := by decide +kernel
theorem eSp_whyNot_44 : decode prog_11_method_6_code 44 = .ok (.ireturn, 1) := by decide +kernel
theorem eSp_whyNot_45 : decode prog_11_method_6_code 45 = .ok (.aload_n 1, 1) := by decide +kernel
theorem eSp_whyNot_46 : decode prog_11_method_6_code 46 = .ok (.getfield 77, 3) := by decide +kernel
theorem eSp_whyNot_49 : decode prog_11_method_6_code 49 = .ok (.iconst 1, 1) := by decide +kernel
theorem eSp_whyNot_50 : decode prog_11_method_6_code 50 = .ok (.if_icmp .lt 14, 3) := by decide +kernel
theorem eSp_whyNot_53 : decode prog_11_method_6_code 53 = .ok (.aload_n 1, 1) := by decide +kernel
theorem eSp_whyNot_54 : decode prog_11_method_6_code 54 = .ok (.getfield 77, 3) := by decide +kernel
theorem eSp_whyNot_57 : decode prog_11_method_6_code 57 = .ok (.aload_n 0, 1) := by decide +kernel
theorem eSp_whyNot_58 : decode prog_11_method_6_code 58 = .ok (.getfield 29, 3) := by decide +kernel
theorem eSp_whyNot_61 : decode prog_11_method_6_code 61 = .ok (.if_icmp .le 5, 3) := by decide +kernel
theorem eSp_whyNot_64 : decode prog_11_method_6_code 64 = .ok (.iconst 3, 1) := by decide +kernel
theorem eSp_whyNot_65 : decode prog_11_method_6_code 65 = .ok (.ireturn, 1) := by decide +kernel
theorem eSp_whyNot_66 : decode prog_11_method_6_code 66 = .ok (.aload_n 1, 1) := by decide +kernel
theorem eSp_whyNot_67 : decode prog_11_method_6_code 67 = .ok (.getfield 80, 3) := by decide +kernel
theorem eSp_whyNot_70 : decode prog_11_method_6_code 70 = .ok (.aload_n 0, 1) := by decide +kernel
theorem eSp_whyNot_71 : decode prog_11_method_6_code 71 = .ok (.getfield 37, 3) := by decide +kernel
theorem eSp_whyNot_74 : decode prog_11_method_6_code 74 = .ok (.ineg, 1) := by decide +kernel
theorem eSp_whyNot_75 : decode prog_11_method_6_code 75 = .ok (.if_icmp .lt 14, 3) := by decide +kernel
theorem eSp_whyNot_78 : decode prog_11_method_6_code 78 = .ok (.aload_n 1, 1) := by decide +kernel
theorem eSp_whyNot_79 : decode prog_11_method_6_code 79 = .ok (.getfield 80, 3) := by decide +kernel
theorem eSp_whyNot_82 : decode prog_11_method_6_code 82 = .ok (.aload_n 0, 1) := by decide +kernel
theorem eSp_whyNot_83 : decode prog_11_method_6_code 83 = .ok (.getfield 37, 3) := by decide +kernel
theorem eSp_whyNot_86 : decode prog_11_method_6_code 86 = .ok (.if_icmp .le 5, 3) := by decide +kernel
theorem eSp_whyNot_89 : decode prog_11_method_6_code 89 = .ok (.iconst 4, 1) := by decide +kernel
theorem eSp_whyNot_90 : decode prog_11_method_6_code 90 = .ok (.ireturn, 1) := by decide +kernel
theorem eSp_whyNot_91 : decode prog_11_method_6_code 91 = .ok (.aload_n 1, 1) := by decide +kernel
theorem eSp_whyNot_92 : decode prog_11_method_6_code 92 = .ok (.invokevirtual 83, 3) := by decide +kernel
theorem eSp_whyNot_95 : decode prog_11_method_6_code 95 = .ok (.istore_n 2, 1) := by decide +kernel
theorem eSp_whyNot_96 : decode prog_11_method_6_code 96 = .ok (.iload_n 2, 1) := by decide +kernel
theorem eSp_whyNot_97 : decode prog_11_method_6_code 97 = .ok (.ifCond .lt 11, 3) := by decide +kernel
theorem eSp_whyNot_100 : decode prog_11_method_6_code 100 = .ok (.iload_n 2, 1) := by decide +kernel
theorem eSp_whyNot_101 : decode prog_11_method_6_code 101 = .ok (.aload_n 0, 1) := by decide +kernel
theorem eSp_whyNot_102 : decode prog_11_method_6_code 102 = .ok (.getfield 25, 3) := by decide +kernel
theorem eSp_whyNot_105 : decode prog_11_method_6_code 105 = .ok (.if_icmp .lt 5, 3) := by decide +kernel
theorem eSp_whyNot_108 : decode prog_11_method_6_code 108 = .ok (.iconst 5, 1) := by decide +kernel
theorem eSp_whyNot_109 : decode prog_11_method_6_code 109 = .ok (.ireturn, 1) := by decide +kernel
theorem eSp_whyNot_110 : decode prog_11_method_6_code 110 = .ok (.aload_n 0, 1) := by decide +kernel
theorem eSp_whyNot_111 : decode prog_11_method_6_code 111 = .ok (.aload_n 1, 1) := by decide +kernel
theorem eSp_whyNot_112 : decode prog_11_method_6_code 112 = .ok (.getfield 69, 3) := by decide +kernel
theorem eSp_whyNot_115 : decode prog_11_method_6_code 115 = .ok (.aload_n 1, 1) := by decide +kernel
theorem eSp_whyNot_116 : decode prog_11_method_6_code 116 = .ok (.getfield 77, 3) := by decide +kernel
theorem eSp_whyNot_119 : decode prog_11_method_6_code 119 = .ok (.aload_n 1, 1) := by decide +kernel
theorem eSp_whyNot_120 : decode prog_11_method_6_code 120 = .ok (.getfield 80, 3) := by decide +kernel
theorem eSp_whyNot_123 : decode prog_11_method_6_code 123 = .ok (.invokevirtual 61, 3) := by decide +kernel
theorem eSp_whyNot_126 : decode prog_11_method_6_code 126 = .ok (.ifCond .eq 7, 3) := by decide +kernel
theorem eSp_whyNot_129 : decode prog_11_method_6_code 129 = .ok (.iconst 0, 1) := by decide +kernel
theorem eSp_whyNot_130 : decode prog_11_method_6_code 130 = .ok (.goto 5, 3) := by decide +kernel
theorem eSp_whyNot_133 : decode prog_11_method_6_code 133 = .ok (.bipush 6, 2) := by decide +kernel
theorem eSp_whyNot_135 : decode prog_11_method_6_code 135 = .ok (.ireturn, 1) := by decide +kernel
theorem eSp_numberOf_0 : decode prog_11_method_7_code 0 = .ok (.aload_n 1, 1) := by decide +kernel
theorem eSp_numberOf_1 : decode prog_11_method_7_code 1 = .ok (.getfield 69, 3) := by decide +kernel
theorem eSp_numberOf_4 : decode prog_11_method_7_code 4 = .ok (.ifCond .lt 33, 3) := by decide +kernel
theorem eSp_numberOf_7 : decode prog_11_method_7_code 7 = .ok (.aload_n 1, 1) := by decide +kernel
theorem eSp_numberOf_8 : decode prog_11_method_7_code 8 = .ok (.getfield 69, 3) := by decide +kernel
theorem eSp_numberOf_11 : decode prog_11_method_7_code 11 = .ok (.aload_n 0, 1) := by decide +kernel
theorem eSp_numberOf_12 : decode prog_11_method_7_code 12 = .ok (.getfield 25, 3) := by decide +kernel
theorem eSp_numberOf_15 : decode prog_11_method_7_code 15 = .ok (.if_icmp .ge 22, 3) := by decide +kernel
theorem eSp_numberOf_18 : decode prog_11_method_7_code 18 = .ok (.aload_n 1, 1) := by decide +kernel
theorem eSp_numberOf_19 : decode prog_11_method_7_code 19 = .ok (.getfield 77, 3) := by decide +kernel
theorem eSp_numberOf_22 : decode prog_11_method_7_code 22 = .ok (.iconst 1, 1) := by decide +kernel
theorem eSp_numberOf_23 : decode prog_11_method_7_code 23 = .ok (.if_icmp .lt 14, 3) := by decide +kernel
theorem eSp_numberOf_26 : decode prog_11_method_7_code 26 = .ok (.aload_n 1, 1) := by decide +kernel
theorem eSp_numberOf_27 : decode prog_11_method_7_code 27 = .ok (.getfield 77, 3) := by decide +kernel
theorem eSp_numberOf_30 : decode prog_11_method_7_code 30 = .ok (.aload_n 0, 1) := by decide +kernel
theorem eSp_numberOf_31 : decode prog_11_method_7_code 31 = .ok (.getfield 29, 3) := by decide +kernel
theorem eSp_numberOf_34 : decode prog_11_method_7_code 34 = .ok (.if_icmp .le 5, 3) := by decide +kernel
theorem eSp_numberOf_37 : decode prog_11_method_7_code 37 = .ok (.iconst (-1), 1) := by decide +kernel
theorem eSp_numberOf_38 : decode prog_11_method_7_code 38 = .ok (.ireturn, 1) := by decide +kernel
theorem eSp_numberOf_39 : decode prog_11_method_7_code 39 = .ok (.aload_n 1, 1) := by decide +kernel
theorem eSp_numberOf_40 : decode prog_11_method_7_code 40 = .ok (.getfield 74, 3) := by decide +kernel
theorem eSp_numberOf_43 : decode prog_11_method_7_code 43 = .ok (.aload_n 0, 1) := by decide +kernel
theorem eSp_numberOf_44 : decode prog_11_method_7_code 44 = .ok (.getfield 33, 3) := by decide +kernel
theorem eSp_numberOf_47 : decode prog_11_method_7_code 47 = .ok (.iadd, 1) := by decide +kernel
theorem eSp_numberOf_48 : decode prog_11_method_7_code 48 = .ok (.istore_n 2, 1) := by decide +kernel
theorem eSp_numberOf_49 : decode prog_11_method_7_code 49 = .ok (.aload_n 1, 1) := by decide +kernel
theorem eSp_numberOf_50 : decode prog_11_method_7_code 50 = .ok (.getfield 80, 3) := by decide +kernel
theorem eSp_numberOf_53 : decode prog_11_method_7_code 53 = .ok (.aload_n 0, 1) := by decide +kernel
theorem eSp_numberOf_54 : decode prog_11_method_7_code 54 = .ok (.getfield 37, 3) := by decide +kernel
theorem eSp_numberOf_57 : decode prog_11_method_7_code 57 = .ok (.iadd, 1) := by decide +kernel
theorem eSp_numberOf_58 : decode prog_11_method_7_code 58 = .ok (.istore_n 3, 1) := by decide +kernel
theorem eSp_numberOf_59 : decode prog_11_method_7_code 59 = .ok (.aload_n 1, 1) := by decide +kernel
theorem eSp_numberOf_60 : decode prog_11_method_7_code 60 = .ok (.getfield 87, 3) := by decide +kernel
theorem eSp_numberOf_63 : decode prog_11_method_7_code 63 = .ok (.aload_n 0, 1) := by decide +kernel
theorem eSp_numberOf_64 : decode prog_11_method_7_code 64 = .ok (.getfield 37, 3) := by decide +kernel
theorem eSp_numberOf_67 : decode prog_11_method_7_code 67 = .ok (.iadd, 1) := by decide +kernel
theorem eSp_numberOf_68 : decode prog_11_method_7_code 68 = .ok (.istore 4, 2) := by decide +kernel
theorem eSp_numberOf_70 : decode prog_11_method_7_code 70 = .ok (.iload_n 2, 1) := by decide +kernel
theorem eSp_numberOf_71 : decode prog_11_method_7_code 71 = .ok (.ifCond .lt 37, 3) := by decide +kernel
theorem eSp_numberOf_74 : decode prog_11_method_7_code 74 = .ok (.iload_n 2, 1) := by decide +kernel
theorem eSp_numberOf_75 : decode prog_11_method_7_code 75 = .ok (.aload_n 0, 1) := by decide +kernel
theorem eSp_numberOf_76 : decode prog_11_method_7_code 76 = .ok (.getfield 41, 3) := by decide +kernel
theorem eSp_numberOf_79 : decode prog_11_method_7_code 79 = .ok (.if_icmp .ge 29, 3) := by decide +kernel
theorem eSp_numberOf_82 : decode prog_11_method_7_code 82 = .ok (.iload_n 3, 1) := by decide +kernel
theorem eSp_numberOf_83 : decode prog_11_method_7_code 83 = .ok (.ifCond .lt 25, 3) := by decide +kernel
theorem eSp_numberOf_86 : decode prog_11_method_7_code 86 = .ok (.iload_n 3, 1) := by decide +kernel
theorem eSp_numberOf_87 : decode prog_11_method_7_code 87 = .ok (.aload_n 0, 1) := by decide +kernel
theorem eSp_numberOf_88 : decode prog_11_method_7_code 88 = .ok (.getfield 44, 3) := by decide +kernel
theorem eSp_numberOf_91 : decode prog_11_method_7_code 91 = .ok (.if_icmp .ge 17, 3) := by decide +kernel
theorem eSp_numberOf_94 : decode prog_11_method_7_code 94 = .ok (.iload 4, 2) := by decide +kernel
theorem eSp_numberOf_96 : decode prog_11_method_7_code 96 = .ok (.ifCond .lt 12, 3) := by decide +kernel
theorem eSp_numberOf_99 : decode prog_11_method_7_code 99 = .ok (.iload 4, 2) := by decide +kernel
theorem eSp_numberOf_101 : decode prog_11_method_7_code 101 = .ok (.aload_n 0, 1) := by decide +kernel
theorem eSp_numberOf_102 : decode prog_11_method_7_code 102 = .ok (.getfield 44, 3) := by decide +kernel
theorem eSp_numberOf_105 : decode prog_11_method_7_code 105 = .ok (.if_icmp .lt 5, 3) := by decide +kernel
theorem eSp_numberOf_108 : decode prog_11_method_7_code 108 = .ok (.iconst (-1), 1) := by decide +kernel
theorem eSp_numberOf_109 : decode prog_11_method_7_code 109 = .ok (.ireturn, 1) := by decide +kernel
theorem eSp_numberOf_110 : decode prog_11_method_7_code 110 = .ok (.aload_n 1, 1) := by decide +kernel
theorem eSp_numberOf_111 : decode prog_11_method_7_code 111 = .ok (.getfield 69, 3) := by decide +kernel
theorem eSp_numberOf_114 : decode prog_11_method_7_code 114 = .ok (.aload_n 0, 1) := by decide +kernel
theorem eSp_numberOf_115 : decode prog_11_method_7_code 115 = .ok (.getfield 29, 3) := by decide +kernel
theorem eSp_numberOf_118 : decode prog_11_method_7_code 118 = .ok (.imul, 1) := by decide +kernel
theorem eSp_numberOf_119 : decode prog_11_method_7_code 119 = .ok (.aload_n 1, 1) := by decide +kernel
theorem eSp_numberOf_120 : decode prog_11_method_7_code 120 = .ok (.getfield 77, 3) := by decide +kernel
theorem eSp_numberOf_123 : decode prog_11_method_7_code 123 = .ok (.iadd, 1) := by decide +kernel
theorem eSp_numberOf_124 : decode prog_11_method_7_code 124 = .ok (.iconst 1, 1) := by decide +kernel
theorem eSp_numberOf_125 : decode prog_11_method_7_code 125 = .ok (.isub, 1) := by decide +kernel
theorem eSp_numberOf_126 : decode prog_11_method_7_code 126 = .ok (.aload_n 0, 1) := by decide +kernel
theorem eSp_numberOf_127 : decode prog_11_method_7_code 127 = .ok (.getfield 44, 3) := by decide +kernel
theorem eSp_numberOf_130 : decode prog_11_method_7_code 130 = .ok (.imul, 1) := by decide +kernel
theorem eSp_numberOf_131 : decode prog_11_method_7_code 131 = .ok (.iload_n 3, 1) := by decide +kernel
theorem eSp_numberOf_132 : decode prog_11_method_7_code 132 = .ok (.iadd, 1) := by decide +kernel
theorem eSp_numberOf_133 : decode prog_11_method_7_code 133 = .ok (.istore 5, 2) := by decide +kernel
theorem eSp_numberOf_135 : decode prog_11_method_7_code 135 = .ok (.iload 5, 2) := by decide +kernel
theorem eSp_numberOf_137 : decode prog_11_method_7_code 137 = .ok (.ifCond .lt 23, 3) := by decide +kernel
theorem eSp_numberOf_140 : decode prog_11_method_7_code 140 = .ok (.iload 5, 2) := by decide +kernel
theorem eSp_numberOf_142 : decode prog_11_method_7_code 142 = .ok (.aload_n 0, 1) := by decide +kernel
theorem eSp_numberOf_143 : decode prog_11_method_7_code 143 = .ok (.getfield 15, 3) := by decide +kernel
theorem eSp_numberOf_146 : decode prog_11_method_7_code 146 = .ok (.arraylength, 1) := by decide +kernel
theorem eSp_numberOf_147 : decode prog_11_method_7_code 147 = .ok (.if_icmp .ge 13, 3) := by decide +kernel
theorem eSp_numberOf_150 : decode prog_11_method_7_code 150 = .ok (.aload_n 0, 1) := by decide +kernel
theorem eSp_numberOf_151 : decode prog_11_method_7_code 151 = .ok (.getfield 15, 3) := by decide +kernel
theorem eSp_numberOf_154 : decode prog_11_method_7_code 154 = .ok (.iload 5, 2) := by decide +kernel
theorem eSp_numberOf_156 : decode prog_11_method_7_code 156 = .ok (.baload, 1) := by decide +kernel
theorem eSp_numberOf_157 : decode prog_11_method_7_code 157 = .ok (.ifCond .ne 5, 3) := by decide +kernel
theorem eSp_numberOf_160 : decode prog_11_method_7_code 160 = .ok (.iconst (-1), 1) := by decide +kernel
theorem eSp_numberOf_161 : decode prog_11_method_7_code 161 = .ok (.ireturn, 1) := by decide +kernel
theorem eSp_numberOf_162 : decode prog_11_method_7_code 162 = .ok (.iload 5, 2) := by decide +kernel
theorem eSp_numberOf_164 : decode prog_11_method_7_code 164 = .ok (.aload_n 0, 1) := by decide +kernel
theorem eSp_numberOf_165 : decode prog_11_method_7_code 165 = .ok (.getfield 41, 3) := by decide +kernel
theorem eSp_numberOf_168 : decode prog_11_method_7_code 168 = .ok (.imul, 1) := by decide +kernel
theorem eSp_numberOf_169 : decode prog_11_method_7_code 169 = .ok (.iload_n 2, 1) := by decide +kernel
theorem eSp_numberOf_170 : decode prog_11_method_7_code 170 = .ok (.iadd, 1) := by decide +kernel
theorem eSp_numberOf_171 : decode prog_11_method_7_code 171 = .ok (.aload_n 0, 1) := by decide +kernel
theorem eSp_numberOf_172 : decode prog_11_method_7_code 172 = .ok (.getfield 44, 3) := by decide +kernel
theorem eSp_numberOf_175 : decode prog_11_method_7_code 175 = .ok (.imul, 1) := by decide +kernel
theorem eSp_numberOf_176 : decode prog_11_method_7_code 176 = .ok (.iload 4, 2) := by decide +kernel
theorem eSp_numberOf_178 : decode prog_11_method_7_code 178 = .ok (.iadd, 1) := by decide +kernel
theorem eSp_numberOf_179 : decode prog_11_method_7_code 179 = .ok (.ireturn, 1) := by decide +kernel
theorem eSp_countStates_0 : decode prog_11_method_8_code 0 = .ok (.aload_n 0, 1) := by decide +kernel
theorem eSp_countStates_1 : decode prog_11_method_8_code 1 = .ok (.getfield 54, 3) := by decide +kernel
theorem eSp_countStates_4 : decode prog_11_method_8_code 4 = .ok (.aload_n 0, 1) := by decide +kernel
theorem eSp_countStates_5 : decode prog_11_method_8_code 5 = .ok (.getfield 41, 3) := by decide +kernel
theorem eSp_countStates_8 : decode prog_11_method_8_code 8 = .ok (.imul, 1) := by decide +kernel
theorem eSp_countStates_9 : decode prog_11_method_8_code 9 = .ok (.aload_n 0, 1) := by decide +kernel
theorem eSp_countStates_10 : decode prog_11_method_8_code 10 = .ok (.getfield 44, 3) := by decide +kernel
theorem eSp_countStates_13 : decode prog_11_method_8_code 13 = .ok (.imul, 1) := by decide +kernel
theorem eSp_countStates_14 : decode prog_11_method_8_code 14 = .ok (.ireturn, 1) := by decide +kernel
theorem eWa_init_0 : decode prog_12_method_1_code 0 = .ok (.aload_n 0, 1) := by decide +kernel
theorem eWa_init_1 : decode prog_12_method_1_code 1 = .ok (.invokespecial 3, 3) := by decide +kernel
theorem eWa_init_4 : decode prog_12_method_1_code 4 = .ok (.aload_n 0, 1) := by decide +kernel
theorem eWa_init_5 : decode prog_12_method_1_code 5 = .ok (.aload_n 1, 1) := by decide +kernel
theorem eWa_init_6 : decode prog_12_method_1_code 6 = .ok (.putfield 9, 3) := by decide +kernel
theorem eWa_init_9 : decode prog_12_method_1_code 9 = .ok (.aload_n 0, 1) := by decide +kernel
theorem eWa_init_10 : decode prog_12_method_1_code 10 = .ok (.aload_n 2, 1) := by decide +kernel
theorem eWa_init_11 : decode prog_12_method_1_code 11 = .ok (.putfield 15, 3) := by decide +kernel
theorem eWa_init_14 : decode prog_12_method_1_code 14 = .ok (.aload_n 0, 1) := by decide +kernel
theorem eWa_init_15 : decode prog_12_method_1_code 15 = .ok (.new 19, 3) := by decide +kernel
theorem eWa_init_18 : decode prog_12_method_1_code 18 = .ok (.dup, 1) := by decide +kernel
theorem eWa_init_19 : decode prog_12_method_1_code 19 = .ok (.invokespecial 21, 3) := by decide +kernel
theorem eWa_init_22 : decode prog_12_method_1_code 22 = .ok (.putfield 22, 3) := by decide +kernel
theorem eWa_init_25 : decode prog_12_method_1_code 25 = .ok (.aload_n 0, 1) := by decide +kernel
theorem eWa_init_26 : decode prog_12_method_1_code 26 = .ok (.new 19, 3) := by decide +kernel
theorem eWa_init_29 : decode prog_12_method_1_code 29 = .ok (.dup, 1) := by decide +kernel
theorem eWa_init_30 : decode prog_12_method_1_code 30 = .ok (.invokespecial 21, 3) := by decide +kernel
theorem eWa_init_33 : decode prog_12_method_1_code 33 = .ok (.putfield 26, 3) := by decide +kernel
theorem eWa_init_36 : decode prog_12_method_1_code 36 = .ok (.aload_n 0, 1) := by decide +kernel
theorem eWa_init_37 : decode prog_12_method_1_code 37 = .ok (.new 29, 3) := by decide +kernel
theorem eWa_init_40 : decode prog_12_method_1_code 40 = .ok (.dup, 1) := by decide +kernel
theorem eWa_init_41 : decode prog_12_method_1_code 41 = .ok (.aload_n 0, 1) := by decide +kernel
theorem eWa_init_42 : decode prog_12_method_1_code 42 = .ok (.getfield 22, 3) := by decide +kernel
theorem eWa_init_45 : decode prog_12_method_1_code 45 = .ok (.invokespecial 31, 3) := by decide +kernel
theorem eWa_init_48 : decode prog_12_method_1_code 48 = .ok (.putfield 34, 3) := by decide +kernel
theorem eWa_init_51 : decode prog_12_method_1_code 51 = .ok (.aload_n 0, 1) := by decide +kernel
theorem eWa_init_52 : decode prog_12_method_1_code 52 = .ok (.new 29, 3) := by decide +kernel
theorem eWa_init_55 : decode prog_12_method_1_code 55 = .ok (.dup, 1) := by decide +kernel
theorem eWa_init_56 : decode prog_12_method_1_code 56 = .ok (.aload_n 0, 1) := by decide +kernel
theorem eWa_init_57 : decode prog_12_method_1_code 57 = .ok (.getfield 22, 3) := by decide +kernel
theorem eWa_init_60 : decode prog_12_method_1_code 60 = .ok (.invokespecial 31, 3) := by decide +kernel
theorem eWa_init_63 : decode prog_12_method_1_code 63 = .ok (.putfield 38, 3) := by decide +kernel
theorem eWa_init_66 : decode prog_12_method_1_code 66 = .ok (.aload_n 0, 1) := by decide +kernel
theorem eWa_init_67 : decode prog_12_method_1_code 67 = .ok (.new 29, 3) := by decide +kernel
theorem eWa_init_70 : decode prog_12_method_1_code 70 = .ok (.dup, 1) := by decide +kernel
theorem eWa_init_71 : decode prog_12_method_1_code 71 = .ok (.aload_n 0, 1) := by decide +kernel
theorem eWa_init_72 : decode prog_12_method_1_code 72 = .ok (.getfield 22, 3) := by decide +kernel
theorem eWa_init_75 : decode prog_12_method_1_code 75 = .ok (.invokespecial 31, 3) := by decide +kernel
theorem eWa_init_78 : decode prog_12_method_1_code 78 = .ok (.putfield 41, 3) := by decide +kernel
theorem eWa_init_81 : decode prog_12_method_1_code 81 = .ok (.aload_n 0, 1) := by decide +kernel
theorem eWa_init_82 : decode prog_12_method_1_code 82 = .ok (.bipush 36, 2) := by decide +kernel
theorem eWa_init_84 : decode prog_12_method_1_code 84 = .ok (.newarray .int, 2) := by decide +kernel
theorem eWa_init_86 : decode prog_12_method_1_code 86 = .ok (.putfield 44, 3) := by decide +kernel
theorem eWa_init_89 : decode prog_12_method_1_code 89 = .ok (.aload_n 0, 1) := by decide +kernel
theorem eWa_init_90 : decode prog_12_method_1_code 90 = .ok (.new 48, 3) := by decide +kernel
theorem eWa_init_93 : decode prog_12_method_1_code 93 = .ok (.dup, 1) := by decide +kernel
theorem eWa_init_94 : decode prog_12_method_1_code 94 = .ok (.invokespecial 50, 3) := by decide +kernel
theorem eWa_init_97 : decode prog_12_method_1_code 97 = .ok (.putfield 51, 3) := by decide +kernel
theorem eWa_init_100 : decode prog_12_method_1_code 100 = .ok (.aload_n 0, 1) := by decide +kernel
theorem eWa_init_101 : decode prog_12_method_1_code 101 = .ok (.new 48, 3) := by decide +kernel
theorem eWa_init_104 : decode prog_12_method_1_code 104 = .ok (.dup, 1) := by decide +kernel
theorem eWa_init_105 : decode prog_12_method_1_code 105 = .ok (.invokespecial 50, 3) := by decide +kernel
theorem eWa_init_108 : decode prog_12_method_1_code 108 = .ok (.putfield 55, 3) := by decide +kernel
theorem eWa_init_111 : decode prog_12_method_1_code 111 = .ok (.return_, 1) := by decide +kernel
theorem eWa_moved_0 : decode prog_12_method_2_code 0 = .ok (.aload_n 0, 1) := by decide +kernel
theorem eWa_moved_1 : decode prog_12_method_2_code 1 = .ok (.iconst 0, 1) := by decide +kernel
theorem eWa_moved_2 : decode prog_12_method_2_code 2 = .ok (.putfield 58, 3) := by decide +kernel
theorem eWa_moved_5 : decode prog_12_method_2_code 5 = .ok (.aload_n 0, 1) := by decide +kernel
theorem eWa_moved_6 : decode prog_12_method_2_code 6 = .ok (.dup, 1) := by decide +kernel
theorem eWa_moved_7 : decode prog_12_method_2_code 7 = .ok (.getfield 62, 3) := by decide +kernel
theorem eWa_moved_10 : decode prog_12_method_2_code 10 = .ok (.iconst 1, 1) := by decide +kernel
theorem eWa_moved_11 : decode prog_12_method_2_code 11 = .ok (.iadd, 1) := by decide +kernel
theorem eWa_moved_12 : decode prog_12_method_2_code 12 = .ok (.putfield 62, 3) := by decide +kernel
theorem eWa_moved_15 : decode prog_12_method_2_code 15 = .ok (.return_, 1) := by decide +kernel
theorem eWa_changed_0 : decode prog_12_method_3_code 0 = .ok (.aload_n 0, 1) := by decide +kernel
theorem eWa_changed_1 : decode prog_12_method_3_code 1 = .ok (.getfield 22, 3) := by decide +kernel
theorem eWa_changed_4 : decode prog_12_method_3_code 4 = .ok (.aload_n 0, 1) := by decide +kernel
theorem eWa_changed_5 : decode prog_12_method_3_code 5 = .ok (.getfield 9, 3) := by decide +kernel
theorem eWa_changed_8 : decode prog_12_method_3_code 8 = .ok (.aload_n 0, 1) := by decide +kernel
theorem eWa_changed_9 : decode prog_12_method_3_code 9 = .ok (.getfield 15, 3) := by decide +kernel
theorem eWa_changed_12 : decode prog_12_method_3_code 12 = .ok (.getfield 66, 3) := by decide +kernel
theorem eWa_changed_15 : decode prog_12_method_3_code 15 = .ok (.aload_n 0, 1) := by decide +kernel
theorem eWa_changed_16 : decode prog_12_method_3_code 16 = .ok (.getfield 15, 3) := by decide +kernel
theorem eWa_changed_19 : decode prog_12_method_3_code 19 = .ok (.getfield 71, 3) := by decide +kernel
theorem eWa_changed_22 : decode prog_12_method_3_code 22 = .ok (.invokevirtual 74, 3) := by decide +kernel
theorem eWa_changed_25 : decode prog_12_method_3_code 25 = .ok (.aload_n 0, 1) := by decide +kernel
theorem eWa_changed_26 : decode prog_12_method_3_code 26 = .ok (.iconst 0, 1) := by decide +kernel
theorem eWa_changed_27 : decode prog_12_method_3_code 27 = .ok (.putfield 58, 3) := by decide +kernel
theorem eWa_changed_30 : decode prog_12_method_3_code 30 = .ok (.aload_n 0, 1) := by decide +kernel
theorem eWa_changed_31 : decode prog_12_method_3_code 31 = .ok (.iconst 0, 1) := by decide +kernel
theorem eWa_changed_32 : decode prog_12_method_3_code 32 = .ok (.putfield 78, 3) := by decide +kernel
theorem eWa_changed_35 : decode prog_12_method_3_code 35 = .ok (.aload_n 0, 1) := by decide +kernel
theorem eWa_changed_36 : decode prog_12_method_3_code 36 = .ok (.iconst 0, 1) := by decide +kernel
theorem eWa_changed_37 : decode prog_12_method_3_code 37 = .ok (.putfield 81, 3) := by decide +kernel
theorem eWa_changed_40 : decode prog_12_method_3_code 40 = .ok (.aload_n 0, 1) := by decide +kernel
theorem eWa_changed_41 : decode prog_12_method_3_code 41 = .ok (.dup, 1) := by decide +kernel
theorem eWa_changed_42 : decode prog_12_method_3_code 42 = .ok (.getfield 62, 3) := by decide +kernel
theorem eWa_changed_45 : decode prog_12_method_3_code 45 = .ok (.iconst 1, 1) := by decide +kernel
theorem eWa_changed_46 : decode prog_12_method_3_code 46 = .ok (.iadd, 1) := by decide +kernel
theorem eWa_changed_47 : decode prog_12_method_3_code 47 = .ok (.putfield 62, 3) := by decide +kernel
theorem eWa_changed_50 : decode prog_12_method_3_code 50 = .ok (.return_, 1) := by decide +kernel
theorem eWa_restNumber_0 : decode prog_12_method_4_code 0 = .ok (.aload_n 0, 1) := by decide +kernel
theorem eWa_restNumber_1 : decode prog_12_method_4_code 1 = .ok (.getfield 51, 3) := by decide +kernel
theorem eWa_restNumber_4 : decode prog_12_method_4_code 4 = .ok (.iload_n 2, 1) := by decide +kernel
theorem eWa_restNumber_5 : decode prog_12_method_4_code 5 = .ok (.iload_n 3, 1) := by decide +kernel
theorem eWa_restNumber_6 : decode prog_12_method_4_code 6 = .ok (.invokevirtual 84, 3) := by decide +kernel
theorem eWa_restNumber_9 : decode prog_12_method_4_code 9 = .ok (.aload_n 1, 1) := by decide +kernel
theorem eWa_restNumber_10 : decode prog_12_method_4_code 10 = .ok (.aload_n 0, 1) := by decide +kernel
theorem eWa_restNumber_11 : decode prog_12_method_4_code 11 = .ok (.getfield 51, 3) := by decide +kernel
theorem eWa_restNumber_14 : decode prog_12_method_4_code 14 = .ok (.invokevirtual 88, 3) := by decide +kernel
theorem eWa_restNumber_17 : decode prog_12_method_4_code 17 = .ok (.ireturn, 1) := by decide +kernel
theorem eWa_spotNumber_0 : decode prog_12_method_5_code 0 = .ok (.aload_n 0, 1) := by decide +kernel
theorem eWa_spotNumber_1 : decode prog_12_method_5_code 1 = .ok (.getfield 9, 3) := by decide +kernel
theorem eWa_spotNumber_4 : decode prog_12_method_5_code 4 = .ok (.iload_n 2, 1) := by decide +kernel
theorem eWa_spotNumber_5 : decode prog_12_method_5_code 5 = .ok (.invokevirtual 92, 3) := by decide +kernel
theorem eWa_spotNumber_8 : decode prog_12_method_5_code 8 = .ok (.ifCond .eq 29, 3) := by decide +kernel
theorem eWa_spotNumber_11 : decode prog_12_method_5_code 11 = .ok (.aload_n 0, 1) := by decide +kernel
theorem eWa_spotNumber_12 : decode prog_12_method_5_code 12 = .ok (.aload_n 1, 1) := by decide +kernel
theorem eWa_spotNumber_13 : decode prog_12_method_5_code 13 = .ok (.aload_n 0, 1) := by decide +kernel
theorem eWa_spotNumber_14 : decode prog_12_method_5_code 14 = .ok (.getfield 9, 3) := by decide +kernel
theorem eWa_spotNumber_17 : decode prog_12_method_5_code 17 = .ok (.getfield 98, 3) := by decide +kernel
theorem eWa_spotNumber_20 : decode prog_12_method_5_code 20 = .ok (.iload_n 2, 1) := by decide +kernel
theorem eWa_spotNumber_21 : decode prog_12_method_5_code 21 = .ok (.iaload, 1) := by decide +kernel
theorem eWa_spotNumber_22 : decode prog_12_method_5_code 22 = .ok (.aload_n 0, 1) := by decide +kernel
theorem eWa_spotNumber_23 : decode prog_12_method_5_code 23 = .ok (.getfield 9, 3) := by decide +kernel
theorem eWa_spotNumber_26 : decode prog_12_method_5_code 26 = .ok (.getfield 101, 3) := by decide +kernel
theorem eWa_spotNumber_29 : decode prog_12_method_5_code 29 = .ok (.iload_n 2, 1) := by decide +kernel
theorem eWa_spotNumber_30 : decode prog_12_method_5_code 30 = .ok (.iaload, 1) := by decide +kernel
theorem eWa_spotNumber_31 : decode prog_12_method_5_code 31 = .ok (.invokevirtual 104, 3) := by decide +kernel
theorem eWa_spotNumber_34 : decode prog_12_method_5_code 34 = .ok (.goto 4, 3) := by decide +kernel
theorem eWa_spotNumber_37 : decode prog_12_method_5_code 37 = .ok (.iconst (-1), 1) := by decide +kernel
theorem eWa_spotNumber_38 : decode prog_12_method_5_code 38 = .ok (.ireturn, 1) := by decide +kernel
theorem eWa_fromHere_0 : decode prog_12_method_6_code 0 = .ok (.aload_n 0, 1) := by decide +kernel
theorem eWa_fromHere_1 : decode prog_12_method_6_code 1 = .ok (.getfield 58, 3) := by decide +kernel
theorem eWa_fromHere_4 : decode prog_12_method_6_code 4 = .ok (.ifCond .ne 38, 3) := by decide +kernel
theorem eWa_fromHere_7 : decode prog_12_method_6_code 7 = .ok (.aload_n 0, 1) := by decide +kernel
theorem eWa_fromHere_8 : decode prog_12_method_6_code 8 = .ok (.getfield 34, 3) := by decide +kernel
theorem eWa_fromHere_11 : decode prog_12_method_6_code 11 = .ok (.aload_n 0, 1) := by decide +kernel
theorem eWa_fromHere_12 : decode prog_12_method_6_code 12 = .ok (.getfield 22, 3) := by decide +kernel
theorem eWa_fromHere_15 : decode prog_12_method_6_code 15 = .ok (.iconst 0, 1) := by decide +kernel
theorem eWa_fromHere_16 : decode prog_12_method_6_code 16 = .ok (.sipush 511, 3) := by decide +kernel
theorem eWa_fromHere_19 : decode prog_12_method_6_code 19 = .ok (.iconst 4, 1) := by decide +kernel
theorem eWa_fromHere_20 : decode prog_12_method_6_code 20 = .ok (.invokevirtual 108, 3) := by decide +kernel
theorem eWa_fromHere_23 : decode prog_12_method_6_code 23 = .ok (.aload_n 0, 1) := by decide +kernel
theorem eWa_fromHere_24 : decode prog_12_method_6_code 24 = .ok (.getfield 34, 3) := by decide +kernel
theorem eWa_fromHere_27 : decode prog_12_method_6_code 27 = .ok (.aload_n 0, 1) := by decide +kernel
theorem eWa_fromHere_28 : decode prog_12_method_6_code 28 = .ok (.getfield 15, 3) := by decide +kernel
theorem eWa_fromHere_31 : decode prog_12_method_6_code 31 = .ok (.getfield 112, 3) := by decide +kernel
theorem eWa_fromHere_34 : decode prog_12_method_6_code 34 = .ok (.invokevirtual 115, 3) := by decide +kernel
theorem eWa_fromHere_37 : decode prog_12_method_6_code 37 = .ok (.aload_n 0, 1) := by decide +kernel
theorem eWa_fromHere_38 : decode prog_12_method_6_code 38 = .ok (.iconst 1, 1) := by decide +kernel
theorem eWa_fromHere_39 : decode prog_12_method_6_code 39 = .ok (.putfield 58, 3) := by decide +kernel
theorem eWa_fromHere_42 : decode prog_12_method_6_code 42 = .ok (.aload_n 0, 1) := by decide +kernel
theorem eWa_fromHere_43 : decode prog_12_method_6_code 43 = .ok (.getfield 34, 3) := by decide +kernel
theorem eWa_fromHere_46 : decode prog_12_method_6_code 46 = .ok (.areturn, 1) := by decide +kernel
theorem eWa_stepsToSpot_0 : decode prog_12_method_7_code 0 = .ok (.aload_n 0, 1) := by decide +kernel
theorem eWa_stepsToSpot_1 : decode prog_12_method_7_code 1 = .ok (.aload_n 0, 1) := by decide +kernel
theorem eWa_stepsToSpot_2 : decode prog_12_method_7_code 2 = .ok (.getfield 22, 3) := by decide +kernel
theorem eWa_stepsToSpot_5 : decode prog_12_method_7_code 5 = .ok (.iload_n 1, 1) := by decide +kernel
theorem eWa_stepsToSpot_6 : decode prog_12_method_7_code 6 = .ok (.invokevirtual 119, 3) := by decide +kernel
theorem eWa_stepsToSpot_9 : decode prog_12_method_7_code 9 = .ok (.istore_n 2, 1) := by decide +kernel
theorem eWa_stepsToSpot_10 : decode prog_12_method_7_code 10 = .ok (.aload_n 0, 1) := by decide +kernel
theorem eWa_stepsToSpot_11 : decode prog_12_method_7_code 11 = .ok (.invokevirtual 123, 3) := by decide +kernel
theorem eWa_stepsToSpot_14 : decode prog_12_method_7_code 14 = .ok (.iload_n 2, 1) := by decide +kernel
theorem eWa_stepsToSpot_15 : decode prog_12_method_7_code 15 = .ok (.invokevirtual 127, 3) := by decide +kernel
theorem eWa_stepsToSpot_18 : decode prog_12_method_7_code 18 = .ok (.ireturn, 1) := by decide +kernel
theorem eWa_stepsToRest_0 : decode prog_12_method_8_code 0 = .ok (.aload_n 0, 1) := by decide +kernel
theorem eWa_stepsToRest_1 : decode prog_12_method_8_code 1 = .ok (.aload_n 0, 1) := by decide +kernel
theorem eWa_stepsToRest_2 : decode prog_12_method_8_code 2 = .ok (.getfield 22, 3) := by decide +kernel
theorem eWa_stepsToRest_5 : decode prog_12_method_8_code 5 = .ok (.iload_n 1, 1) := by decide +kernel
theorem eWa_stepsToRest_6 : decode prog_12_method_8_code 6 = .ok (.iload_n 2, 1) := by decide +kernel
theorem eWa_stepsToRest_7 : decode prog_12_method_8_code 7 = .ok (.invokevirtual 104, 3) := by decide +kernel
theorem eWa_stepsToRest_10 : decode prog_12_method_8_code 10 = .ok (.istore_n 3, 1) := by decide +kernel
theorem eWa_stepsToRest_11 : decode prog_12_method_8_code 11 = .ok (.aload_n 0, 1) := by decide +kernel
theorem eWa_stepsToRest_12 : decode prog_12_method_8_code 12 = .ok (.invokevirtual 123, 3) := by decide +kernel
theorem eWa_stepsToRest_15 : decode prog_12_method_8_code 15 = .ok (.iload_n 3, 1) := by decide +kernel
theorem eWa_stepsToRest_16 : decode prog_12_method_8_code 16 = .ok (.invokevirtual 127, 3) := by decide +kernel
theorem eWa_stepsToRest_19 : decode prog_12_method_8_code 19 = .ok (.ireturn, 1) := by decide +kernel
theorem eWa_stepsAtRest_0 : decode prog_12_method_9_code 0 = .ok (.aload_n 0, 1) := by decide +kernel
theorem eWa_stepsAtRest_1 : decode prog_12_method_9_code 1 = .ok (.aload_n 0, 1) := by decide +kernel
theorem eWa_stepsAtRest_2 : decode prog_12_method_9_code 2 = .ok (.getfield 22, 3) := by decide +kernel
theorem eWa_stepsAtRest_5 : decode prog_12_method_9_code 5 = .ok (.iload_n 1, 1) := by decide +kernel
theorem eWa_stepsAtRest_6 : decode prog_12_method_9_code 6 = .ok (.iload_n 2, 1) := by decide +kernel
theorem eWa_stepsAtRest_7 : decode prog_12_method_9_code 7 = .ok (.invokevirtual 104, 3) := by decide +kernel
theorem eWa_stepsAtRest_10 : decode prog_12_method_9_code 10 = .ok (.ifCond .ge 8, 3) := by decide +kernel
theorem eWa_stepsAtRest_13 : decode prog_12_method_9_code 13 = .ok (.bipush (-2), 2) := by decide +kernel
theorem eWa_stepsAtRest_15 : decode prog_12_method_9_code 15 = .ok (.goto 4, 3) := by decide +kernel
theorem eWa_stepsAtRest_18 : decode prog_12_method_9_code 18 = .ok (.iconst 0, 1) := by decide +kernel
theorem eWa_stepsAtRest_19 : decode prog_12_method_9_code 19 = .ok (.ireturn, 1) := by decide +kernel
theorem eWa_codeOnWay_0 : decode prog_12_method_10_code 0 = .ok (.aload_n 0, 1) := by decide +kernel
theorem eWa_codeOnWay_1 : decode prog_12_method_10_code 1 = .ok (.aload_n 0, 1) := by decide +kernel
theorem eWa_codeOnWay_2 : decode prog_12_method_10_code 2 = .ok (.getfield 22, 3) := by decide +kernel
theorem eWa_codeOnWay_5 : decode prog_12_method_10_code 5 = .ok (.iload_n 1, 1) := by decide +kernel
theorem eWa_codeOnWay_6 : decode prog_12_method_10_code 6 = .ok (.invokevirtual 119, 3) := by decide +kernel
theorem eWa_codeOnWay_9 : decode prog_12_method_10_code 9 = .ok (.istore_n 3, 1) := by decide +kernel
theorem eWa_codeOnWay_10 : decode prog_12_method_10_code 10 = .ok (.aload_n 0, 1) := by decide +kernel
theorem eWa_codeOnWay_11 : decode prog_12_method_10_code 11 = .ok (.getfield 34, 3) := by decide +kernel
theorem eWa_codeOnWay_14 : decode prog_12_method_10_code 14 = .ok (.iload_n 3, 1) := by decide +kernel
theorem eWa_codeOnWay_15 : decode prog_12_method_10_code 15 = .ok (.invokevirtual 131, 3) := by decide +kernel
theorem eWa_codeOnWay_18 : decode prog_12_method_10_code 18 = .ok (.istore 4, 2) := by decide +kernel
theorem eWa_codeOnWay_20 : decode prog_12_method_10_code 20 = .ok (.iconst 0, 1) := by decide +kernel
theorem eWa_codeOnWay_21 : decode prog_12_method_10_code 21 = .ok (.istore 5, 2) := by decide +kernel
theorem eWa_codeOnWay_23 : decode prog_12_method_10_code 23 = .ok (.iload 5, 2) := by decide +kernel
theorem eWa_codeOnWay_25 : decode prog_12_method_10_code 25 = .ok (.iload_n 2, 1) := by decide +kernel
theorem eWa_codeOnWay_26 : decode prog_12_method_10_code 26 = .ok (.if_icmp .ge 43, 3) := by decide +kernel
theorem eWa_codeOnWay_29 : decode prog_12_method_10_code 29 = .ok (.iload 4, 2) := by decide +kernel
theorem eWa_codeOnWay_31 : decode prog_12_method_10_code 31 = .ok (.ifCond .lt 38, 3) := by decide +kernel
theorem eWa_codeOnWay_34 : decode prog_12_method_10_code 34 = .ok (.aload_n 0, 1) := by decide +kernel
theorem eWa_codeOnWay_35 : decode prog_12_method_10_code 35 = .ok (.getfield 51, 3) := by decide +kernel
theorem eWa_codeOnWay_38 : decode prog_12_method_10_code 38 = .ok (.iload 4, 2) := by decide +kernel
theorem eWa_codeOnWay_40 : decode prog_12_method_10_code 40 = .ok (.invokevirtual 134, 3) := by decide +kernel
theorem eWa_codeOnWay_43 : decode prog_12_method_10_code 43 = .ok (.aload_n 0, 1) := by decide +kernel
theorem eWa_codeOnWay_44 : decode prog_12_method_10_code 44 = .ok (.getfield 34, 3) := by decide +kernel
theorem eWa_codeOnWay_47 : decode prog_12_method_10_code 47 = .ok (.aload_n 0, 1) := by decide +kernel
theorem eWa_codeOnWay_48 : decode prog_12_method_10_code 48 = .ok (.getfield 22, 3) := by decide +kernel
theorem eWa_codeOnWay_51 : decode prog_12_method_10_code 51 = .ok (.aload_n 0, 1) := by decide +kernel
theorem eWa_codeOnWay_52 : decode prog_12_method_10_code 52 = .ok (.getfield 51, 3) := by decide +kernel
theorem eWa_codeOnWay_55 : decode prog_12_method_10_code 55 = .ok (.invokevirtual 88, 3) := by decide +kernel
theorem eWa_codeOnWay_58 : decode prog_12_method_10_code 58 = .ok (.invokevirtual 131, 3) := by decide +kernel
theorem eWa_codeOnWay_61 : decode prog_12_method_10_code 61 = .ok (.istore 4, 2) := by decide +kernel
theorem eWa_codeOnWay_63 : decode prog_12_method_10_code 63 = .ok (.iinc 5 1, 3) := by decide +kernel
theorem eWa_codeOnWay_66 : decode prog_12_method_10_code 66 = .ok (.goto (-43), 3) := by decide +kernel
theorem eWa_codeOnWay_69 : decode prog_12_method_10_code 69 = .ok (.iload 4, 2) := by decide +kernel
theorem eWa_codeOnWay_71 : decode prog_12_method_10_code 71 = .ok (.ifCond .ge 8, 3) := by decide +kernel
theorem eWa_codeOnWay_74 : decode prog_12_method_10_code 74 = .ok (.bipush (-2), 2) := by decide +kernel
theorem eWa_codeOnWay_76 : decode prog_12_method_10_code 76 = .ok (.goto 5, 3) := by decide +kernel
theorem eWa_codeOnWay_79 : decode prog_12_method_10_code 79 = .ok (.iload 4, 2) := by decide +kernel
theorem eWa_codeOnWay_81 : decode prog_12_method_10_code 81 = .ok (.ireturn, 1) := by decide +kernel
theorem eWa_onWay_0 : decode prog_12_method_11_code 0 = .ok (.aload_n 0, 1) := by decide +kernel
theorem eWa_onWay_1 : decode prog_12_method_11_code 1 = .ok (.getfield 34, 3) := by decide +kernel
theorem eWa_onWay_4 : decode prog_12_method_11_code 4 = .ok (.aload_n 0, 1) := by decide +kernel
theorem eWa_onWay_5 : decode prog_12_method_11_code 5 = .ok (.aload_n 0, 1) := by decide +kernel
theorem eWa_onWay_6 : decode prog_12_method_11_code 6 = .ok (.getfield 22, 3) := by decide +kernel
theorem eWa_onWay_9 : decode prog_12_method_11_code 9 = .ok (.iload_n 1, 1) := by decide +kernel
theorem eWa_onWay_10 : decode prog_12_method_11_code 10 = .ok (.invokevirtual 119, 3) := by decide +kernel
theorem eWa_onWay_13 : decode prog_12_method_11_code 13 = .ok (.invokevirtual 138, 3) := by decide +kernel
theorem eWa_onWay_16 : decode prog_12_method_11_code 16 = .ok (.istore_n 3, 1) := by decide +kernel
theorem eWa_onWay_17 : decode prog_12_method_11_code 17 = .ok (.aload_n 0, 1) := by decide +kernel
theorem eWa_onWay_18 : decode prog_12_method_11_code 18 = .ok (.iload_n 2, 1) := by decide +kernel
theorem eWa_onWay_19 : decode prog_12_method_11_code 19 = .ok (.invokevirtual 141, 3) := by decide +kernel
theorem eWa_onWay_22 : decode prog_12_method_11_code 22 = .ok (.istore 4, 2) := by decide +kernel
theorem eWa_onWay_24 : decode prog_12_method_11_code 24 = .ok (.iconst 0, 1) := by decide +kernel
theorem eWa_onWay_25 : decode prog_12_method_11_code 25 = .ok (.istore 5, 2) := by decide +kernel
theorem eWa_onWay_27 : decode prog_12_method_11_code 27 = .ok (.iload 5, 2) := by decide +kernel
theorem eWa_onWay_29 : decode prog_12_method_11_code 29 = .ok (.iload_n 3, 1) := by decide +kernel
theorem eWa_onWay_30 : decode prog_12_method_11_code 30 = .ok (.if_icmp .ge 130, 3) := by decide +kernel
theorem eWa_onWay_33 : decode prog_12_method_11_code 33 = .ok (.aload_n 0, 1) := by decide +kernel
theorem eWa_onWay_34 : decode prog_12_method_11_code 34 = .ok (.getfield 34, 3) := by decide +kernel
theorem eWa_onWay_37 : decode prog_12_method_11_code 37 = .ok (.aload_n 0, 1) := by decide +kernel
theorem eWa_onWay_38 : decode prog_12_method_11_code 38 = .ok (.getfield 22, 3) := by decide +kernel
theorem eWa_onWay_41 : decode prog_12_method_11_code 41 = .ok (.aload_n 0, 1) := by decide +kernel
theorem eWa_onWay_42 : decode prog_12_method_11_code 42 = .ok (.getfield 51, 3) := by decide +kernel
theorem eWa_onWay_45 : decode prog_12_method_11_code 45 = .ok (.invokevirtual 88, 3) := by decide +kernel
theorem eWa_onWay_48 : decode prog_12_method_11_code 48 = .ok (.invokevirtual 131, 3) := by decide +kernel
theorem eWa_onWay_51 : decode prog_12_method_11_code 51 = .ok (.istore 6, 2) := by decide +kernel
theorem eWa_onWay_53 : decode prog_12_method_11_code 53 = .ok (.iload 6, 2) := by decide +kernel
theorem eWa_onWay_55 : decode prog_12_method_11_code 55 = .ok (.ifCond .ge 6, 3) := by decide +kernel
theorem eWa_onWay_58 : decode prog_12_method_11_code 58 = .ok (.iload 4, 2) := by decide +kernel
theorem eWa_onWay_60 : decode prog_12_method_11_code 60 = .ok (.ireturn, 1) := by decide +kernel
theorem eWa_onWay_61 : decode prog_12_method_11_code 61 = .ok (.iload_n 2, 1) := by decide +kernel
theorem eWa_onWay_62 : decode prog_12_method_11_code 62 = .ok (.iconst 2, 1) := by decide +kernel
theorem eWa_onWay_63 : decode prog_12_method_11_code 63 = .ok (.if_icmp .ne 24, 3) := by decide +kernel
theorem eWa_onWay_66 : decode prog_12_method_11_code 66 = .ok (.iload 4, 2) := by decide +kernel
theorem eWa_onWay_68 : decode prog_12_method_11_code 68 = .ok (.iload 6, 2) := by decide +kernel
theorem eWa_onWay_70 : decode prog_12_method_11_code 70 = .ok (.iconst 3, 1) := by decide +kernel
theorem eWa_onWay_71 : decode prog_12_method_11_code 71 = .ok (.idiv, 1) := by decide +kernel
theorem eWa_onWay_72 : decode prog_12_method_11_code 72 = .ok (.iconst 1, 1) := by decide +kernel
theorem eWa_onWay_73 : decode prog_12_method_11_code 73 = .ok (.if_icmp .ne 7, 3) := by decide +kernel
theorem eWa_onWay_76 : decode prog_12_method_11_code 76 = .ok (.iconst 0, 1) := by decide +kernel
theorem eWa_onWay_77 : decode prog_12_method_11_code 77 = .ok (.goto 4, 3) := by decide +kernel
theorem eWa_onWay_80 : decode prog_12_method_11_code 80 = .ok (.iconst 1, 1) := by decide +kernel
theorem eWa_onWay_81 : decode prog_12_method_11_code 81 = .ok (.iadd, 1) := by decide +kernel
theorem eWa_onWay_82 : decode prog_12_method_11_code 82 = .ok (.istore 4, 2) := by decide +kernel
theorem eWa_onWay_84 : decode prog_12_method_11_code 84 = .ok (.goto 61, 3) := by decide +kernel
theorem eWa_onWay_87 : decode prog_12_method_11_code 87 = .ok (.iload_n 2, 1) := by decide +kernel
theorem eWa_onWay_88 : decode prog_12_method_11_code 88 = .ok (.iconst 3, 1) := by decide +kernel
theorem eWa_onWay_89 : decode prog_12_method_11_code 89 = .ok (.if_icmp .ne 24, 3) := by decide +kernel
theorem eWa_onWay_92 : decode prog_12_method_11_code 92 = .ok (.iload 4, 2) := by decide +kernel
theorem eWa_onWay_94 : decode prog_12_method_11_code 94 = .ok (.iload 6, 2) := by decide +kernel
theorem eWa_onWay_96 : decode prog_12_method_11_code 96 = .ok (.iconst 3, 1) := by decide +kernel
theorem eWa_onWay_97 : decode prog_12_method_11_code 97 = .ok (.irem, 1) := by decide +kernel
theorem eWa_onWay_98 : decode prog_12_method_11_code 98 = .ok (.iconst 1, 1) := by decide +kernel
theorem eWa_onWay_99 : decode prog_12_method_11_code 99 = .ok (.if_icmp .ne 7, 3) := by decide +kernel
theorem eWa_onWay_102 : decode prog_12_method_11_code 102 = .ok (.iconst 0, 1) := by decide +kernel
theorem eWa_onWay_103 : decode prog_12_method_11_code 103 = .ok (.goto 4, 3) := by decide +kernel
theorem eWa_onWay_106 : decode prog_12_method_11_code 106 = .ok (.iconst 1, 1) := by decide +kernel
theorem eWa_onWay_107 : decode prog_12_method_11_code 107 = .ok (.iadd, 1) := by decide +kernel
theorem eWa_onWay_108 : decode prog_12_method_11_code 108 = .ok (.istore 4, 2) := by decide +kernel
theorem eWa_onWay_110 : decode prog_12_method_11_code 110 = .ok (.goto 35, 3) := by decide +kernel
theorem eWa_onWay_113 : decode prog_12_method_11_code 113 = .ok (.iload_n 2, 1) := by decide +kernel
theorem eWa_onWay_114 : decode prog_12_method_11_code 114 = .ok (.iconst 4, 1) := by decide +kernel
theorem eWa_onWay_115 : decode prog_12_method_11_code 115 = .ok (.if_icmp .ne 18, 3) := by decide +kernel
theorem eWa_onWay_118 : decode prog_12_method_11_code 118 = .ok (.iload 4, 2) := by decide +kernel
theorem eWa_onWay_120 : decode prog_12_method_11_code 120 = .ok (.aload_n 0, 1) := by decide +kernel
theorem eWa_onWay_121 : decode prog_12_method_11_code 121 = .ok (.iload_n 2, 1) := by decide +kernel
theorem eWa_onWay_122 : decode prog_12_method_11_code 122 = .ok (.invokevirtual 141, 3) := by decide +kernel
theorem eWa_onWay_125 : decode prog_12_method_11_code 125 = .ok (.invokestatic 144, 3) := by decide +kernel
theorem eWa_onWay_128 : decode prog_12_method_11_code 128 = .ok (.istore 4, 2) := by decide +kernel
theorem eWa_onWay_130 : decode prog_12_method_11_code 130 = .ok (.goto 15, 3) := by decide +kernel
theorem eWa_onWay_133 : decode prog_12_method_11_code 133 = .ok (.iload 4, 2) := by decide +kernel
theorem eWa_onWay_135 : decode prog_12_method_11_code 135 = .ok (.aload_n 0, 1) := by decide +kernel
theorem eWa_onWay_136 : decode prog_12_method_11_code 136 = .ok (.iload_n 2, 1) := by decide +kernel
theorem eWa_onWay_137 : decode prog_12_method_11_code 137 = .ok (.invokevirtual 141, 3) := by decide +kernel
theorem eWa_onWay_140 : decode prog_12_method_11_code 140 = .ok (.invokestatic 150, 3) := by decide +kernel
theorem eWa_onWay_143 : decode prog_12_method_11_code 143 = .ok (.istore 4, 2) := by decide +kernel
theorem eWa_onWay_145 : decode prog_12_method_11_code 145 = .ok (.aload_n 0, 1) := by decide +kernel
theorem eWa_onWay_146 : decode prog_12_method_11_code 146 = .ok (.getfield 51, 3) := by decide +kernel
theorem eWa_onWay_149 : decode prog_12_method_11_code 149 = .ok (.iload 6, 2) := by decide +kernel
theorem eWa_onWay_151 : decode prog_12_method_11_code 151 = .ok (.invokevirtual 134, 3) := by decide +kernel
theorem eWa_onWay_154 : decode prog_12_method_11_code 154 = .ok (.iinc 5 1, 3) := by decide +kernel
theorem eWa_onWay_157 : decode prog_12_method_11_code 157 = .ok (.goto (-130), 3) := by decide +kernel
theorem eWa_onWay_160 : decode prog_12_method_11_code 160 = .ok (.iload 4, 2) := by decide +kernel
theorem eWa_onWay_162 : decode prog_12_method_11_code 162 = .ok (.ireturn, 1) := by decide +kernel
theorem eWa_noted_0 : decode prog_12_method_12_code 0 = .ok (.iload_n 1, 1) := by decide +kernel
theorem eWa_noted_1 : decode prog_12_method_12_code 1 = .ok (.tableswitch 80 0 4 #[35, 46, 80, 80, 57], 35) := by decide +kernel
theorem eWa_noted_36 : decode prog_12_method_12_code 36 = .ok (.aload_n 0, 1) := by decide +kernel
theorem eWa_noted_37 : decode prog_12_method_12_code 37 = .ok (.getfield 51, 3) := by decide +kernel
theorem eWa_noted_40 : decode prog_12_method_12_code 40 = .ok (.getfield 153, 3) := by decide +kernel
theorem eWa_noted_43 : decode prog_12_method_12_code 43 = .ok (.invokestatic 156, 3) := by decide +kernel
theorem eWa_noted_46 : decode prog_12_method_12_code 46 = .ok (.ireturn, 1) := by decide +kernel
theorem eWa_noted_47 : decode prog_12_method_12_code 47 = .ok (.aload_n 0, 1) := by decide +kernel
theorem eWa_noted_48 : decode prog_12_method_12_code 48 = .ok (.getfield 51, 3) := by decide +kernel
theorem eWa_noted_51 : decode prog_12_method_12_code 51 = .ok (.getfield 159, 3) := by decide +kernel
theorem eWa_noted_54 : decode prog_12_method_12_code 54 = .ok (.invokestatic 156, 3) := by decide +kernel
theorem eWa_noted_57 : decode prog_12_method_12_code 57 = .ok (.ireturn, 1) := by decide +kernel
theorem eWa_noted_58 : decode prog_12_method_12_code 58 = .ok (.aload_n 0, 1) := by decide +kernel
theorem eWa_noted_59 : decode prog_12_method_12_code 59 = .ok (.getfield 22, 3) := by decide +kernel
theorem eWa_noted_62 : decode prog_12_method_12_code 62 = .ok (.aload_n 0, 1) := by decide +kernel
theorem eWa_noted_63 : decode prog_12_method_12_code 63 = .ok (.getfield 51, 3) := by decide +kernel
theorem eWa_noted_66 : decode prog_12_method_12_code 66 = .ok (.invokevirtual 162, 3) := by decide +kernel
theorem eWa_noted_69 : decode prog_12_method_12_code 69 = .ok (.invokevirtual 166, 3) := by decide +kernel
theorem eWa_noted_72 : decode prog_12_method_12_code 72 = .ok (.aload_n 0, 1) := by decide +kernel
theorem eWa_noted_73 : decode prog_12_method_12_code 73 = .ok (.getfield 51, 3) := by decide +kernel
theorem eWa_noted_76 : decode prog_12_method_12_code 76 = .ok (.getfield 169, 3) := by decide +kernel
theorem eWa_noted_79 : decode prog_12_method_12_code 79 = .ok (.isub, 1) := by decide +kernel
theorem eWa_noted_80 : decode prog_12_method_12_code 80 = .ok (.ireturn, 1) := by decide +kernel
theorem eWa_noted_81 : decode prog_12_method_12_code 81 = .ok (.iconst 0, 1) := by decide +kernel
theorem eWa_noted_82 : decode prog_12_method_12_code 82 = .ok (.ireturn, 1) := by decide +kernel
theorem eWa_toHome_0 : decode prog_12_method_13_code 0 = .ok (.aload_n 0, 1) := by decide +kernel
theorem eWa_toHome_1 : decode prog_12_method_13_code 1 = .ok (.getfield 78, 3) := by decide +kernel
theorem eWa_toHome_4 : decode prog_12_method_13_code 4 = .ok (.ifCond .ne 82, 3) := by decide +kernel
theorem eWa_toHome_7 : decode prog_12_method_13_code 7 = .ok (.aload_n 0, 1) := by decide +kernel
theorem eWa_toHome_8 : decode prog_12_method_13_code 8 = .ok (.getfield 38, 3) := by decide +kernel
theorem eWa_toHome_11 : decode prog_12_method_13_code 11 = .ok (.aload_n 0, 1) := by decide +kernel
theorem eWa_toHome_12 : decode prog_12_method_13_code 12 = .ok (.getfield 22, 3) := by decide +kernel
theorem eWa_toHome_15 : decode prog_12_method_13_code 15 = .ok (.iconst 1, 1) := by decide +kernel
theorem eWa_toHome_16 : decode prog_12_method_13_code 16 = .ok (.sipush 511, 3) := by decide +kernel
theorem eWa_toHome_19 : decode prog_12_method_13_code 19 = .ok (.iconst 4, 1) := by decide +kernel
theorem eWa_toHome_20 : decode prog_12_method_13_code 20 = .ok (.invokevirtual 108, 3) := by decide +kernel
theorem eWa_toHome_23 : decode prog_12_method_13_code 23 = .ok (.iconst 0, 1) := by decide +kernel
theorem eWa_toHome_24 : decode prog_12_method_13_code 24 = .ok (.istore_n 1, 1) := by decide +kernel
theorem eWa_toHome_25 : decode prog_12_method_13_code 25 = .ok (.iload_n 1, 1) := by decide +kernel
theorem eWa_toHome_26 : decode prog_12_method_13_code 26 = .ok (.aload_n 0, 1) := by decide +kernel
theorem eWa_toHome_27 : decode prog_12_method_13_code 27 = .ok (.getfield 9, 3) := by decide +kernel
theorem eWa_toHome_30 : decode prog_12_method_13_code 30 = .ok (.getfield 172, 3) := by decide +kernel
theorem eWa_toHome_33 : decode prog_12_method_13_code 33 = .ok (.if_icmp .ge 48, 3) := by decide +kernel
theorem eWa_toHome_36 : decode prog_12_method_13_code 36 = .ok (.iconst 1, 1) := by decide +kernel
theorem eWa_toHome_37 : decode prog_12_method_13_code 37 = .ok (.istore_n 2, 1) := by decide +kernel
theorem eWa_toHome_38 : decode prog_12_method_13_code 38 = .ok (.iload_n 2, 1) := by decide +kernel
theorem eWa_toHome_39 : decode prog_12_method_13_code 39 = .ok (.aload_n 0, 1) := by decide +kernel
theorem eWa_toHome_40 : decode prog_12_method_13_code 40 = .ok (.getfield 9, 3) := by decide +kernel
theorem eWa_toHome_43 : decode prog_12_method_13_code 43 = .ok (.getfield 175, 3) := by decide +kernel
theorem eWa_toHome_46 : decode prog_12_method_13_code 46 = .ok (.if_icmp .gt 29, 3) := by decide +kernel
theorem eWa_toHome_49 : decode prog_12_method_13_code 49 = .ok (.aload_n 0, 1) := by decide +kernel
theorem eWa_toHome_50 : decode prog_12_method_13_code 50 = .ok (.getfield 51, 3) := by decide +kernel
theorem eWa_toHome_53 : decode prog_12_method_13_code 53 = .ok (.iload_n 1, 1) := by decide +kernel
theorem eWa_toHome_54 : decode prog_12_method_13_code 54 = .ok (.iload_n 2, 1) := by decide +kernel
theorem eWa_toHome_55 : decode prog_12_method_13_code 55 = .ok (.invokevirtual 84, 3) := by decide +kernel
theorem eWa_toHome_58 : decode prog_12_method_13_code 58 = .ok (.aload_n 0, 1) := by decide +kernel
theorem eWa_toHome_59 : decode prog_12_method_13_code 59 = .ok (.getfield 38, 3) := by decide +kernel
theorem eWa_toHome_62 : decode prog_12_method_13_code 62 = .ok (.aload_n 0, 1) := by decide +kernel
theorem eWa_toHome_63 : decode prog_12_method_13_code 63 = .ok (.getfield 51, 3) := by decide +kernel
theorem eWa_toHome_66 : decode prog_12_method_13_code 66 = .ok (.invokevirtual 115, 3) := by decide +kernel
theorem eWa_toHome_69 : decode prog_12_method_13_code 69 = .ok (.iinc 2 1, 3) := by decide +kernel
theorem eWa_toHome_72 : decode prog_12_method_13_code 72 = .ok (.goto (-34), 3) := by decide +kernel
theorem eWa_toHome_75 : decode prog_12_method_13_code 75 = .ok (.iinc 1 1, 3) := by decide +kernel
theorem eWa_toHome_78 : decode prog_12_method_13_code 78 = .ok (.goto (-53), 3) := by decide +kernel
theorem eWa_toHome_81 : decode prog_12_method_13_code 81 = .ok (.aload_n 0, 1) := by decide +kernel
theorem eWa_toHome_82 : decode prog_12_method_13_code 82 = .ok (.iconst 1, 1) := by decide +kernel
theorem eWa_toHome_83 : decode prog_12_method_13_code 83 = .ok (.putfield 78, 3) := by decide +kernel
theorem eWa_toHome_86 : decode prog_12_method_13_code 86 = .ok (.aload_n 0, 1) := by decide +kernel
theorem eWa_toHome_87 : decode prog_12_method_13_code 87 = .ok (.getfield 38, 3) := by decide +kernel
theorem eWa_toHome_90 : decode prog_12_method_13_code 90 = .ok (.areturn, 1) := by decide +kernel
theorem eWa_stepsHome_0 : decode prog_12_method_14_code 0 = .ok (.aload_n 0, 1) := by decide +kernel
theorem eWa_stepsHome_1 : decode prog_12_method_14_code 1 = .ok (.getfield 22, 3) := by decide +kernel
theorem eWa_stepsHome_4 : decode prog_12_method_14_code 4 = .ok (.aload_n 1, 1) := by decide +kernel
theorem eWa_stepsHome_5 : decode prog_12_method_14_code 5 = .ok (.invokevirtual 88, 3) := by decide +kernel
theorem eWa_stepsHome_8 : decode prog_12_method_14_code 8 = .ok (.istore_n 2, 1) := by decide +kernel
theorem eWa_stepsHome_9 : decode prog_12_method_14_code 9 = .ok (.aload_n 0, 1) := by decide +kernel
theorem eWa_stepsHome_10 : decode prog_12_method_14_code 10 = .ok (.invokevirtual 178, 3) := by decide +kernel
theorem eWa_stepsHome_13 : decode prog_12_method_14_code 13 = .ok (.iload_n 2, 1) := by decide +kernel
theorem eWa_stepsHome_14 : decode prog_12_method_14_code 14 = .ok (.invokevirtual 127, 3) := by decide +kernel
theorem eWa_stepsHome_17 : decode prog_12_method_14_code 17 = .ok (.ireturn, 1) := by decide +kernel
theorem eWa_countHoming_0 : decode prog_12_method_15_code 0 = .ok (.aload_n 0, 1) := by decide +kernel
theorem eWa_countHoming_1 : decode prog_12_method_15_code 1 = .ok (.invokevirtual 178, 3) := by decide +kernel
theorem eWa_countHoming_4 : decode prog_12_method_15_code 4 = .ok (.invokevirtual 181, 3) := by decide +kernel
theorem eWa_countHoming_7 : decode prog_12_method_15_code 7 = .ok (.ireturn, 1) := by decide +kernel
theorem eWa_codeHome_0 : decode prog_12_method_16_code 0 = .ok (.aload_n 1, 1) := by decide +kernel
theorem eWa_codeHome_1 : decode prog_12_method_16_code 1 = .ok (.invokevirtual 184, 3) := by decide +kernel
theorem eWa_codeHome_4 : decode prog_12_method_16_code 4 = .ok (.ifCond .eq 7, 3) := by decide +kernel
theorem eWa_codeHome_7 : decode prog_12_method_16_code 7 = .ok (.iconst 0, 1) := by decide +kernel
theorem eWa_codeHome_8 : decode prog_12_method_16_code 8 = .ok (.goto 8, 3) := by decide +kernel
theorem eWa_codeHome_11 : decode prog_12_method_16_code 11 = .ok (.aload_n 0, 1) := by decide +kernel
theorem eWa_codeHome_12 : decode prog_12_method_16_code 12 = .ok (.aload_n 1, 1) := by decide +kernel
theorem eWa_codeHome_13 : decode prog_12_method_16_code 13 = .ok (.invokevirtual 188, 3) := by decide +kernel
theorem eWa_codeHome_16 : decode prog_12_method_16_code 16 = .ok (.istore_n 2, 1) := by decide +kernel
theorem eWa_codeHome_17 : decode prog_12_method_16_code 17 = .ok (.iconst 0, 1) := by decide +kernel
theorem eWa_codeHome_18 : decode prog_12_method_16_code 18 = .ok (.istore_n 3, 1) := by decide +kernel
theorem eWa_codeHome_19 : decode prog_12_method_16_code 19 = .ok (.iload_n 2, 1) := by decide +kernel
theorem eWa_codeHome_20 : decode prog_12_method_16_code 20 = .ok (.ifCond .le 58, 3) := by decide +kernel
theorem eWa_codeHome_23 : decode prog_12_method_16_code 23 = .ok (.iload_n 3, 1) := by decide +kernel
theorem eWa_codeHome_24 : decode prog_12_method_16_code 24 = .ok (.bipush 9, 2) := by decide +kernel
theorem eWa_codeHome_26 : decode prog_12_method_16_code 26 = .ok (.if_icmp .ge 52, 3) := by decide +kernel
theorem eWa_codeHome_29 : decode prog_12_method_16_code 29 = .ok (.aload_n 0, 1) := by decide +kernel
theorem eWa_codeHome_30 : decode prog_12_method_16_code 30 = .ok (.getfield 51, 3) := by decide +kernel
theorem eWa_codeHome_33 : decode prog_12_method_16_code 33 = .ok (.aload_n 1, 1) := by decide +kernel
theorem eWa_codeHome_34 : decode prog_12_method_16_code 34 = .ok (.invokevirtual 191, 3) := by decide +kernel
theorem eWa_codeHome_37 : decode prog_12_method_16_code 37 = .ok (.aload_n 0, 1) := by decide +kernel
theorem eWa_codeHome_38 : decode prog_12_method_16_code 38 = .ok (.getfield 51, 3) := by decide +kernel
theorem eWa_codeHome_41 : decode prog_12_method_16_code 41 = .ok (.iload_n 3, 1) := by decide +kernel
theorem eWa_codeHome_42 : decode prog_12_method_16_code 42 = .ok (.iconst 0, 1) := by decide +kernel
theorem eWa_codeHome_43 : decode prog_12_method_16_code 43 = .ok (.invokevirtual 194, 3) := by decide +kernel
theorem eWa_codeHome_46 : decode prog_12_method_16_code 46 = .ok (.aload_n 0, 1) := by decide +kernel
theorem eWa_codeHome_47 : decode prog_12_method_16_code 47 = .ok (.getfield 38, 3) := by decide +kernel
theorem eWa_codeHome_50 : decode prog_12_method_16_code 50 = .ok (.aload_n 0, 1) := by decide +kernel
theorem eWa_codeHome_51 : decode prog_12_method_16_code 51 = .ok (.getfield 22, 3) := by decide +kernel
theorem eWa_codeHome_54 : decode prog_12_method_16_code 54 = .ok (.aload_n 0, 1) := by decide +kernel
theorem eWa_codeHome_55 : decode prog_12_method_16_code 55 = .ok (.getfield 51, 3) := by decide +kernel
theorem eWa_codeHome_58 : decode prog_12_method_16_code 58 = .ok (.invokevirtual 88, 3) := by decide +kernel
theorem eWa_codeHome_61 : decode prog_12_method_16_code 61 = .ok (.invokevirtual 138, 3) := by decide +kernel
theorem eWa_codeHome_64 : decode prog_12_method_16_code 64 = .ok (.iload_n 2, 1) := by decide +kernel
theorem eWa_codeHome_65 : decode prog_12_method_16_code 65 = .ok (.iconst 1, 1) := by decide +kernel
theorem eWa_codeHome_66 : decode prog_12_method_16_code 66 = .ok (.isub, 1) := by decide +kernel
theorem eWa_codeHome_67 : decode prog_12_method_16_code 67 = .ok (.if_icmp .ne 5, 3) := by decide +kernel
theorem eWa_codeHome_70 : decode prog_12_method_16_code 70 = .ok (.iload_n 3, 1) := by decide +kernel
theorem eWa_codeHome_71 : decode prog_12_method_16_code 71 = .ok (.ireturn, 1) := by decide +kernel
theorem eWa_codeHome_72 : decode prog_12_method_16_code 72 = .ok (.iinc 3 1, 3) := by decide +kernel
theorem eWa_codeHome_75 : decode prog_12_method_16_code 75 = .ok (.goto (-56), 3) := by decide +kernel
theorem eWa_codeHome_78 : decode prog_12_method_16_code 78 = .ok (.iconst 4, 1) := by decide +kernel
theorem eWa_codeHome_79 : decode prog_12_method_16_code 79 = .ok (.ireturn, 1) := by decide +kernel
theorem eWa_legOf_0 : decode prog_12_method_17_code 0 = .ok (.aload_n 0, 1) := by decide +kernel
theorem eWa_legOf_1 : decode prog_12_method_17_code 1 = .ok (.getfield 9, 3) := by decide +kernel
theorem eWa_legOf_4 : decode prog_12_method_17_code 4 = .ok (.iload_n 1, 1) := by decide +kernel
theorem eWa_legOf_5 : decode prog_12_method_17_code 5 = .ok (.invokevirtual 92, 3) := by decide +kernel
theorem eWa_legOf_8 : decode prog_12_method_17_code 8 = .ok (.ifCond .eq 14, 3) := by decide +kernel
theorem eWa_legOf_11 : decode prog_12_method_17_code 11 = .ok (.aload_n 0, 1) := by decide +kernel
theorem eWa_legOf_12 : decode prog_12_method_17_code 12 = .ok (.getfield 9, 3) := by decide +kernel
theorem eWa_legOf_15 : decode prog_12_method_17_code 15 = .ok (.iload_n 2, 1) := by decide +kernel
theorem eWa_legOf_16 : decode prog_12_method_17_code 16 = .ok (.invokevirtual 92, 3) := by decide +kernel
theorem eWa_legOf_19 : decode prog_12_method_17_code 19 = .ok (.ifCond .ne 6, 3) := by decide +kernel
theorem eWa_legOf_22 : decode prog_12_method_17_code 22 = .ok (.bipush (-2), 2) := by decide +kernel
theorem eWa_legOf_24 : decode prog_12_method_17_code 24 = .ok (.ireturn, 1) := by decide +kernel
theorem eWa_legOf_25 : decode prog_12_method_17_code 25 = .ok (.aload_n 0, 1) := by decide +kernel
theorem eWa_legOf_26 : decode prog_12_method_17_code 26 = .ok (.getfield 81, 3) := by decide +kernel
theorem eWa_legOf_29 : decode prog_12_method_17_code 29 = .ok (.iload_n 1, 1) := by decide +kernel
theorem eWa_legOf_30 : decode prog_12_method_17_code 30 = .ok (.ishr, 1) := by decide +kernel
theorem eWa_legOf_31 : decode prog_12_method_17_code 31 = .ok (.iconst 1, 1) := by decide +kernel
theorem eWa_legOf_32 : decode prog_12_method_17_code 32 = .ok (.iand, 1) := by decide +kernel
theorem eWa_legOf_33 : decode prog_12_method_17_code 33 = .ok (.ifCond .ne 20, 3) := by decide +kernel
theorem eWa_legOf_36 : decode prog_12_method_17_code 36 = .ok (.aload_n 0, 1) := by decide +kernel
theorem eWa_legOf_37 : decode prog_12_method_17_code 37 = .ok (.iload_n 1, 1) := by decide +kernel
theorem eWa_legOf_38 : decode prog_12_method_17_code 38 = .ok (.invokevirtual 197, 3) := by decide +kernel
theorem eWa_legOf_41 : decode prog_12_method_17_code 41 = .ok (.aload_n 0, 1) := by decide +kernel
theorem eWa_legOf_42 : decode prog_12_method_17_code 42 = .ok (.dup, 1) := by decide +kernel
theorem eWa_legOf_43 : decode prog_12_method_17_code 43 = .ok (.getfield 81, 3) := by decide +kernel
theorem eWa_legOf_46 : decode prog_12_method_17_code 46 = .ok (.iconst 1, 1) := by decide +kernel
theorem eWa_legOf_47 : decode prog_12_method_17_code 47 = .ok (.iload_n 1, 1) := by decide +kernel
theorem eWa_legOf_48 : decode prog_12_method_17_code 48 = .ok (.ishl, 1) := by decide +kernel
theorem eWa_legOf_49 : decode prog_12_method_17_code 49 = .ok (.ior, 1) := by decide +kernel
theorem eWa_legOf_50 : decode prog_12_method_17_code 50 = .ok (.putfield 81, 3) := by decide +kernel
theorem eWa_legOf_53 : decode prog_12_method_17_code 53 = .ok (.aload_n 0, 1) := by decide +kernel
theorem eWa_legOf_54 : decode prog_12_method_17_code 54 = .ok (.getfield 44, 3) := by decide +kernel
theorem eWa_legOf_57 : decode prog_12_method_17_code 57 = .ok (.bipush 6, 2) := by decide +kernel
theorem eWa_legOf_59 : decode prog_12_method_17_code 59 = .ok (.iload_n 1, 1) := by decide +kernel
theorem eWa_legOf_60 : decode prog_12_method_17_code 60 = .ok (.imul, 1) := by decide +kernel
theorem eWa_legOf_61 : decode prog_12_method_17_code 61 = .ok (.iload_n 2, 1) := by decide +kernel
theorem eWa_legOf_62 : decode prog_12_method_17_code 62 = .ok (.iadd, 1) := by decide +kernel
theorem eWa_legOf_63 : decode prog_12_method_17_code 63 = .ok (.iaload, 1) := by decide +kernel
theorem eWa_legOf_64 : decode prog_12_method_17_code 64 = .ok (.ireturn, 1) := by decide +kernel
theorem eWa_searchLegs_0 : decode prog_12_method_18_code 0 = .ok (.aload_n 0, 1) := by decide +kernel
theorem eWa_searchLegs_1 : decode prog_12_method_18_code 1 = .ok (.getfield 41, 3) := by decide +kernel
theorem eWa_searchLegs_4 : decode prog_12_method_18_code 4 = .ok (.aload_n 0, 1) := by decide +kernel
theorem eWa_searchLegs_5 : decode prog_12_method_18_code 5 = .ok (.getfield 22, 3) := by decide +kernel
theorem eWa_searchLegs_8 : decode prog_12_method_18_code 8 = .ok (.iconst 0, 1) := by decide +kernel
theorem eWa_searchLegs_9 : decode prog_12_method_18_code 9 = .ok (.sipush 511, 3) := by decide +kernel
theorem eWa_searchLegs_12 : decode prog_12_method_18_code 12 = .ok (.iconst 4, 1) := by decide +kernel
theorem eWa_searchLegs_13 : decode prog_12_method_18_code 13 = .ok (.invokevirtual 108, 3) := by decide +kernel
theorem eWa_searchLegs_16 : decode prog_12_method_18_code 16 = .ok (.aload_n 0, 1) := by decide +kernel
theorem eWa_searchLegs_17 : decode prog_12_method_18_code 17 = .ok (.aload_n 0, 1) := by decide +kernel
theorem eWa_searchLegs_18 : decode prog_12_method_18_code 18 = .ok (.getfield 22, 3) := by decide +kernel
theorem eWa_searchLegs_21 : decode prog_12_method_18_code 21 = .ok (.iload_n 1, 1) := by decide +kernel
theorem eWa_searchLegs_22 : decode prog_12_method_18_code 22 = .ok (.invokevirtual 119, 3) := by decide +kernel
theorem eWa_searchLegs_25 : decode prog_12_method_18_code 25 = .ok (.ifCond .lt 14, 3) := by decide +kernel
theorem eWa_searchLegs_28 : decode prog_12_method_18_code 28 = .ok (.aload_n 0, 1) := by decide +kernel
theorem eWa_searchLegs_29 : decode prog_12_method_18_code 29 = .ok (.getfield 41, 3) := by decide +kernel
theorem eWa_searchLegs_32 : decode prog_12_method_18_code 32 = .ok (.aload_n 0, 1) := by decide +kernel
theorem eWa_searchLegs_33 : decode prog_12_method_18_code 33 = .ok (.getfield 51, 3) := by decide +kernel
theorem eWa_searchLegs_36 : decode prog_12_method_18_code 36 = .ok (.invokevirtual 115, 3) := by decide +kernel
theorem eWa_searchLegs_39 : decode prog_12_method_18_code 39 = .ok (.iconst 0, 1) := by decide +kernel
theorem eWa_searchLegs_40 : decode prog_12_method_18_code 40 = .ok (.istore_n 2, 1) := by decide +kernel
theorem eWa_searchLegs_41 : decode prog_12_method_18_code 41 = .ok (.iload_n 2, 1) := by decide +kernel
theorem eWa_searchLegs_42 : decode prog_12_method_18_code 42 = .ok (.bipush 6, 2) := by decide +kernel
theorem eWa_searchLegs_44 : decode prog_12_method_18_code 44 = .ok (.if_icmp .ge 51, 3) := by decide +kernel
theorem eWa_searchLegs_47 : decode prog_12_method_18_code 47 = .ok (.bipush 6, 2) := by decide +kernel
theorem eWa_searchLegs_49 : decode prog_12_method_18_code 49 = .ok (.iload_n 1, 1) := by decide +kernel
theorem eWa_searchLegs_50 : decode prog_12_method_18_code 50 = .ok (.imul, 1) := by decide +kernel
theorem eWa_searchLegs_51 : decode prog_12_method_18_code 51 = .ok (.iload_n 2, 1) := by decide +kernel
theorem eWa_searchLegs_52 : decode prog_12_method_18_code 52 = .ok (.iadd, 1) := by decide +kernel
theorem eWa_searchLegs_53 : decode prog_12_method_18_code 53 = .ok (.istore_n 3, 1) := by decide +kernel
theorem eWa_searchLegs_54 : decode prog_12_method_18_code 54 = .ok (.iload_n 3, 1) := by decide +kernel
theorem eWa_searchLegs_55 : decode prog_12_method_18_code 55 = .ok (.ifCond .lt 34, 3) := by decide +kernel
theorem eWa_searchLegs_58 : decode prog_12_method_18_code 58 = .ok (.iload_n 3, 1) := by decide +kernel
theorem eWa_searchLegs_59 : decode prog_12_method_18_code 59 = .ok (.aload_n 0, 1) := by decide +kernel
theorem eWa_searchLegs_60 : decode prog_12_method_18_code 60 = .ok (.getfield 44, 3) := by decide +kernel
theorem eWa_searchLegs_63 : decode prog_12_method_18_code 63 = .ok (.arraylength, 1) := by decide +kernel
theorem eWa_searchLegs_64 : decode prog_12_method_18_code 64 = .ok (.if_icmp .ge 25, 3) := by decide +kernel
theorem eWa_searchLegs_67 : decode prog_12_method_18_code 67 = .ok (.aload_n 0, 1) := by decide +kernel
theorem eWa_searchLegs_68 : decode prog_12_method_18_code 68 = .ok (.getfield 44, 3) := by decide +kernel
theorem eWa_searchLegs_71 : decode prog_12_method_18_code 71 = .ok (.iload_n 3, 1) := by decide +kernel
theorem eWa_searchLegs_72 : decode prog_12_method_18_code 72 = .ok (.aload_n 0, 1) := by decide +kernel
theorem eWa_searchLegs_73 : decode prog_12_method_18_code 73 = .ok (.getfield 41, 3) := by decide +kernel
theorem eWa_searchLegs_76 : decode prog_12_method_18_code 76 = .ok (.aload_n 0, 1) := by decide +kernel
theorem eWa_searchLegs_77 : decode prog_12_method_18_code 77 = .ok (.aload_n 0, 1) := by decide +kernel
theorem eWa_searchLegs_78 : decode prog_12_method_18_code 78 = .ok (.getfield 22, 3) := by decide +kernel
theorem eWa_searchLegs_81 : decode prog_12_method_18_code 81 = .ok (.iload_n 2, 1) := by decide +kernel
theorem eWa_searchLegs_82 : decode prog_12_method_18_code 82 = .ok (.invokevirtual 119, 3) := by decide +kernel
theorem eWa_searchLegs_85 : decode prog_12_method_18_code 85 = .ok (.invokevirtual 127, 3) := by decide +kernel
theorem eWa_searchLegs_88 : decode prog_12_method_18_code 88 = .ok (.iastore, 1) := by decide +kernel
theorem eWa_searchLegs_89 : decode prog_12_method_18_code 89 = .ok (.iinc 2 1, 3) := by decide +kernel
theorem eWa_searchLegs_92 : decode prog_12_method_18_code 92 = .ok (.goto (-51), 3) := by decide +kernel
theorem eWa_searchLegs_95 : decode prog_12_method_18_code 95 = .ok (.return_, 1) := by decide +kernel
theorem eWa_stepsBySome_0 : decode prog_12_method_19_code 0 = .ok (.aload_n 0, 1) := by decide +kernel
theorem eWa_stepsBySome_1 : decode prog_12_method_19_code 1 = .ok (.getfield 41, 3) := by decide +kernel
theorem eWa_stepsBySome_4 : decode prog_12_method_19_code 4 = .ok (.aload_n 0, 1) := by decide +kernel
theorem eWa_stepsBySome_5 : decode prog_12_method_19_code 5 = .ok (.getfield 22, 3) := by decide +kernel
theorem eWa_stepsBySome_8 : decode prog_12_method_19_code 8 = .ok (.iconst 0, 1) := by decide +kernel
theorem eWa_stepsBySome_9 : decode prog_12_method_19_code 9 = .ok (.iload_n 2, 1) := by decide +kernel
theorem eWa_stepsBySome_10 : decode prog_12_method_19_code 10 = .ok (.iload_n 3, 1) := by decide +kernel
theorem eWa_stepsBySome_11 : decode prog_12_method_19_code 11 = .ok (.invokevirtual 108, 3) := by decide +kernel
theorem eWa_stepsBySome_14 : decode prog_12_method_19_code 14 = .ok (.aload_n 0, 1) := by decide +kernel
theorem eWa_stepsBySome_15 : decode prog_12_method_19_code 15 = .ok (.getfield 41, 3) := by decide +kernel
theorem eWa_stepsBySome_18 : decode prog_12_method_19_code 18 = .ok (.aload_n 0, 1) := by decide +kernel
theorem eWa_stepsBySome_19 : decode prog_12_method_19_code 19 = .ok (.getfield 15, 3) := by decide +kernel
theorem eWa_stepsBySome_22 : decode prog_12_method_19_code 22 = .ok (.getfield 112, 3) := by decide +kernel
theorem eWa_stepsBySome_25 : decode prog_12_method_19_code 25 = .ok (.invokevirtual 115, 3) := by decide +kernel
theorem eWa_stepsBySome_28 : decode prog_12_method_19_code 28 = .ok (.aload_n 0, 1) := by decide +kernel
theorem eWa_stepsBySome_29 : decode prog_12_method_19_code 29 = .ok (.getfield 41, 3) := by decide +kernel
theorem eWa_stepsBySome_32 : decode prog_12_method_19_code 32 = .ok (.aload_n 0, 1) := by decide +kernel
theorem eWa_stepsBySome_33 : decode prog_12_method_19_code 33 = .ok (.aload_n 0, 1) := by decide +kernel
theorem eWa_stepsBySome_34 : decode prog_12_method_19_code 34 = .ok (.getfield 22, 3) := by decide +kernel
theorem eWa_stepsBySome_37 : decode prog_12_method_19_code 37 = .ok (.iload_n 1, 1) := by decide +kernel
theorem eWa_stepsBySome_38 : decode prog_12_method_19_code 38 = .ok (.invokevirtual 119, 3) := by decide +kernel
theorem eWa_stepsBySome_41 : decode prog_12_method_19_code 41 = .ok (.invokevirtual 127, 3) := by decide +kernel
theorem eWa_stepsBySome_44 : decode prog_12_method_19_code 44 = .ok (.ireturn, 1) := by decide +kernel
theorem eWa_pushesTo_0 : decode prog_12_method_20_code 0 = .ok (.aload_n 0, 1) := by decide +kernel
theorem eWa_pushesTo_1 : decode prog_12_method_20_code 1 = .ok (.getfield 41, 3) := by decide +kernel
theorem eWa_pushesTo_4 : decode prog_12_method_20_code 4 = .ok (.aload_n 0, 1) := by decide +kernel
theorem eWa_pushesTo_5 : decode prog_12_method_20_code 5 = .ok (.getfield 22, 3) := by decide +kernel
theorem eWa_pushesTo_8 : decode prog_12_method_20_code 8 = .ok (.iconst 0, 1) := by decide +kernel
theorem eWa_pushesTo_9 : decode prog_12_method_20_code 9 = .ok (.sipush 511, 3) := by decide +kernel
theorem eWa_pushesTo_12 : decode prog_12_method_20_code 12 = .ok (.iconst 4, 1) := by decide +kernel
theorem eWa_pushesTo_13 : decode prog_12_method_20_code 13 = .ok (.invokevirtual 108, 3) := by decide +kernel
theorem eWa_pushesTo_16 : decode prog_12_method_20_code 16 = .ok (.aload_n 0, 1) := by decide +kernel
theorem eWa_pushesTo_17 : decode prog_12_method_20_code 17 = .ok (.getfield 41, 3) := by decide +kernel
theorem eWa_pushesTo_20 : decode prog_12_method_20_code 20 = .ok (.aload_n 0, 1) := by decide +kernel
theorem eWa_pushesTo_21 : decode prog_12_method_20_code 21 = .ok (.getfield 15, 3) := by decide +kernel
theorem eWa_pushesTo_24 : decode prog_12_method_20_code 24 = .ok (.getfield 112, 3) := by decide +kernel
theorem eWa_pushesTo_27 : decode prog_12_method_20_code 27 = .ok (.invokevirtual 115, 3) := by decide +kernel
theorem eWa_pushesTo_30 : decode prog_12_method_20_code 30 = .ok (.aload_n 0, 1) := by decide +kernel
theorem eWa_pushesTo_31 : decode prog_12_method_20_code 31 = .ok (.getfield 41, 3) := by decide +kernel
theorem eWa_pushesTo_34 : decode prog_12_method_20_code 34 = .ok (.aload_n 0, 1) := by decide +kernel
theorem eWa_pushesTo_35 : decode prog_12_method_20_code 35 = .ok (.aload_n 0, 1) := by decide +kernel
theorem eWa_pushesTo_36 : decode prog_12_method_20_code 36 = .ok (.getfield 22, 3) := by decide +kernel
theorem eWa_pushesTo_39 : decode prog_12_method_20_code 39 = .ok (.iload_n 1, 1) := by decide +kernel
theorem eWa_pushesTo_40 : decode prog_12_method_20_code 40 = .ok (.invokevirtual 119, 3) := by decide +kernel
theorem eWa_pushesTo_43 : decode prog_12_method_20_code 43 = .ok (.invokevirtual 200, 3) := by decide +kernel
theorem eWa_pushesTo_46 : decode prog_12_method_20_code 46 = .ok (.ireturn, 1) := by decide +kernel
theorem eWa_stepsBehindWind_0 : decode prog_12_method_21_code 0 = .ok (.aload_n 0, 1) := by decide +kernel
theorem eWa_stepsBehindWind_1 : decode prog_12_method_21_code 1 = .ok (.getfield 41, 3) := by decide +kernel
theorem eWa_stepsBehindWind_4 : decode prog_12_method_21_code 4 = .ok (.aload_n 0, 1) := by decide +kernel
theorem eWa_stepsBehindWind_5 : decode prog_12_method_21_code 5 = .ok (.getfield 22, 3) := by decide +kernel
theorem eWa_stepsBehindWind_8 : decode prog_12_method_21_code 8 = .ok (.iconst 0, 1) := by decide +kernel
theorem eWa_stepsBehindWind_9 : decode prog_12_method_21_code 9 = .ok (.sipush 511, 3) := by decide +kernel
theorem eWa_stepsBehindWind_12 : decode prog_12_method_21_code 12 = .ok (.iconst 4, 1) := by decide +kernel
theorem eWa_stepsBehindWind_13 : decode prog_12_method_21_code 13 = .ok (.invokevirtual 108, 3) := by decide +kernel
theorem eWa_stepsBehindWind_16 : decode prog_12_method_21_code 16 = .ok (.aload_n 0, 1) := by decide +kernel
theorem eWa_stepsBehindWind_17 : decode prog_12_method_21_code 17 = .ok (.getfield 51, 3) := by decide +kernel
theorem eWa_stepsBehindWind_20 : decode prog_12_method_21_code 20 = .ok (.aload_n 0, 1) := by decide +kernel
theorem eWa_stepsBehindWind_21 : decode prog_12_method_21_code 21 = .ok (.getfield 15, 3) := by decide +kernel
theorem eWa_stepsBehindWind_24 : decode prog_12_method_21_code 24 = .ok (.getfield 112, 3) := by decide +kernel
theorem eWa_stepsBehindWind_27 : decode prog_12_method_21_code 27 = .ok (.invokevirtual 191, 3) := by decide +kernel
theorem eWa_stepsBehindWind_30 : decode prog_12_method_21_code 30 = .ok (.aload_n 0, 1) := by decide +kernel
theorem eWa_stepsBehindWind_31 : decode prog_12_method_21_code 31 = .ok (.getfield 51, 3) := by decide +kernel
theorem eWa_stepsBehindWind_34 : decode prog_12_method_21_code 34 = .ok (.iconst 4, 1) := by decide +kernel
theorem eWa_stepsBehindWind_35 : decode prog_12_method_21_code 35 = .ok (.iload_n 2, 1) := by decide +kernel
theorem eWa_stepsBehindWind_36 : decode prog_12_method_21_code 36 = .ok (.invokevirtual 194, 3) := by decide +kernel
theorem eWa_stepsBehindWind_39 : decode prog_12_method_21_code 39 = .ok (.aload_n 0, 1) := by decide +kernel
theorem eWa_stepsBehindWind_40 : decode prog_12_method_21_code 40 = .ok (.getfield 41, 3) := by decide +kernel
theorem eWa_stepsBehindWind_43 : decode prog_12_method_21_code 43 = .ok (.aload_n 0, 1) := by decide +kernel
theorem eWa_stepsBehindWind_44 : decode prog_12_method_21_code 44 = .ok (.getfield 51, 3) := by decide +kernel
theorem eWa_stepsBehindWind_47 : decode prog_12_method_21_code 47 = .ok (.invokevirtual 115, 3) := by decide +kernel
theorem eWa_stepsBehindWind_50 : decode prog_12_method_21_code 50 = .ok (.aload_n 0, 1) := by decide +kernel
theorem eWa_stepsBehindWind_51 : decode prog_12_method_21_code 51 = .ok (.getfield 41, 3) := by decide +kernel
theorem eWa_stepsBehindWind_54 : decode prog_12_method_21_code 54 = .ok (.aload_n 0, 1) := by decide +kernel
theorem eWa_stepsBehindWind_55 : decode prog_12_method_21_code 55 = .ok (.aload_n 0, 1) := by decide +kernel
theorem eWa_stepsBehindWind_56 : decode prog_12_method_21_code 56 = .ok (.getfield 22, 3) := by decide +kernel
theorem eWa_stepsBehindWind_59 : decode prog_12_method_21_code 59 = .ok (.iload_n 1, 1) := by decide +kernel
theorem eWa_stepsBehindWind_60 : decode prog_12_method_21_code 60 = .ok (.invokevirtual 119, 3) := by decide +kernel
theorem eWa_stepsBehindWind_63 : decode prog_12_method_21_code 63 = .ok (.invokevirtual 127, 3) := by decide +kernel
theorem eWa_stepsBehindWind_66 : decode prog_12_method_21_code 66 = .ok (.ireturn, 1) := by decide +kernel
theorem eWa_stepsUnderPile_0 : decode prog_12_method_22_code 0 = .ok (.aload_n 0, 1) := by decide +kernel
theorem eWa_stepsUnderPile_1 : decode prog_12_method_22_code 1 = .ok (.getfield 9, 3) := by decide +kernel
theorem eWa_stepsUnderPile_4 : decode prog_12_method_22_code 4 = .ok (.iload_n 1, 1) := by decide +kernel
theorem eWa_stepsUnderPile_5 : decode prog_12_method_22_code 5 = .ok (.invokevirtual 203, 3) := by decide +kernel
theorem eWa_stepsUnderPile_8 : decode prog_12_method_22_code 8 = .ok (.ifCond .ne 6, 3) := by decide +kernel
theorem eWa_stepsUnderPile_11 : decode prog_12_method_22_code 11 = .ok (.bipush (-2), 2) := by decide +kernel
theorem eWa_stepsUnderPile_13 : decode prog_12_method_22_code 13 = .ok (.ireturn, 1) := by decide +kernel
theorem eWa_stepsUnderPile_14 : decode prog_12_method_22_code 14 = .ok (.aload_n 0, 1) := by decide +kernel
theorem eWa_stepsUnderPile_15 : decode prog_12_method_22_code 15 = .ok (.getfield 15, 3) := by decide +kernel
theorem eWa_stepsUnderPile_18 : decode prog_12_method_22_code 18 = .ok (.getfield 66, 3) := by decide +kernel
theorem eWa_stepsUnderPile_21 : decode prog_12_method_22_code 21 = .ok (.iload_n 1, 1) := by decide +kernel
theorem eWa_stepsUnderPile_22 : decode prog_12_method_22_code 22 = .ok (.dup2, 1) := by decide +kernel
theorem eWa_stepsUnderPile_23 : decode prog_12_method_22_code 23 = .ok (.iaload, 1) := by decide +kernel
theorem eWa_stepsUnderPile_24 : decode prog_12_method_22_code 24 = .ok (.iconst 1, 1) := by decide +kernel
theorem eWa_stepsUnderPile_25 : decode prog_12_method_22_code 25 = .ok (.iadd, 1) := by decide +kernel
theorem eWa_stepsUnderPile_26 : decode prog_12_method_22_code 26 = .ok (.iastore, 1) := by decide +kernel
theorem eWa_stepsUnderPile_27 : decode prog_12_method_22_code 27 = .ok (.aload_n 0, 1) := by decide +kernel
theorem eWa_stepsUnderPile_28 : decode prog_12_method_22_code 28 = .ok (.getfield 26, 3) := by decide +kernel
theorem eWa_stepsUnderPile_31 : decode prog_12_method_22_code 31 = .ok (.aload_n 0, 1) := by decide +kernel
theorem eWa_stepsUnderPile_32 : decode prog_12_method_22_code 32 = .ok (.getfield 9, 3) := by decide +kernel
theorem eWa_stepsUnderPile_35 : decode prog_12_method_22_code 35 = .ok (.aload_n 0, 1) := by decide +kernel
theorem eWa_stepsUnderPile_36 : decode prog_12_method_22_code 36 = .ok (.getfield 15, 3) := by decide +kernel
theorem eWa_stepsUnderPile_39 : decode prog_12_method_22_code 39 = .ok (.getfield 66, 3) := by decide +kernel
theorem eWa_stepsUnderPile_42 : decode prog_12_method_22_code 42 = .ok (.aload_n 0, 1) := by decide +kernel
theorem eWa_stepsUnderPile_43 : decode prog_12_method_22_code 43 = .ok (.getfield 15, 3) := by decide +kernel
theorem eWa_stepsUnderPile_46 : decode prog_12_method_22_code 46 = .ok (.getfield 71, 3) := by decide +kernel
theorem eWa_stepsUnderPile_49 : decode prog_12_method_22_code 49 = .ok (.invokevirtual 74, 3) := by decide +kernel
theorem eWa_stepsUnderPile_52 : decode prog_12_method_22_code 52 = .ok (.aload_n 0, 1) := by decide +kernel
theorem eWa_stepsUnderPile_53 : decode prog_12_method_22_code 53 = .ok (.getfield 15, 3) := by decide +kernel
theorem eWa_stepsUnderPile_56 : decode prog_12_method_22_code 56 = .ok (.getfield 66, 3) := by decide +kernel
theorem eWa_stepsUnderPile_59 : decode prog_12_method_22_code 59 = .ok (.iload_n 1, 1) := by decide +kernel
theorem eWa_stepsUnderPile_60 : decode prog_12_method_22_code 60 = .ok (.dup2, 1) := by decide +kernel
theorem eWa_stepsUnderPile_61 : decode prog_12_method_22_code 61 = .ok (.iaload, 1) := by decide +kernel
theorem eWa_stepsUnderPile_62 : decode prog_12_method_22_code 62 = .ok (.iconst 1, 1) := by decide +kernel
theorem eWa_stepsUnderPile_63 : decode prog_12_method_22_code 63 = .ok (.isub, 1) := by decide +kernel
theorem eWa_stepsUnderPile_64 : decode prog_12_method_22_code 64 = .ok (.iastore, 1) := by decide +kernel
theorem eWa_stepsUnderPile_65 : decode prog_12_method_22_code 65 = .ok (.aload_n 0, 1) := by decide +kernel
theorem eWa_stepsUnderPile_66 : decode prog_12_method_22_code 66 = .ok (.getfield 41, 3) := by decide +kernel
theorem eWa_stepsUnderPile_69 : decode prog_12_method_22_code 69 = .ok (.aload_n 0, 1) := by decide +kernel
theorem eWa_stepsUnderPile_70 : decode prog_12_method_22_code 70 = .ok (.getfield 26, 3) := by decide +kernel
theorem eWa_stepsUnderPile_73 : decode prog_12_method_22_code 73 = .ok (.iconst 0, 1) := by decide +kernel
theorem eWa_stepsUnderPile_74 : decode prog_12_method_22_code 74 = .ok (.sipush 511, 3) := by decide +kernel
theorem eWa_stepsUnderPile_77 : decode prog_12_method_22_code 77 = .ok (.iconst 4, 1) := by decide +kernel
theorem eWa_stepsUnderPile_78 : decode prog_12_method_22_code 78 = .ok (.invokevirtual 108, 3) := by decide +kernel
theorem eWa_stepsUnderPile_81 : decode prog_12_method_22_code 81 = .ok (.aload_n 0, 1) := by decide +kernel
theorem eWa_stepsUnderPile_82 : decode prog_12_method_22_code 82 = .ok (.getfield 41, 3) := by decide +kernel
theorem eWa_stepsUnderPile_85 : decode prog_12_method_22_code 85 = .ok (.aload_n 0, 1) := by decide +kernel
theorem eWa_stepsUnderPile_86 : decode prog_12_method_22_code 86 = .ok (.getfield 15, 3) := by decide +kernel
theorem eWa_stepsUnderPile_89 : decode prog_12_method_22_code 89 = .ok (.getfield 112, 3) := by decide +kernel
theorem eWa_stepsUnderPile_92 : decode prog_12_method_22_code 92 = .ok (.invokevirtual 115, 3) := by decide +kernel
theorem eWa_stepsUnderPile_95 : decode prog_12_method_22_code 95 = .ok (.aload_n 0, 1) := by decide +kernel
theorem eWa_stepsUnderPile_96 : decode prog_12_method_22_code 96 = .ok (.getfield 41, 3) := by decide +kernel
theorem eWa_stepsUnderPile_99 : decode prog_12_method_22_code 99 = .ok (.aload_n 0, 1) := by decide +kernel
theorem eWa_stepsUnderPile_100 : decode prog_12_method_22_code 100 = .ok (.aload_n 0, 1) := by decide +kernel
theorem eWa_stepsUnderPile_101 : decode prog_12_method_22_code 101 = .ok (.getfield 26, 3) := by decide +kernel
theorem eWa_stepsUnderPile_104 : decode prog_12_method_22_code 104 = .ok (.iload_n 2, 1) := by decide +kernel
theorem eWa_stepsUnderPile_105 : decode prog_12_method_22_code 105 = .ok (.invokevirtual 119, 3) := by decide +kernel
theorem eWa_stepsUnderPile_108 : decode prog_12_method_22_code 108 = .ok (.invokevirtual 127, 3) := by decide +kernel
theorem eWa_stepsUnderPile_111 : decode prog_12_method_22_code 111 = .ok (.ireturn, 1) := by decide +kernel
theorem eWa_supposedSteps_0 : decode prog_12_method_23_code 0 = .ok (.aload_n 0, 1) := by decide +kernel
theorem eWa_supposedSteps_1 : decode prog_12_method_23_code 1 = .ok (.getfield 41, 3) := by decide +kernel
theorem eWa_supposedSteps_4 : decode prog_12_method_23_code 4 = .ok (.aload_n 0, 1) := by decide +kernel
theorem eWa_supposedSteps_5 : decode prog_12_method_23_code 5 = .ok (.getfield 26, 3) := by decide +kernel
theorem eWa_supposedSteps_8 : decode prog_12_method_23_code 8 = .ok (.iconst 0, 1) := by decide +kernel
theorem eWa_supposedSteps_9 : decode prog_12_method_23_code 9 = .ok (.sipush 511, 3) := by decide +kernel
theorem eWa_supposedSteps_12 : decode prog_12_method_23_code 12 = .ok (.iconst 4, 1) := by decide +kernel
theorem eWa_supposedSteps_13 : decode prog_12_method_23_code 13 = .ok (.invokevirtual 108, 3) := by decide +kernel
theorem eWa_supposedSteps_16 : decode prog_12_method_23_code 16 = .ok (.aload_n 0, 1) := by decide +kernel
theorem eWa_supposedSteps_17 : decode prog_12_method_23_code 17 = .ok (.getfield 51, 3) := by decide +kernel
theorem eWa_supposedSteps_20 : decode prog_12_method_23_code 20 = .ok (.iload_n 1, 1) := by decide +kernel
theorem eWa_supposedSteps_21 : decode prog_12_method_23_code 21 = .ok (.iload_n 2, 1) := by decide +kernel
theorem eWa_supposedSteps_22 : decode prog_12_method_23_code 22 = .ok (.invokevirtual 84, 3) := by decide +kernel
theorem eWa_supposedSteps_25 : decode prog_12_method_23_code 25 = .ok (.aload_n 0, 1) := by decide +kernel
theorem eWa_supposedSteps_26 : decode prog_12_method_23_code 26 = .ok (.getfield 41, 3) := by decide +kernel
theorem eWa_supposedSteps_29 : decode prog_12_method_23_code 29 = .ok (.aload_n 0, 1) := by decide +kernel
theorem eWa_supposedSteps_30 : decode prog_12_method_23_code 30 = .ok (.getfield 51, 3) := by decide +kernel
theorem eWa_supposedSteps_33 : decode prog_12_method_23_code 33 = .ok (.invokevirtual 115, 3) := by decide +kernel
theorem eWa_supposedSteps_36 : decode prog_12_method_23_code 36 = .ok (.aload_n 0, 1) := by decide +kernel
theorem eWa_supposedSteps_37 : decode prog_12_method_23_code 37 = .ok (.getfield 41, 3) := by decide +kernel
theorem eWa_supposedSteps_40 : decode prog_12_method_23_code 40 = .ok (.aload_n 0, 1) := by decide +kernel
theorem eWa_supposedSteps_41 : decode prog_12_method_23_code 41 = .ok (.aload_n 0, 1) := by decide +kernel
theorem eWa_supposedSteps_42 : decode prog_12_method_23_code 42 = .ok (.getfield 26, 3) := by decide +kernel
theorem eWa_supposedSteps_45 : decode prog_12_method_23_code 45 = .ok (.iload_n 3, 1) := by decide +kernel
theorem eWa_supposedSteps_46 : decode prog_12_method_23_code 46 = .ok (.iload 4, 2) := by decide +kernel
theorem eWa_supposedSteps_48 : decode prog_12_method_23_code 48 = .ok (.invokevirtual 104, 3) := by decide +kernel
theorem eWa_supposedSteps_51 : decode prog_12_method_23_code 51 = .ok (.invokevirtual 127, 3) := by decide +kernel
theorem eWa_supposedSteps_54 : decode prog_12_method_23_code 54 = .ok (.ireturn, 1) := by decide +kernel
theorem eSc_init_0 : decode prog_1_method_1_code 0 = .ok (.aload_n 0, 1) := by decide +kernel
theorem eSc_init_1 : decode prog_1_method_1_code 1 = .ok (.invokespecial 3, 3) := by decide +kernel
theorem eSc_init_4 : decode prog_1_method_1_code 4 = .ok (.aload_n 0, 1) := by decide +kernel
theorem eSc_init_5 : decode prog_1_method_1_code 5 = .ok (.new 9, 3) := by decide +kernel
theorem eSc_init_8 : decode prog_1_method_1_code 8 = .ok (.dup, 1) := by decide +kernel
theorem eSc_init_9 : decode prog_1_method_1_code 9 = .ok (.invokespecial 11, 3) := by decide +kernel
theorem eSc_init_12 : decode prog_1_method_1_code 12 = .ok (.putfield 12, 3) := by decide +kernel
theorem eSc_init_15 : decode prog_1_method_1_code 15 = .ok (.aload_n 0, 1) := by decide +kernel
theorem eSc_init_16 : decode prog_1_method_1_code 16 = .ok (.new 16, 3) := by decide +kernel
theorem eSc_init_19 : decode prog_1_method_1_code 19 = .ok (.dup, 1) := by decide +kernel
theorem eSc_init_20 : decode prog_1_method_1_code 20 = .ok (.invokespecial 18, 3) := by decide +kernel
theorem eSc_init_23 : decode prog_1_method_1_code 23 = .ok (.putfield 19, 3) := by decide +kernel
theorem eSc_init_26 : decode prog_1_method_1_code 26 = .ok (.aload_n 0, 1) := by decide +kernel
theorem eSc_init_27 : decode prog_1_method_1_code 27 = .ok (.new 23, 3) := by decide +kernel
theorem eSc_init_30 : decode prog_1_method_1_code 30 = .ok (.dup, 1) := by decide +kernel
theorem eSc_init_31 : decode prog_1_method_1_code 31 = .ok (.invokespecial 25, 3) := by decide +kernel
theorem eSc_init_34 : decode prog_1_method_1_code 34 = .ok (.putfield 26, 3) := by decide +kernel
theorem eSc_init_37 : decode prog_1_method_1_code 37 = .ok (.aload_n 0, 1) := by decide +kernel
theorem eSc_init_38 : decode prog_1_method_1_code 38 = .ok (.getfield 26, 3) := by decide +kernel
theorem eSc_init_41 : decode prog_1_method_1_code 41 = .ok (.aload_n 0, 1) := by decide +kernel
theorem eSc_init_42 : decode prog_1_method_1_code 42 = .ok (.getfield 19, 3) := by decide +kernel
theorem eSc_init_45 : decode prog_1_method_1_code 45 = .ok (.invokevirtual 30, 3) := by decide +kernel
theorem eSc_init_48 : decode prog_1_method_1_code 48 = .ok (.aload_n 0, 1) := by decide +kernel
theorem eSc_init_49 : decode prog_1_method_1_code 49 = .ok (.new 34, 3) := by decide +kernel
theorem eSc_init_52 : decode prog_1_method_1_code 52 = .ok (.dup, 1) := by decide +kernel
theorem eSc_init_53 : decode prog_1_method_1_code 53 = .ok (.invokespecial 36, 3) := by decide +kernel
theorem eSc_init_56 : decode prog_1_method_1_code 56 = .ok (.putfield 37, 3) := by decide +kernel
theorem eSc_init_59 : decode prog_1_method_1_code 59 = .ok (.aload_n 0, 1) := by decide +kernel
theorem eSc_init_60 : decode prog_1_method_1_code 60 = .ok (.new 41, 3) := by decide +kernel
theorem eSc_init_63 : decode prog_1_method_1_code 63 = .ok (.dup, 1) := by decide +kernel
theorem eSc_init_64 : decode prog_1_method_1_code 64 = .ok (.invokespecial 43, 3) := by decide +kernel
theorem eSc_init_67 : decode prog_1_method_1_code 67 = .ok (.putfield 44, 3) := by decide +kernel
theorem eSc_init_70 : decode prog_1_method_1_code 70 = .ok (.aload_n 0, 1) := by decide +kernel
theorem eSc_init_71 : decode prog_1_method_1_code 71 = .ok (.new 23, 3) := by decide +kernel
theorem eSc_init_74 : decode prog_1_method_1_code 74 = .ok (.dup, 1) := by decide +kernel
theorem eSc_init_75 : decode prog_1_method_1_code 75 = .ok (.invokespecial 25, 3) := by decide +kernel
theorem eSc_init_78 : decode prog_1_method_1_code 78 = .ok (.putfield 48, 3) := by decide +kernel
theorem eSc_init_81 : decode prog_1_method_1_code 81 = .ok (.aload_n 0, 1) := by decide +kernel
theorem eSc_init_82 : decode prog_1_method_1_code 82 = .ok (.new 34, 3) := by decide +kernel
theorem eSc_init_85 : decode prog_1_method_1_code 85 = .ok (.dup, 1) := by decide +kernel
theorem eSc_init_86 : decode prog_1_method_1_code 86 = .ok (.invokespecial 36, 3) := by decide +kernel
theorem eSc_init_89 : decode prog_1_method_1_code 89 = .ok (.putfield 51, 3) := by decide +kernel
theorem eSc_init_92 : decode prog_1_method_1_code 92 = .ok (.aload_n 0, 1) := by decide +kernel
theorem eSc_init_93 : decode prog_1_method_1_code 93 = .ok (.new 54, 3) := by decide +kernel
theorem eSc_init_96 : decode prog_1_method_1_code 96 = .ok (.dup, 1) := by decide +kernel
theorem eSc_init_97 : decode prog_1_method_1_code 97 = .ok (.aload_n 0, 1) := by decide +kernel
theorem eSc_init_98 : decode prog_1_method_1_code 98 = .ok (.getfield 19, 3) := by decide +kernel
theorem eSc_init_101 : decode prog_1_method_1_code 101 = .ok (.aload_n 0, 1) := by decide +kernel
theorem eSc_init_102 : decode prog_1_method_1_code 102 = .ok (.getfield 26, 3) := by decide +kernel
theorem eSc_init_105 : decode prog_1_method_1_code 105 = .ok (.invokespecial 56, 3) := by decide +kernel
theorem eSc_init_108 : decode prog_1_method_1_code 108 = .ok (.putfield 59, 3) := by decide +kernel
theorem eSc_init_111 : decode prog_1_method_1_code 111 = .ok (.aload_n 0, 1) := by decide +kernel
theorem eSc_init_112 : decode prog_1_method_1_code 112 = .ok (.new 63, 3) := by decide +kernel
theorem eSc_init_115 : decode prog_1_method_1_code 115 = .ok (.dup, 1) := by decide +kernel
theorem eSc_init_116 : decode prog_1_method_1_code 116 = .ok (.aload_n 0, 1) := by decide +kernel
theorem eSc_init_117 : decode prog_1_method_1_code 117 = .ok (.getfield 19, 3) := by decide +kernel
theorem eSc_init_120 : decode prog_1_method_1_code 120 = .ok (.aload_n 0, 1) := by decide +kernel
theorem eSc_init_121 : decode prog_1_method_1_code 121 = .ok (.getfield 59, 3) := by decide +kernel
theorem eSc_init_124 : decode prog_1_method_1_code 124 = .ok (.invokespecial 65, 3) := by decide +kernel
theorem eSc_init_127 : decode prog_1_method_1_code 127 = .ok (.putfield 68, 3) := by decide +kernel
theorem eSc_init_130 : decode prog_1_method_1_code 130 = .ok (.aload_n 0, 1) := by decide +kernel
theorem eSc_init_131 : decode prog_1_method_1_code 131 = .ok (.new 72, 3) := by decide +kernel
theorem eSc_init_134 : decode prog_1_method_1_code 134 = .ok (.dup, 1) := by decide +kernel
theorem eSc_init_135 : decode prog_1_method_1_code 135 = .ok (.aload_n 0, 1) := by decide +kernel
theorem eSc_init_136 : decode prog_1_method_1_code 136 = .ok (.getfield 19, 3) := by decide +kernel
theorem eSc_init_139 : decode prog_1_method_1_code 139 = .ok (.aload_n 0, 1) := by decide +kernel
theorem eSc_init_140 : decode prog_1_method_1_code 140 = .ok (.getfield 26, 3) := by decide +kernel
theorem eSc_init_143 : decode prog_1_method_1_code 143 = .ok (.aload_n 0, 1) := by decide +kernel
theorem eSc_init_144 : decode prog_1_method_1_code 144 = .ok (.getfield 59, 3) := by decide +kernel
theorem eSc_init_147 : decode prog_1_method_1_code 147 = .ok (.invokespecial 74, 3) := by decide +kernel
theorem eSc_init_150 : decode prog_1_method_1_code 150 = .ok (.putfield 77, 3) := by decide +kernel
theorem eSc_init_153 : decode prog_1_method_1_code 153 = .ok (.aload_n 0, 1) := by decide +kernel
theorem eSc_init_154 : decode prog_1_method_1_code 154 = .ok (.new 81, 3) := by decide +kernel
theorem eSc_init_157 : decode prog_1_method_1_code 157 = .ok (.dup, 1) := by decide +kernel
theorem eSc_init_158 : decode prog_1_method_1_code 158 = .ok (.invokespecial 83, 3) := by decide +kernel
theorem eSc_init_161 : decode prog_1_method_1_code 161 = .ok (.putfield 84, 3) := by decide +kernel
theorem eSc_init_164 : decode prog_1_method_1_code 164 = .ok (.aload_n 0, 1) := by decide +kernel
theorem eSc_init_165 : decode prog_1_method_1_code 165 = .ok (.getfield 59, 3) := by decide +kernel
theorem eSc_init_168 : decode prog_1_method_1_code 168 = .ok (.invokevirtual 88, 3) := by decide +kernel
theorem eSc_init_171 : decode prog_1_method_1_code 171 = .ok (.return_, 1) := by decide +kernel
theorem eSc_feed_0 : decode prog_1_method_2_code 0 = .ok (.aload_n 0, 1) := by decide +kernel
theorem eSc_feed_1 : decode prog_1_method_2_code 1 = .ok (.getfield 12, 3) := by decide +kernel
theorem eSc_feed_4 : decode prog_1_method_2_code 4 = .ok (.iload_n 1, 1) := by decide +kernel
theorem eSc_feed_5 : decode prog_1_method_2_code 5 = .ok (.iload_n 2, 1) := by decide +kernel
theorem eSc_feed_6 : decode prog_1_method_2_code 6 = .ok (.iload_n 3, 1) := by decide +kernel
theorem eSc_feed_7 : decode prog_1_method_2_code 7 = .ok (.iload 4, 2) := by decide +kernel
theorem eSc_feed_9 : decode prog_1_method_2_code 9 = .ok (.iload 5, 2) := by decide +kernel
theorem eSc_feed_11 : decode prog_1_method_2_code 11 = .ok (.invokevirtual 91, 3) := by decide +kernel
theorem eSc_feed_14 : decode prog_1_method_2_code 14 = .ok (.ireturn, 1) := by decide +kernel
theorem eSc_text_0 : decode prog_1_method_3_code 0 = .ok (.iload_n 1, 1) := by decide +kernel
theorem eSc_text_1 : decode prog_1_method_3_code 1 = .ok (.ifCond .lt 14, 3) := by decide +kernel
theorem eSc_text_4 : decode prog_1_method_3_code 4 = .ok (.iload_n 1, 1) := by decide +kernel
theorem eSc_text_5 : decode prog_1_method_3_code 5 = .ok (.aload_n 0, 1) := by decide +kernel
theorem eSc_text_6 : decode prog_1_method_3_code 6 = .ok (.getfield 12, 3) := by decide +kernel
theorem eSc_text_9 : decode prog_1_method_3_code 9 = .ok (.getfield 95, 3) := by decide +kernel
theorem eSc_text_12 : decode prog_1_method_3_code 12 = .ok (.if_icmp .le 6, 3) := by decide +kernel
theorem eSc_text_15 : decode prog_1_method_3_code 15 = .ok (.bipush (-2), 2) := by decide +kernel
theorem eSc_text_17 : decode prog_1_method_3_code 17 = .ok (.ireturn, 1) := by decide +kernel
theorem eSc_text_18 : decode prog_1_method_3_code 18 = .ok (.aload_n 0, 1) := by decide +kernel
theorem eSc_text_19 : decode prog_1_method_3_code 19 = .ok (.getfield 12, 3) := by decide +kernel
theorem eSc_text_22 : decode prog_1_method_3_code 22 = .ok (.iload_n 1, 1) := by decide +kernel
theorem eSc_text_23 : decode prog_1_method_3_code 23 = .ok (.invokevirtual 99, 3) := by decide +kernel
theorem eSc_text_26 : decode prog_1_method_3_code 26 = .ok (.istore_n 2, 1) := by decide +kernel
theorem eSc_text_27 : decode prog_1_method_3_code 27 = .ok (.iload_n 2, 1) := by decide +kernel
theorem eSc_text_28 : decode prog_1_method_3_code 28 = .ok (.iconst (-1), 1) := by decide +kernel
theorem eSc_text_29 : decode prog_1_method_3_code 29 = .ok (.if_icmp .ne 5, 3) := by decide +kernel
theorem eSc_text_32 : decode prog_1_method_3_code 32 = .ok (.iconst (-1), 1) := by decide +kernel
theorem eSc_text_33 : decode prog_1_method_3_code 33 = .ok (.ireturn, 1) := by decide +kernel
theorem eSc_text_34 : decode prog_1_method_3_code 34 = .ok (.aload_n 0, 1) := by decide +kernel
theorem eSc_text_35 : decode prog_1_method_3_code 35 = .ok (.getfield 19, 3) := by decide +kernel
theorem eSc_text_38 : decode prog_1_method_3_code 38 = .ok (.aload_n 0, 1) := by decide +kernel
theorem eSc_text_39 : decode prog_1_method_3_code 39 = .ok (.getfield 12, 3) := by decide +kernel
theorem eSc_text_42 : decode prog_1_method_3_code 42 = .ok (.getfield 103, 3) := by decide +kernel
theorem eSc_text_45 : decode prog_1_method_3_code 45 = .ok (.invokevirtual 106, 3) := by decide +kernel
theorem eSc_text_48 : decode prog_1_method_3_code 48 = .ok (.aload_n 0, 1) := by decide +kernel
theorem eSc_text_49 : decode prog_1_method_3_code 49 = .ok (.getfield 26, 3) := by decide +kernel
theorem eSc_text_52 : decode prog_1_method_3_code 52 = .ok (.aload_n 0, 1) := by decide +kernel
theorem eSc_text_53 : decode prog_1_method_3_code 53 = .ok (.getfield 19, 3) := by decide +kernel
theorem eSc_text_56 : decode prog_1_method_3_code 56 = .ok (.invokevirtual 30, 3) := by decide +kernel
theorem eSc_text_59 : decode prog_1_method_3_code 59 = .ok (.aload_n 0, 1) := by decide +kernel
theorem eSc_text_60 : decode prog_1_method_3_code 60 = .ok (.getfield 37, 3) := by decide +kernel
theorem eSc_text_63 : decode prog_1_method_3_code 63 = .ok (.invokevirtual 109, 3) := by decide +kernel
theorem eSc_text_66 : decode prog_1_method_3_code 66 = .ok (.aload_n 0, 1) := by decide +kernel
theorem eSc_text_67 : decode prog_1_method_3_code 67 = .ok (.getfield 44, 3) := by decide +kernel
theorem eSc_text_70 : decode prog_1_method_3_code 70 = .ok (.invokevirtual 112, 3) := by decide +kernel
theorem eSc_text_73 : decode prog_1_method_3_code 73 = .ok (.aload_n 0, 1) := by decide +kernel
theorem eSc_text_74 : decode prog_1_method_3_code 74 = .ok (.iconst 0, 1) := by decide +kernel
theorem eSc_text_75 : decode prog_1_method_3_code 75 = .ok (.putfield 113, 3) := by decide +kernel
theorem eSc_text_78 : decode prog_1_method_3_code 78 = .ok (.aload_n 0, 1) := by decide +kernel
theorem eSc_text_79 : decode prog_1_method_3_code 79 = .ok (.getfield 59, 3) := by decide +kernel
theorem eSc_text_82 : decode prog_1_method_3_code 82 = .ok (.invokevirtual 88, 3) := by decide +kernel
theorem eSc_text_85 : decode prog_1_method_3_code 85 = .ok (.iload_n 2, 1) := by decide +kernel
theorem eSc_text_86 : decode prog_1_method_3_code 86 = .ok (.ireturn, 1) := by decide +kernel
theorem eSc_fault_0 : decode prog_1_method_4_code 0 = .ok (.iload_n 1, 1) := by decide +kernel
theorem eSc_fault_1 : decode prog_1_method_4_code 1 = .ok (.ifCond .ne 11, 3) := by decide +kernel
theorem eSc_fault_4 : decode prog_1_method_4_code 4 = .ok (.aload_n 0, 1) := by decide +kernel
theorem eSc_fault_5 : decode prog_1_method_4_code 5 = .ok (.getfield 12, 3) := by decide +kernel
theorem eSc_fault_8 : decode prog_1_method_4_code 8 = .ok (.getfield 117, 3) := by decide +kernel
theorem eSc_fault_11 : decode prog_1_method_4_code 11 = .ok (.ireturn, 1) := by decide +kernel
theorem eSc_fault_12 : decode prog_1_method_4_code 12 = .ok (.iload_n 1, 1) := by decide +kernel
theorem eSc_fault_13 : decode prog_1_method_4_code 13 = .ok (.iconst 1, 1) := by decide +kernel
theorem eSc_fault_14 : decode prog_1_method_4_code 14 = .ok (.if_icmp .ne 13, 3) := by decide +kernel
theorem eSc_fault_17 : decode prog_1_method_4_code 17 = .ok (.aload_n 0, 1) := by decide +kernel
theorem eSc_fault_18 : decode prog_1_method_4_code 18 = .ok (.getfield 12, 3) := by decide +kernel
theorem eSc_fault_21 : decode prog_1_method_4_code 21 = .ok (.getfield 120, 3) := by decide +kernel
theorem eSc_fault_24 : decode prog_1_method_4_code 24 = .ok (.goto 4, 3) := by decide +kernel
theorem eSc_fault_27 : decode prog_1_method_4_code 27 = .ok (.iconst (-1), 1) := by decide +kernel
theorem eSc_fault_28 : decode prog_1_method_4_code 28 = .ok (.ireturn, 1) := by decide +kernel
theorem eSc_named_0 : decode prog_1_method_5_code 0 = .ok (.aload_n 0, 1) := by decide +kernel
theorem eSc_named_1 : decode prog_1_method_5_code 1 = .ok (.getfield 19, 3) := by decide +kernel
theorem eSc_named_4 : decode prog_1_method_5_code 4 = .ok (.iload_n 1, 1) := by decide +kernel
theorem eSc_named_5 : decode prog_1_method_5_code 5 = .ok (.invokevirtual 123, 3) := by decide +kernel
theorem eSc_named_8 : decode prog_1_method_5_code 8 = .ok (.ireturn, 1) := by decide +kernel
theorem eSc_step_0 : decode prog_1_method_6_code 0 = .ok (.iload_n 1, 1) := by decide +kernel
theorem eSc_step_1 : decode prog_1_method_6_code 1 = .ok (.iconst (-1), 1) := by decide +kernel
theorem eSc_step_2 : decode prog_1_method_6_code 2 = .ok (.if_icmp .lt 18, 3) := by decide +kernel
theorem eSc_step_5 : decode prog_1_method_6_code 5 = .ok (.iload_n 1, 1) := by decide +kernel
theorem eSc_step_6 : decode prog_1_method_6_code 6 = .ok (.iconst 1, 1) := by decide +kernel
theorem eSc_step_7 : decode prog_1_method_6_code 7 = .ok (.if_icmp .gt 13, 3) := by decide +kernel
theorem eSc_step_10 : decode prog_1_method_6_code 10 = .ok (.iload_n 2, 1) := by decide +kernel
theorem eSc_step_11 : decode prog_1_method_6_code 11 = .ok (.iconst (-1), 1) := by decide +kernel
theorem eSc_step_12 : decode prog_1_method_6_code 12 = .ok (.if_icmp .lt 8, 3) := by decide +kernel
theorem eSc_step_15 : decode prog_1_method_6_code 15 = .ok (.iload_n 2, 1) := by decide +kernel
theorem eSc_step_16 : decode prog_1_method_6_code 16 = .ok (.iconst 1, 1) := by decide +kernel
theorem eSc_step_17 : decode prog_1_method_6_code 17 = .ok (.if_icmp .le 5, 3) := by decide +kernel
theorem eSc_step_20 : decode prog_1_method_6_code 20 = .ok (.iconst (-1), 1) := by decide +kernel
theorem eSc_step_21 : decode prog_1_method_6_code 21 = .ok (.ireturn, 1) := by decide +kernel
theorem eSc_step_22 : decode prog_1_method_6_code 22 = .ok (.aload_n 0, 1) := by decide +kernel
theorem eSc_step_23 : decode prog_1_method_6_code 23 = .ok (.iconst 3, 1) := by decide +kernel
theorem eSc_step_24 : decode prog_1_method_6_code 24 = .ok (.iload_n 1, 1) := by decide +kernel
theorem eSc_step_25 : decode prog_1_method_6_code 25 = .ok (.iconst 1, 1) := by decide +kernel
theorem eSc_step_26 : decode prog_1_method_6_code 26 = .ok (.iadd, 1) := by decide +kernel
theorem eSc_step_27 : decode prog_1_method_6_code 27 = .ok (.imul, 1) := by decide +kernel
theorem eSc_step_28 : decode prog_1_method_6_code 28 = .ok (.iload_n 2, 1) := by decide +kernel
theorem eSc_step_29 : decode prog_1_method_6_code 29 = .ok (.iadd, 1) := by decide +kernel
theorem eSc_step_30 : decode prog_1_method_6_code 30 = .ok (.iconst 1, 1) := by decide +kernel
theorem eSc_step_31 : decode prog_1_method_6_code 31 = .ok (.iadd, 1) := by decide +kernel
theorem eSc_step_32 : decode prog_1_method_6_code 32 = .ok (.iconst 0, 1) := by decide +kernel
theorem eSc_step_33 : decode prog_1_method_6_code 33 = .ok (.invokevirtual 126, 3) := by decide +kernel
theorem eSc_step_36 : decode prog_1_method_6_code 36 = .ok (.ifCond .eq 13, 3) := by decide +kernel
theorem eSc_step_39 : decode prog_1_method_6_code 39 = .ok (.aload_n 0, 1) := by decide +kernel
theorem eSc_step_40 : decode prog_1_method_6_code 40 = .ok (.getfield 26, 3) := by decide +kernel
theorem eSc_step_43 : decode prog_1_method_6_code 43 = .ok (.getfield 130, 3) := by decide +kernel
theorem eSc_step_46 : decode prog_1_method_6_code 46 = .ok (.goto 5, 3) := by decide +kernel
theorem eSc_step_49 : decode prog_1_method_6_code 49 = .ok (.bipush (-2), 2) := by decide +kernel
theorem eSc_step_51 : decode prog_1_method_6_code 51 = .ok (.ireturn, 1) := by decide +kernel
theorem eSc_flow_0 : decode prog_1_method_7_code 0 = .ok (.iload_n 1, 1) := by decide +kernel
theorem eSc_flow_1 : decode prog_1_method_7_code 1 = .ok (.iconst 1, 1) := by decide +kernel
theorem eSc_flow_2 : decode prog_1_method_7_code 2 = .ok (.if_icmp .lt 9, 3) := by decide +kernel
theorem eSc_flow_5 : decode prog_1_method_7_code 5 = .ok (.iload_n 1, 1) := by decide +kernel
theorem eSc_flow_6 : decode prog_1_method_7_code 6 = .ok (.bipush 40, 2) := by decide +kernel
theorem eSc_flow_8 : decode prog_1_method_7_code 8 = .ok (.if_icmp .le 5, 3) := by decide +kernel
theorem eSc_flow_11 : decode prog_1_method_7_code 11 = .ok (.iconst (-1), 1) := by decide +kernel
theorem eSc_flow_12 : decode prog_1_method_7_code 12 = .ok (.ireturn, 1) := by decide +kernel
theorem eSc_flow_13 : decode prog_1_method_7_code 13 = .ok (.iconst 0, 1) := by decide +kernel
theorem eSc_flow_14 : decode prog_1_method_7_code 14 = .ok (.istore_n 2, 1) := by decide +kernel
theorem eSc_flow_15 : decode prog_1_method_7_code 15 = .ok (.iload_n 2, 1) := by decide +kernel
theorem eSc_flow_16 : decode prog_1_method_7_code 16 = .ok (.iload_n 1, 1) := by decide +kernel
theorem eSc_flow_17 : decode prog_1_method_7_code 17 = .ok (.if_icmp .ge 18, 3) := by decide +kernel
theorem eSc_flow_20 : decode prog_1_method_7_code 20 = .ok (.aload_n 0, 1) := by decide +kernel
theorem eSc_flow_21 : decode prog_1_method_7_code 21 = .ok (.invokevirtual 133, 3) := by decide +kernel
theorem eSc_flow_24 : decode prog_1_method_7_code 24 = .ok (.ifCond .ne 5, 3) := by decide +kernel
theorem eSc_flow_27 : decode prog_1_method_7_code 27 = .ok (.iload_n 2, 1) := by decide +kernel
theorem eSc_flow_28 : decode prog_1_method_7_code 28 = .ok (.ireturn, 1) := by decide +kernel
theorem eSc_flow_29 : decode prog_1_method_7_code 29 = .ok (.iinc 2 1, 3) := by decide +kernel
theorem eSc_flow_32 : decode prog_1_method_7_code 32 = .ok (.goto (-17), 3) := by decide +kernel
theorem eSc_flow_35 : decode prog_1_method_7_code 35 = .ok (.iload_n 1, 1) := by decide +kernel
theorem eSc_flow_36 : decode prog_1_method_7_code 36 = .ok (.ireturn, 1) := by decide +kernel
theorem eSc_now_0 : decode prog_1_method_8_code 0 = .ok (.iload_n 1, 1) := by decide +kernel
theorem eSc_now_1 : decode prog_1_method_8_code 1 = .ok (.ifCond .ge 13, 3) := by decide +kernel
theorem eSc_now_4 : decode prog_1_method_8_code 4 = .ok (.new 137, 3) := by decide +kernel
theorem eSc_now_7 : decode prog_1_method_8_code 7 = .ok (.dup, 1) := by decide +kernel
theorem eSc_now_8 : decode prog_1_method_8_code 8 = .ok (.ldc 139, 2) := by decide +kernel
theorem eSc_now_10 : decode prog_1_method_8_code 10 = .ok (.invokespecial 141, 3) := by decide +kernel
theorem eSc_now_13 : decode prog_1_method_8_code 13 = .ok (.athrow, 1) := by decide +kernel
theorem eSc_now_14 : decode prog_1_method_8_code 14 = .ok (.aload_n 0, 1) := by decide +kernel
theorem eSc_now_15 : decode prog_1_method_8_code 15 = .ok (.getfield 26, 3) := by decide +kernel
theorem eSc_now_18 : decode prog_1_method_8_code 18 = .ok (.getfield 144, 3) := by decide +kernel
theorem eSc_now_21 : decode prog_1_method_8_code 21 = .ok (.astore_n 2, 1) := by decide +kernel
theorem eSc_now_22 : decode prog_1_method_8_code 22 = .ok (.iload_n 1, 1) := by decide +kernel
theorem eSc_now_23 : decode prog_1_method_8_code 23 = .ok (.tableswitch 112 0 8 #[49, 54, 59, 64, 69, 74, 79, 92, 104], 49) := by decide +kernel
theorem eSc_now_72 : decode prog_1_method_8_code 72 = .ok (.aload_n 2, 1) := by decide +kernel
theorem eSc_now_73 : decode prog_1_method_8_code 73 = .ok (.getfield 147, 3) := by decide +kernel
theorem eSc_now_76 : decode prog_1_method_8_code 76 = .ok (.ireturn, 1) := by decide +kernel
theorem eSc_now_77 : decode prog_1_method_8_code 77 = .ok (.aload_n 2, 1) := by decide +kernel
theorem eSc_now_78 : decode prog_1_method_8_code 78 = .ok (.getfield 150, 3) := by decide +kernel
theorem eSc_now_81 : decode prog_1_method_8_code 81 = .ok (.ireturn, 1) := by decide +kernel
theorem eSc_now_82 : decode prog_1_method_8_code 82 = .ok (.aload_n 2, 1) := by decide +kernel
theorem eSc_now_83 : decode prog_1_method_8_code 83 = .ok (.getfield 153, 3) := by decide +kernel
theorem eSc_now_86 : decode prog_1_method_8_code 86 = .ok (.ireturn, 1) := by decide +kernel
theorem eSc_now_87 : decode prog_1_method_8_code 87 = .ok (.aload_n 2, 1) := by decide +kernel
theorem eSc_now_88 : decode prog_1_method_8_code 88 = .ok (.getfield 156, 3) := by decide +kernel
theorem eSc_now_91 : decode prog_1_method_8_code 91 = .ok (.ireturn, 1) := by decide +kernel
theorem eSc_now_92 : decode prog_1_method_8_code 92 = .ok (.aload_n 2, 1) := by decide +kernel
theorem eSc_now_93 : decode prog_1_method_8_code 93 = .ok (.getfield 159, 3) := by decide +kernel
theorem eSc_now_96 : decode prog_1_method_8_code 96 = .ok (.ireturn, 1) := by decide +kernel
theorem eSc_now_97 : decode prog_1_method_8_code 97 = .ok (.aload_n 2, 1) := by decide +kernel
theorem eSc_now_98 : decode prog_1_method_8_code 98 = .ok (.invokevirtual 162, 3) := by decide +kernel
theorem eSc_now_101 : decode prog_1_method_8_code 101 = .ok (.ireturn, 1) := by decide +kernel
theorem eSc_now_102 : decode prog_1_method_8_code 102 = .ok (.aload_n 2, 1) := by decide +kernel
theorem eSc_now_103 : decode prog_1_method_8_code 103 = .ok (.invokevirtual 166, 3) := by decide +kernel
theorem eSc_now_106 : decode prog_1_method_8_code 106 = .ok (.ifCond .eq 7, 3) := by decide +kernel
theorem eSc_now_109 : decode prog_1_method_8_code 109 = .ok (.iconst 1, 1) := by decide +kernel
theorem eSc_now_110 : decode prog_1_method_8_code 110 = .ok (.goto 4, 3) := by decide +kernel
theorem eSc_now_113 : decode prog_1_method_8_code 113 = .ok (.iconst 0, 1) := by decide +kernel
theorem eSc_now_114 : decode prog_1_method_8_code 114 = .ok (.ireturn, 1) := by decide +kernel
theorem eSc_now_115 : decode prog_1_method_8_code 115 = .ok (.aload_n 0, 1) := by decide +kernel
theorem eSc_now_116 : decode prog_1_method_8_code 116 = .ok (.getfield 59, 3) := by decide +kernel
theorem eSc_now_119 : decode prog_1_method_8_code 119 = .ok (.getfield 169, 3) := by decide +kernel
theorem eSc_now_122 : decode prog_1_method_8_code 122 = .ok (.aload_n 2, 1) := by decide +kernel
theorem eSc_now_123 : decode prog_1_method_8_code 123 = .ok (.invokevirtual 173, 3) := by decide +kernel
theorem eSc_now_126 : decode prog_1_method_8_code 126 = .ok (.ireturn, 1) := by decide +kernel
theorem eSc_now_127 : decode prog_1_method_8_code 127 = .ok (.aload_n 0, 1) := by decide +kernel
theorem eSc_now_128 : decode prog_1_method_8_code 128 = .ok (.getfield 26, 3) := by decide +kernel
theorem eSc_now_131 : decode prog_1_method_8_code 131 = .ok (.getfield 179, 3) := by decide +kernel
theorem eSc_now_134 : decode prog_1_method_8_code 134 = .ok (.ireturn, 1) := by decide +kernel
theorem eSc_now_135 : decode prog_1_method_8_code 135 = .ok (.new 182, 3) := by decide +kernel
theorem eSc_now_138 : decode prog_1_method_8_code 138 = .ok (.dup, 1) := by decide +kernel
theorem eSc_now_139 : decode prog_1_method_8_code 139 = .ok (.ldc 184, 2) := by decide +kernel
theorem eSc_now_141 : decode prog_1_method_8_code 141 = .ok (.invokespecial 186, 3) := by decide +kernel
theorem eSc_now_144 : decode prog_1_method_8_code 144 = .ok (.athrow, 1) := by decide +kernel
theorem eSc_grab_0 : decode prog_1_method_9_code 0 = .ok (.aload_n 0, 1) := by decide +kernel
theorem eSc_grab_1 : decode prog_1_method_9_code 1 = .ok (.getfield 26, 3) := by decide +kernel
theorem eSc_grab_4 : decode prog_1_method_9_code 4 = .ok (.getfield 144, 3) := by decide +kernel
theorem eSc_grab_7 : decode prog_1_method_9_code 7 = .ok (.getfield 147, 3) := by decide +kernel
theorem eSc_grab_10 : decode prog_1_method_9_code 10 = .ok (.istore_n 1, 1) := by decide +kernel
theorem eSc_grab_11 : decode prog_1_method_9_code 11 = .ok (.aload_n 0, 1) := by decide +kernel
theorem eSc_grab_12 : decode prog_1_method_9_code 12 = .ok (.getfield 26, 3) := by decide +kernel
theorem eSc_grab_15 : decode prog_1_method_9_code 15 = .ok (.getfield 179, 3) := by decide +kernel
theorem eSc_grab_18 : decode prog_1_method_9_code 18 = .ok (.ifCond .ne 21, 3) := by decide +kernel
theorem eSc_grab_21 : decode prog_1_method_9_code 21 = .ok (.aload_n 0, 1) := by decide +kernel
theorem eSc_grab_22 : decode prog_1_method_9_code 22 = .ok (.invokevirtual 187, 3) := by decide +kernel
theorem eSc_grab_25 : decode prog_1_method_9_code 25 = .ok (.ifCond .eq 14, 3) := by decide +kernel
theorem eSc_grab_28 : decode prog_1_method_9_code 28 = .ok (.aload_n 0, 1) := by decide +kernel
theorem eSc_grab_29 : decode prog_1_method_9_code 29 = .ok (.getfield 19, 3) := by decide +kernel
theorem eSc_grab_32 : decode prog_1_method_9_code 32 = .ok (.iload_n 1, 1) := by decide +kernel
theorem eSc_grab_33 : decode prog_1_method_9_code 33 = .ok (.invokevirtual 190, 3) := by decide +kernel
theorem eSc_grab_36 : decode prog_1_method_9_code 36 = .ok (.ifCond .ne 5, 3) := by decide +kernel
theorem eSc_grab_39 : decode prog_1_method_9_code 39 = .ok (.iconst 0, 1) := by decide +kernel
theorem eSc_grab_40 : decode prog_1_method_9_code 40 = .ok (.ireturn, 1) := by decide +kernel
theorem eSc_grab_41 : decode prog_1_method_9_code 41 = .ok (.aload_n 0, 1) := by decide +kernel
theorem eSc_grab_42 : decode prog_1_method_9_code 42 = .ok (.getfield 26, 3) := by decide +kernel
theorem eSc_grab_45 : decode prog_1_method_9_code 45 = .ok (.getfield 194, 3) := by decide +kernel
theorem eSc_grab_48 : decode prog_1_method_9_code 48 = .ok (.iload_n 1, 1) := by decide +kernel
theorem eSc_grab_49 : decode prog_1_method_9_code 49 = .ok (.iaload, 1) := by decide +kernel
theorem eSc_grab_50 : decode prog_1_method_9_code 50 = .ok (.iconst 1, 1) := by decide +kernel
theorem eSc_grab_51 : decode prog_1_method_9_code 51 = .ok (.if_icmp .lt 31, 3) := by decide +kernel
theorem eSc_grab_54 : decode prog_1_method_9_code 54 = .ok (.aload_n 0, 1) := by decide +kernel
theorem eSc_grab_55 : decode prog_1_method_9_code 55 = .ok (.getfield 26, 3) := by decide +kernel
theorem eSc_grab_58 : decode prog_1_method_9_code 58 = .ok (.getfield 144, 3) := by decide +kernel
theorem eSc_grab_61 : decode prog_1_method_9_code 61 = .ok (.getfield 159, 3) := by decide +kernel
theorem eSc_grab_64 : decode prog_1_method_9_code 64 = .ok (.aload_n 0, 1) := by decide +kernel
theorem eSc_grab_65 : decode prog_1_method_9_code 65 = .ok (.getfield 19, 3) := by decide +kernel
theorem eSc_grab_68 : decode prog_1_method_9_code 68 = .ok (.aload_n 0, 1) := by decide +kernel
theorem eSc_grab_69 : decode prog_1_method_9_code 69 = .ok (.getfield 26, 3) := by decide +kernel
theorem eSc_grab_72 : decode prog_1_method_9_code 72 = .ok (.getfield 194, 3) := by decide +kernel
theorem eSc_grab_75 : decode prog_1_method_9_code 75 = .ok (.iload_n 1, 1) := by decide +kernel
theorem eSc_grab_76 : decode prog_1_method_9_code 76 = .ok (.invokevirtual 198, 3) := by decide +kernel
theorem eSc_grab_79 : decode prog_1_method_9_code 79 = .ok (.if_icmp .eq 5, 3) := by decide +kernel
theorem eSc_grab_82 : decode prog_1_method_9_code 82 = .ok (.iconst 0, 1) := by decide +kernel
theorem eSc_grab_83 : decode prog_1_method_9_code 83 = .ok (.ireturn, 1) := by decide +kernel
theorem eSc_grab_84 : decode prog_1_method_9_code 84 = .ok (.aload_n 0, 1) := by decide +kernel
theorem eSc_grab_85 : decode prog_1_method_9_code 85 = .ok (.getfield 44, 3) := by decide +kernel
theorem eSc_grab_88 : decode prog_1_method_9_code 88 = .ok (.aload_n 0, 1) := by decide +kernel
theorem eSc_grab_89 : decode prog_1_method_9_code 89 = .ok (.getfield 26, 3) := by decide +kernel
theorem eSc_grab_92 : decode prog_1_method_9_code 92 = .ok (.invokevirtual 202, 3) := by decide +kernel
theorem eSc_grab_95 : decode prog_1_method_9_code 95 = .ok (.aload_n 0, 1) := by decide +kernel
theorem eSc_grab_96 : decode prog_1_method_9_code 96 = .ok (.getfield 26, 3) := by decide +kernel
theorem eSc_grab_99 : decode prog_1_method_9_code 99 = .ok (.getfield 194, 3) := by decide +kernel
theorem eSc_grab_102 : decode prog_1_method_9_code 102 = .ok (.iload_n 1, 1) := by decide +kernel
theorem eSc_grab_103 : decode prog_1_method_9_code 103 = .ok (.dup2, 1) := by decide +kernel
theorem eSc_grab_104 : decode prog_1_method_9_code 104 = .ok (.iaload, 1) := by decide +kernel
theorem eSc_grab_105 : decode prog_1_method_9_code 105 = .ok (.iconst 1, 1) := by decide +kernel
theorem eSc_grab_106 : decode prog_1_method_9_code 106 = .ok (.isub, 1) := by decide +kernel
theorem eSc_grab_107 : decode prog_1_method_9_code 107 = .ok (.iastore, 1) := by decide +kernel
theorem eSc_grab_108 : decode prog_1_method_9_code 108 = .ok (.aload_n 0, 1) := by decide +kernel
theorem eSc_grab_109 : decode prog_1_method_9_code 109 = .ok (.getfield 26, 3) := by decide +kernel
theorem eSc_grab_112 : decode prog_1_method_9_code 112 = .ok (.iconst 1, 1) := by decide +kernel
theorem eSc_grab_113 : decode prog_1_method_9_code 113 = .ok (.putfield 179, 3) := by decide +kernel
theorem eSc_grab_116 : decode prog_1_method_9_code 116 = .ok (.aload_n 0, 1) := by decide +kernel
theorem eSc_grab_117 : decode prog_1_method_9_code 117 = .ok (.getfield 59, 3) := by decide +kernel
theorem eSc_grab_120 : decode prog_1_method_9_code 120 = .ok (.invokevirtual 88, 3) := by decide +kernel
theorem eSc_grab_123 : decode prog_1_method_9_code 123 = .ok (.iconst 1, 1) := by decide +kernel
theorem eSc_grab_124 : decode prog_1_method_9_code 124 = .ok (.ireturn, 1) := by decide +kernel
theorem eSc_drop_0 : decode prog_1_method_10_code 0 = .ok (.aload_n 0, 1) := by decide +kernel
theorem eSc_drop_1 : decode prog_1_method_10_code 1 = .ok (.getfield 26, 3) := by decide +kernel
theorem eSc_drop_4 : decode prog_1_method_10_code 4 = .ok (.getfield 144, 3) := by decide +kernel
theorem eSc_drop_7 : decode prog_1_method_10_code 7 = .ok (.getfield 147, 3) := by decide +kernel
theorem eSc_drop_10 : decode prog_1_method_10_code 10 = .ok (.istore_n 1, 1) := by decide +kernel
theorem eSc_drop_11 : decode prog_1_method_10_code 11 = .ok (.aload_n 0, 1) := by decide +kernel
theorem eSc_drop_12 : decode prog_1_method_10_code 12 = .ok (.getfield 26, 3) := by decide +kernel
theorem eSc_drop_15 : decode prog_1_method_10_code 15 = .ok (.getfield 179, 3) := by decide +kernel
theorem eSc_drop_18 : decode prog_1_method_10_code 18 = .ok (.ifCond .eq 21, 3) := by decide +kernel
theorem eSc_drop_21 : decode prog_1_method_10_code 21 = .ok (.aload_n 0, 1) := by decide +kernel
theorem eSc_drop_22 : decode prog_1_method_10_code 22 = .ok (.invokevirtual 187, 3) := by decide +kernel
theorem eSc_drop_25 : decode prog_1_method_10_code 25 = .ok (.ifCond .eq 14, 3) := by decide +kernel
theorem eSc_drop_28 : decode prog_1_method_10_code 28 = .ok (.aload_n 0, 1) := by decide +kernel
theorem eSc_drop_29 : decode prog_1_method_10_code 29 = .ok (.getfield 19, 3) := by decide +kernel
theorem eSc_drop_32 : decode prog_1_method_10_code 32 = .ok (.iload_n 1, 1) := by decide +kernel
theorem eSc_drop_33 : decode prog_1_method_10_code 33 = .ok (.invokevirtual 190, 3) := by decide +kernel
theorem eSc_drop_36 : decode prog_1_method_10_code 36 = .ok (.ifCond .ne 5, 3) := by decide +kernel
theorem eSc_drop_39 : decode prog_1_method_10_code 39 = .ok (.iconst 0, 1) := by decide +kernel
theorem eSc_drop_40 : decode prog_1_method_10_code 40 = .ok (.ireturn, 1) := by decide +kernel
theorem eSc_drop_41 : decode prog_1_method_10_code 41 = .ok (.aload_n 0, 1) := by decide +kernel
theorem eSc_drop_42 : decode prog_1_method_10_code 42 = .ok (.getfield 26, 3) := by decide +kernel
theorem eSc_drop_45 : decode prog_1_method_10_code 45 = .ok (.getfield 144, 3) := by decide +kernel
theorem eSc_drop_48 : decode prog_1_method_10_code 48 = .ok (.getfield 159, 3) := by decide +kernel
theorem eSc_drop_51 : decode prog_1_method_10_code 51 = .ok (.iconst 1, 1) := by decide +kernel
theorem eSc_drop_52 : decode prog_1_method_10_code 52 = .ok (.iadd, 1) := by decide +kernel
theorem eSc_drop_53 : decode prog_1_method_10_code 53 = .ok (.aload_n 0, 1) := by decide +kernel
theorem eSc_drop_54 : decode prog_1_method_10_code 54 = .ok (.getfield 19, 3) := by decide +kernel
theorem eSc_drop_57 : decode prog_1_method_10_code 57 = .ok (.aload_n 0, 1) := by decide +kernel
theorem eSc_drop_58 : decode prog_1_method_10_code 58 = .ok (.getfield 26, 3) := by decide +kernel
theorem eSc_drop_61 : decode prog_1_method_10_code 61 = .ok (.getfield 194, 3) := by decide +kernel
theorem eSc_drop_64 : decode prog_1_method_10_code 64 = .ok (.iload_n 1, 1) := by decide +kernel
theorem eSc_drop_65 : decode prog_1_method_10_code 65 = .ok (.invokevirtual 198, 3) := by decide +kernel
theorem eSc_drop_68 : decode prog_1_method_10_code 68 = .ok (.if_icmp .eq 5, 3) := by decide +kernel
theorem eSc_drop_71 : decode prog_1_method_10_code 71 = .ok (.iconst 0, 1) := by decide +kernel
theorem eSc_drop_72 : decode prog_1_method_10_code 72 = .ok (.ireturn, 1) := by decide +kernel
theorem eSc_drop_73 : decode prog_1_method_10_code 73 = .ok (.aload_n 0, 1) := by decide +kernel
theorem eSc_drop_74 : decode prog_1_method_10_code 74 = .ok (.getfield 44, 3) := by decide +kernel
theorem eSc_drop_77 : decode prog_1_method_10_code 77 = .ok (.aload_n 0, 1) := by decide +kernel
theorem eSc_drop_78 : decode prog_1_method_10_code 78 = .ok (.getfield 26, 3) := by decide +kernel
theorem eSc_drop_81 : decode prog_1_method_10_code 81 = .ok (.invokevirtual 202, 3) := by decide +kernel
theorem eSc_drop_84 : decode prog_1_method_10_code 84 = .ok (.aload_n 0, 1) := by decide +kernel
theorem eSc_drop_85 : decode prog_1_method_10_code 85 = .ok (.getfield 26, 3) := by decide +kernel
theorem eSc_drop_88 : decode prog_1_method_10_code 88 = .ok (.getfield 194, 3) := by decide +kernel
theorem eSc_drop_91 : decode prog_1_method_10_code 91 = .ok (.iload_n 1, 1) := by decide +kernel
theorem eSc_drop_92 : decode prog_1_method_10_code 92 = .ok (.dup2, 1) := by decide +kernel
theorem eSc_drop_93 : decode prog_1_method_10_code 93 = .ok (.iaload, 1) := by decide +kernel
theorem eSc_drop_94 : decode prog_1_method_10_code 94 = .ok (.iconst 1, 1) := by decide +kernel
theorem eSc_drop_95 : decode prog_1_method_10_code 95 = .ok (.iadd, 1) := by decide +kernel
theorem eSc_drop_96 : decode prog_1_method_10_code 96 = .ok (.iastore, 1) := by decide +kernel
theorem eSc_drop_97 : decode prog_1_method_10_code 97 = .ok (.aload_n 0, 1) := by decide +kernel
theorem eSc_drop_98 : decode prog_1_method_10_code 98 = .ok (.getfield 26, 3) := by decide +kernel
theorem eSc_drop_101 : decode prog_1_method_10_code 101 = .ok (.iconst 0, 1) := by decide +kernel
theorem eSc_drop_102 : decode prog_1_method_10_code 102 = .ok (.putfield 179, 3) := by decide +kernel
theorem eSc_drop_105 : decode prog_1_method_10_code 105 = .ok (.aload_n 0, 1) := by decide +kernel
theorem eSc_drop_106 : decode prog_1_method_10_code 106 = .ok (.getfield 59, 3) := by decide +kernel
theorem eSc_drop_109 : decode prog_1_method_10_code 109 = .ok (.invokevirtual 88, 3) := by decide +kernel
theorem eSc_drop_112 : decode prog_1_method_10_code 112 = .ok (.iconst 1, 1) := by decide +kernel
theorem eSc_drop_113 : decode prog_1_method_10_code 113 = .ok (.ireturn, 1) := by decide +kernel
theorem eSc_pile_0 : decode prog_1_method_11_code 0 = .ok (.aload_n 0, 1) := by decide +kernel
theorem eSc_pile_1 : decode prog_1_method_11_code 1 = .ok (.getfield 19, 3) := by decide +kernel
theorem eSc_pile_4 : decode prog_1_method_11_code 4 = .ok (.iload_n 1, 1) := by decide +kernel
theorem eSc_pile_5 : decode prog_1_method_11_code 5 = .ok (.invokevirtual 190, 3) := by decide +kernel
theorem eSc_pile_8 : decode prog_1_method_11_code 8 = .ok (.ifCond .eq 15, 3) := by decide +kernel
theorem eSc_pile_11 : decode prog_1_method_11_code 11 = .ok (.aload_n 0, 1) := by decide +kernel
theorem eSc_pile_12 : decode prog_1_method_11_code 12 = .ok (.getfield 26, 3) := by decide +kernel
theorem eSc_pile_15 : decode prog_1_method_11_code 15 = .ok (.getfield 194, 3) := by decide +kernel
theorem eSc_pile_18 : decode prog_1_method_11_code 18 = .ok (.iload_n 1, 1) := by decide +kernel
theorem eSc_pile_19 : decode prog_1_method_11_code 19 = .ok (.iaload, 1) := by decide +kernel
theorem eSc_pile_20 : decode prog_1_method_11_code 20 = .ok (.goto 4, 3) := by decide +kernel
theorem eSc_pile_23 : decode prog_1_method_11_code 23 = .ok (.iconst (-1), 1) := by decide +kernel
theorem eSc_pile_24 : decode prog_1_method_11_code 24 = .ok (.ireturn, 1) := by decide +kernel
theorem eSc_free_0 : decode prog_1_method_12_code 0 = .ok (.aload_n 0, 1) := by decide +kernel
theorem eSc_free_1 : decode prog_1_method_12_code 1 = .ok (.getfield 19, 3) := by decide +kernel
theorem eSc_free_4 : decode prog_1_method_12_code 4 = .ok (.iload_n 1, 1) := by decide +kernel
theorem eSc_free_5 : decode prog_1_method_12_code 5 = .ok (.invokevirtual 190, 3) := by decide +kernel
theorem eSc_free_8 : decode prog_1_method_12_code 8 = .ok (.ifCond .eq 21, 3) := by decide +kernel
theorem eSc_free_11 : decode prog_1_method_12_code 11 = .ok (.aload_n 0, 1) := by decide +kernel
theorem eSc_free_12 : decode prog_1_method_12_code 12 = .ok (.getfield 19, 3) := by decide +kernel
theorem eSc_free_15 : decode prog_1_method_12_code 15 = .ok (.aload_n 0, 1) := by decide +kernel
theorem eSc_free_16 : decode prog_1_method_12_code 16 = .ok (.getfield 26, 3) := by decide +kernel
theorem eSc_free_19 : decode prog_1_method_12_code 19 = .ok (.getfield 194, 3) := by decide +kernel
theorem eSc_free_22 : decode prog_1_method_12_code 22 = .ok (.iload_n 1, 1) := by decide +kernel
theorem eSc_free_23 : decode prog_1_method_12_code 23 = .ok (.invokevirtual 198, 3) := by decide +kernel
theorem eSc_free_26 : decode prog_1_method_12_code 26 = .ok (.goto 4, 3) := by decide +kernel
theorem eSc_free_29 : decode prog_1_method_12_code 29 = .ok (.iconst (-1), 1) := by decide +kernel
theorem eSc_free_30 : decode prog_1_method_12_code 30 = .ok (.ireturn, 1) := by decide +kernel
theorem eSc_gap_0 : decode prog_1_method_13_code 0 = .ok (.aload_n 0, 1) := by decide +kernel
theorem eSc_gap_1 : decode prog_1_method_13_code 1 = .ok (.getfield 19, 3) := by decide +kernel
theorem eSc_gap_4 : decode prog_1_method_13_code 4 = .ok (.iload_n 1, 1) := by decide +kernel
theorem eSc_gap_5 : decode prog_1_method_13_code 5 = .ok (.invokevirtual 190, 3) := by decide +kernel
theorem eSc_gap_8 : decode prog_1_method_13_code 8 = .ok (.ifCond .eq 14, 3) := by decide +kernel
theorem eSc_gap_11 : decode prog_1_method_13_code 11 = .ok (.aload_n 0, 1) := by decide +kernel
theorem eSc_gap_12 : decode prog_1_method_13_code 12 = .ok (.getfield 19, 3) := by decide +kernel
theorem eSc_gap_15 : decode prog_1_method_13_code 15 = .ok (.iload_n 2, 1) := by decide +kernel
theorem eSc_gap_16 : decode prog_1_method_13_code 16 = .ok (.invokevirtual 190, 3) := by decide +kernel
theorem eSc_gap_19 : decode prog_1_method_13_code 19 = .ok (.ifCond .ne 5, 3) := by decide +kernel
theorem eSc_gap_22 : decode prog_1_method_13_code 22 = .ok (.iconst (-1), 1) := by decide +kernel
theorem eSc_gap_23 : decode prog_1_method_13_code 23 = .ok (.ireturn, 1) := by decide +kernel
theorem eSc_gap_24 : decode prog_1_method_13_code 24 = .ok (.iload_n 1, 1) := by decide +kernel
theorem eSc_gap_25 : decode prog_1_method_13_code 25 = .ok (.iload_n 2, 1) := by decide +kernel
theorem eSc_gap_26 : decode prog_1_method_13_code 26 = .ok (.invokestatic 206, 3) := by decide +kernel
theorem eSc_gap_29 : decode prog_1_method_13_code 29 = .ok (.istore_n 3, 1) := by decide +kernel
theorem eSc_gap_30 : decode prog_1_method_13_code 30 = .ok (.iload_n 1, 1) := by decide +kernel
theorem eSc_gap_31 : decode prog_1_method_13_code 31 = .ok (.iload_n 2, 1) := by decide +kernel
theorem eSc_gap_32 : decode prog_1_method_13_code 32 = .ok (.invokestatic 212, 3) := by decide +kernel
theorem eSc_gap_35 : decode prog_1_method_13_code 35 = .ok (.istore 4, 2) := by decide +kernel
theorem eSc_gap_37 : decode prog_1_method_13_code 37 = .ok (.bipush 6, 2) := by decide +kernel
theorem eSc_gap_39 : decode prog_1_method_13_code 39 = .ok (.istore 5, 2) := by decide +kernel
theorem eSc_gap_41 : decode prog_1_method_13_code 41 = .ok (.iload_n 3, 1) := by decide +kernel
theorem eSc_gap_42 : decode prog_1_method_13_code 42 = .ok (.istore 6, 2) := by decide +kernel
theorem eSc_gap_44 : decode prog_1_method_13_code 44 = .ok (.iload 6, 2) := by decide +kernel
theorem eSc_gap_46 : decode prog_1_method_13_code 46 = .ok (.iload 4, 2) := by decide +kernel
theorem eSc_gap_48 : decode prog_1_method_13_code 48 = .ok (.if_icmp .gt 32, 3) := by decide +kernel
theorem eSc_gap_51 : decode prog_1_method_13_code 51 = .ok (.iload 5, 2) := by decide +kernel
theorem eSc_gap_53 : decode prog_1_method_13_code 53 = .ok (.aload_n 0, 1) := by decide +kernel
theorem eSc_gap_54 : decode prog_1_method_13_code 54 = .ok (.getfield 19, 3) := by decide +kernel
theorem eSc_gap_57 : decode prog_1_method_13_code 57 = .ok (.aload_n 0, 1) := by decide +kernel
theorem eSc_gap_58 : decode prog_1_method_13_code 58 = .ok (.getfield 26, 3) := by decide +kernel
theorem eSc_gap_61 : decode prog_1_method_13_code 61 = .ok (.getfield 194, 3) := by decide +kernel
theorem eSc_gap_64 : decode prog_1_method_13_code 64 = .ok (.iload 6, 2) := by decide +kernel
theorem eSc_gap_66 : decode prog_1_method_13_code 66 = .ok (.invokevirtual 198, 3) := by decide +kernel
theorem eSc_gap_69 : decode prog_1_method_13_code 69 = .ok (.invokestatic 206, 3) := by decide +kernel
theorem eSc_gap_72 : decode prog_1_method_13_code 72 = .ok (.istore 5, 2) := by decide +kernel
theorem eSc_gap_74 : decode prog_1_method_13_code 74 = .ok (.iinc 6 1, 3) := by decide +kernel
theorem eSc_gap_77 : decode prog_1_method_13_code 77 = .ok (.goto (-33), 3) := by decide +kernel
theorem eSc_gap_80 : decode prog_1_method_13_code 80 = .ok (.iload 5, 2) := by decide +kernel
theorem eSc_gap_82 : decode prog_1_method_13_code 82 = .ok (.ireturn, 1) := by decide +kernel
theorem eSc_wind_0 : decode prog_1_method_14_code 0 = .ok (.aload_n 0, 1) := by decide +kernel
theorem eSc_wind_1 : decode prog_1_method_14_code 1 = .ok (.getfield 19, 3) := by decide +kernel
theorem eSc_wind_4 : decode prog_1_method_14_code 4 = .ok (.iload_n 1, 1) := by decide +kernel
theorem eSc_wind_5 : decode prog_1_method_14_code 5 = .ok (.invokevirtual 215, 3) := by decide +kernel
theorem eSc_wind_8 : decode prog_1_method_14_code 8 = .ok (.ireturn, 1) := by decide +kernel
theorem eSc_why_0 : decode prog_1_method_15_code 0 = .ok (.iload_n 1, 1) := by decide +kernel
theorem eSc_why_1 : decode prog_1_method_15_code 1 = .ok (.ifCond .lt 9, 3) := by decide +kernel
theorem eSc_why_4 : decode prog_1_method_15_code 4 = .ok (.iload_n 1, 1) := by decide +kernel
theorem eSc_why_5 : decode prog_1_method_15_code 5 = .ok (.bipush 9, 2) := by decide +kernel
theorem eSc_why_7 : decode prog_1_method_15_code 7 = .ok (.if_icmp .lt 7, 3) := by decide +kernel
theorem eSc_why_10 : decode prog_1_method_15_code 10 = .ok (.iconst (-1), 1) := by decide +kernel
theorem eSc_why_11 : decode prog_1_method_15_code 11 = .ok (.goto 8, 3) := by decide +kernel
theorem eSc_why_14 : decode prog_1_method_15_code 14 = .ok (.aload_n 0, 1) := by decide +kernel
theorem eSc_why_15 : decode prog_1_method_15_code 15 = .ok (.iload_n 1, 1) := by decide +kernel
theorem eSc_why_16 : decode prog_1_method_15_code 16 = .ok (.invokevirtual 218, 3) := by decide +kernel
theorem eSc_why_19 : decode prog_1_method_15_code 19 = .ok (.ireturn, 1) := by decide +kernel
theorem eSc_can_0 : decode prog_1_method_16_code 0 = .ok (.iconst 0, 1) := by decide +kernel
theorem eSc_can_1 : decode prog_1_method_16_code 1 = .ok (.istore_n 1, 1) := by decide +kernel
theorem eSc_can_2 : decode prog_1_method_16_code 2 = .ok (.iconst 0, 1) := by decide +kernel
theorem eSc_can_3 : decode prog_1_method_16_code 3 = .ok (.istore_n 2, 1) := by decide +kernel
theorem eSc_can_4 : decode prog_1_method_16_code 4 = .ok (.iload_n 2, 1) := by decide +kernel
theorem eSc_can_5 : decode prog_1_method_16_code 5 = .ok (.bipush 9, 2) := by decide +kernel
theorem eSc_can_7 : decode prog_1_method_16_code 7 = .ok (.if_icmp .ge 23, 3) := by decide +kernel
theorem eSc_can_10 : decode prog_1_method_16_code 10 = .ok (.aload_n 0, 1) := by decide +kernel
theorem eSc_can_11 : decode prog_1_method_16_code 11 = .ok (.iload_n 2, 1) := by decide +kernel
theorem eSc_can_12 : decode prog_1_method_16_code 12 = .ok (.invokevirtual 218, 3) := by decide +kernel
theorem eSc_can_15 : decode prog_1_method_16_code 15 = .ok (.ifCond .ne 9, 3) := by decide +kernel
theorem eSc_can_18 : decode prog_1_method_16_code 18 = .ok (.iload_n 1, 1) := by decide +kernel
theorem eSc_can_19 : decode prog_1_method_16_code 19 = .ok (.iconst 1, 1) := by decide +kernel
theorem eSc_can_20 : decode prog_1_method_16_code 20 = .ok (.iload_n 2, 1) := by decide +kernel
theorem eSc_can_21 : decode prog_1_method_16_code 21 = .ok (.ishl, 1) := by decide +kernel
theorem eSc_can_22 : decode prog_1_method_16_code 22 = .ok (.ior, 1) := by decide +kernel
theorem eSc_can_23 : decode prog_1_method_16_code 23 = .ok (.istore_n 1, 1) := by decide +kernel
theorem eSc_can_24 : decode prog_1_method_16_code 24 = .ok (.iinc 2 1, 3) := by decide +kernel
theorem eSc_can_27 : decode prog_1_method_16_code 27 = .ok (.goto (-23), 3) := by decide +kernel
theorem eSc_can_30 : decode prog_1_method_16_code 30 = .ok (.iload_n 1, 1) := by decide +kernel
theorem eSc_can_31 : decode prog_1_method_16_code 31 = .ok (.ireturn, 1) := by decide +kernel
theorem eSc_sway_0 : decode prog_1_method_17_code 0 = .ok (.iload_n 1, 1) := by decide +kernel
theorem eSc_sway_1 : decode prog_1_method_17_code 1 = .ok (.ifCond .lt 9, 3) := by decide +kernel
theorem eSc_sway_4 : decode prog_1_method_17_code 4 = .ok (.iload_n 1, 1) := by decide +kernel
theorem eSc_sway_5 : decode prog_1_method_17_code 5 = .ok (.bipush 60, 2) := by decide +kernel
theorem eSc_sway_7 : decode prog_1_method_17_code 7 = .ok (.if_icmp .le 6, 3) := by decide +kernel
theorem eSc_sway_10 : decode prog_1_method_17_code 10 = .ok (.bipush (-100), 2) := by decide +kernel
theorem eSc_sway_12 : decode prog_1_method_17_code 12 = .ok (.ireturn, 1) := by decide +kernel
theorem eSc_sway_13 : decode prog_1_method_17_code 13 = .ok (.aload_n 0, 1) := by decide +kernel
theorem eSc_sway_14 : decode prog_1_method_17_code 14 = .ok (.getfield 84, 3) := by decide +kernel
theorem eSc_sway_17 : decode prog_1_method_17_code 17 = .ok (.aload_n 0, 1) := by decide +kernel
theorem eSc_sway_18 : decode prog_1_method_17_code 18 = .ok (.getfield 26, 3) := by decide +kernel
theorem eSc_sway_21 : decode prog_1_method_17_code 21 = .ok (.getfield 144, 3) := by decide +kernel
theorem eSc_sway_24 : decode prog_1_method_17_code 24 = .ok (.invokevirtual 220, 3) := by decide +kernel
theorem eSc_sway_27 : decode prog_1_method_17_code 27 = .ok (.iconst 0, 1) := by decide +kernel
theorem eSc_sway_28 : decode prog_1_method_17_code 28 = .ok (.istore_n 2, 1) := by decide +kernel
theorem eSc_sway_29 : decode prog_1_method_17_code 29 = .ok (.iload_n 2, 1) := by decide +kernel
theorem eSc_sway_30 : decode prog_1_method_17_code 30 = .ok (.iload_n 1, 1) := by decide +kernel
theorem eSc_sway_31 : decode prog_1_method_17_code 31 = .ok (.if_icmp .ge 18, 3) := by decide +kernel
theorem eSc_sway_34 : decode prog_1_method_17_code 34 = .ok (.aload_n 0, 1) := by decide +kernel
theorem eSc_sway_35 : decode prog_1_method_17_code 35 = .ok (.getfield 84, 3) := by decide +kernel
theorem eSc_sway_38 : decode prog_1_method_17_code 38 = .ok (.iconst 4, 1) := by decide +kernel
theorem eSc_sway_39 : decode prog_1_method_17_code 39 = .ok (.iconst 0, 1) := by decide +kernel
theorem eSc_sway_40 : decode prog_1_method_17_code 40 = .ok (.invokevirtual 223, 3) := by decide +kernel
theorem eSc_sway_43 : decode prog_1_method_17_code 43 = .ok (.iinc 2 1, 3) := by decide +kernel
theorem eSc_sway_46 : decode prog_1_method_17_code 46 = .ok (.goto (-17), 3) := by decide +kernel
theorem eSc_sway_49 : decode prog_1_method_17_code 49 = .ok (.aload_n 0, 1) := by decide +kernel
theorem eSc_sway_50 : decode prog_1_method_17_code 50 = .ok (.getfield 84, 3) := by decide +kernel
theorem eSc_sway_53 : decode prog_1_method_17_code 53 = .ok (.getfield 153, 3) := by decide +kernel
theorem eSc_sway_56 : decode prog_1_method_17_code 56 = .ok (.ireturn, 1) := by decide +kernel
theorem eSc_drift_0 : decode prog_1_method_18_code 0 = .ok (.aload_n 0, 1) := by decide +kernel
theorem eSc_drift_1 : decode prog_1_method_18_code 1 = .ok (.getfield 84, 3) := by decide +kernel
theorem eSc_drift_4 : decode prog_1_method_18_code 4 = .ok (.aload_n 0, 1) := by decide +kernel
theorem eSc_drift_5 : decode prog_1_method_18_code 5 = .ok (.getfield 26, 3) := by decide +kernel
theorem eSc_drift_8 : decode prog_1_method_18_code 8 = .ok (.getfield 144, 3) := by decide +kernel
theorem eSc_drift_11 : decode prog_1_method_18_code 11 = .ok (.invokevirtual 220, 3) := by decide +kernel
theorem eSc_drift_14 : decode prog_1_method_18_code 14 = .ok (.iconst 0, 1) := by decide +kernel
theorem eSc_drift_15 : decode prog_1_method_18_code 15 = .ok (.istore_n 1, 1) := by decide +kernel
theorem eSc_drift_16 : decode prog_1_method_18_code 16 = .ok (.iload_n 1, 1) := by decide +kernel
theorem eSc_drift_17 : decode prog_1_method_18_code 17 = .ok (.bipush 60, 2) := by decide +kernel
theorem eSc_drift_19 : decode prog_1_method_18_code 19 = .ok (.if_icmp .ge 69, 3) := by decide +kernel
theorem eSc_drift_22 : decode prog_1_method_18_code 22 = .ok (.aload_n 0, 1) := by decide +kernel
theorem eSc_drift_23 : decode prog_1_method_18_code 23 = .ok (.getfield 26, 3) := by decide +kernel
theorem eSc_drift_26 : decode prog_1_method_18_code 26 = .ok (.getfield 130, 3) := by decide +kernel
theorem eSc_drift_29 : decode prog_1_method_18_code 29 = .ok (.iload_n 1, 1) := by decide +kernel
theorem eSc_drift_30 : decode prog_1_method_18_code 30 = .ok (.iadd, 1) := by decide +kernel
theorem eSc_drift_31 : decode prog_1_method_18_code 31 = .ok (.sipush 9999, 3) := by decide +kernel
theorem eSc_drift_34 : decode prog_1_method_18_code 34 = .ok (.if_icmp .lt 5, 3) := by decide +kernel
theorem eSc_drift_37 : decode prog_1_method_18_code 37 = .ok (.iload_n 1, 1) := by decide +kernel
theorem eSc_drift_38 : decode prog_1_method_18_code 38 = .ok (.ireturn, 1) := by decide +kernel
theorem eSc_drift_39 : decode prog_1_method_18_code 39 = .ok (.aload_n 0, 1) := by decide +kernel
theorem eSc_drift_40 : decode prog_1_method_18_code 40 = .ok (.getfield 84, 3) := by decide +kernel
theorem eSc_drift_43 : decode prog_1_method_18_code 43 = .ok (.iconst 4, 1) := by decide +kernel
theorem eSc_drift_44 : decode prog_1_method_18_code 44 = .ok (.aload_n 0, 1) := by decide +kernel
theorem eSc_drift_45 : decode prog_1_method_18_code 45 = .ok (.getfield 19, 3) := by decide +kernel
theorem eSc_drift_48 : decode prog_1_method_18_code 48 = .ok (.aload_n 0, 1) := by decide +kernel
theorem eSc_drift_49 : decode prog_1_method_18_code 49 = .ok (.getfield 26, 3) := by decide +kernel
theorem eSc_drift_52 : decode prog_1_method_18_code 52 = .ok (.getfield 130, 3) := by decide +kernel
theorem eSc_drift_55 : decode prog_1_method_18_code 55 = .ok (.iload_n 1, 1) := by decide +kernel
theorem eSc_drift_56 : decode prog_1_method_18_code 56 = .ok (.iadd, 1) := by decide +kernel
theorem eSc_drift_57 : decode prog_1_method_18_code 57 = .ok (.invokevirtual 215, 3) := by decide +kernel
theorem eSc_drift_60 : decode prog_1_method_18_code 60 = .ok (.invokevirtual 223, 3) := by decide +kernel
theorem eSc_drift_63 : decode prog_1_method_18_code 63 = .ok (.aload_n 0, 1) := by decide +kernel
theorem eSc_drift_64 : decode prog_1_method_18_code 64 = .ok (.getfield 59, 3) := by decide +kernel
theorem eSc_drift_67 : decode prog_1_method_18_code 67 = .ok (.getfield 169, 3) := by decide +kernel
theorem eSc_drift_70 : decode prog_1_method_18_code 70 = .ok (.aload_n 0, 1) := by decide +kernel
theorem eSc_drift_71 : decode prog_1_method_18_code 71 = .ok (.getfield 84, 3) := by decide +kernel
theorem eSc_drift_74 : decode prog_1_method_18_code 74 = .ok (.invokevirtual 173, 3) := by decide +kernel
theorem eSc_drift_77 : decode prog_1_method_18_code 77 = .ok (.ifCond .eq 5, 3) := by decide +kernel
theorem eSc_drift_80 : decode prog_1_method_18_code 80 = .ok (.iload_n 1, 1) := by decide +kernel
theorem eSc_drift_81 : decode prog_1_method_18_code 81 = .ok (.ireturn, 1) := by decide +kernel
theorem eSc_drift_82 : decode prog_1_method_18_code 82 = .ok (.iinc 1 1, 3) := by decide +kernel
theorem eSc_drift_85 : decode prog_1_method_18_code 85 = .ok (.goto (-69), 3) := by decide +kernel
theorem eSc_drift_88 : decode prog_1_method_18_code 88 = .ok (.bipush 60, 2) := by decide +kernel
theorem eSc_drift_90 : decode prog_1_method_18_code 90 = .ok (.ireturn, 1) := by decide +kernel
theorem eSc_fewest_0 : decode prog_1_method_19_code 0 = .ok (.aload_n 0, 1) := by decide +kernel
theorem eSc_fewest_1 : decode prog_1_method_19_code 1 = .ok (.getfield 19, 3) := by decide +kernel
theorem eSc_fewest_4 : decode prog_1_method_19_code 4 = .ok (.iload_n 1, 1) := by decide +kernel
theorem eSc_fewest_5 : decode prog_1_method_19_code 5 = .ok (.invokevirtual 227, 3) := by decide +kernel
theorem eSc_fewest_8 : decode prog_1_method_19_code 8 = .ok (.ifCond .eq 14, 3) := by decide +kernel
theorem eSc_fewest_11 : decode prog_1_method_19_code 11 = .ok (.aload_n 0, 1) := by decide +kernel
theorem eSc_fewest_12 : decode prog_1_method_19_code 12 = .ok (.getfield 59, 3) := by decide +kernel
theorem eSc_fewest_15 : decode prog_1_method_19_code 15 = .ok (.iload_n 1, 1) := by decide +kernel
theorem eSc_fewest_16 : decode prog_1_method_19_code 16 = .ok (.invokevirtual 230, 3) := by decide +kernel
theorem eSc_fewest_19 : decode prog_1_method_19_code 19 = .ok (.goto 4, 3) := by decide +kernel
theorem eSc_fewest_22 : decode prog_1_method_19_code 22 = .ok (.iconst (-1), 1) := by decide +kernel
theorem eSc_fewest_23 : decode prog_1_method_19_code 23 = .ok (.ireturn, 1) := by decide +kernel
theorem eSc_by_0 : decode prog_1_method_20_code 0 = .ok (.aload_n 0, 1) := by decide +kernel
theorem eSc_by_1 : decode prog_1_method_20_code 1 = .ok (.getfield 19, 3) := by decide +kernel
theorem eSc_by_4 : decode prog_1_method_20_code 4 = .ok (.iload_n 1, 1) := by decide +kernel
theorem eSc_by_5 : decode prog_1_method_20_code 5 = .ok (.invokevirtual 227, 3) := by decide +kernel
theorem eSc_by_8 : decode prog_1_method_20_code 8 = .ok (.ifCond .eq 7, 3) := by decide +kernel
theorem eSc_by_11 : decode prog_1_method_20_code 11 = .ok (.iload_n 2, 1) := by decide +kernel
theorem eSc_by_12 : decode prog_1_method_20_code 12 = .ok (.ifCond .ge 5, 3) := by decide +kernel
theorem eSc_by_15 : decode prog_1_method_20_code 15 = .ok (.iconst (-1), 1) := by decide +kernel
theorem eSc_by_16 : decode prog_1_method_20_code 16 = .ok (.ireturn, 1) := by decide +kernel
theorem eSc_by_17 : decode prog_1_method_20_code 17 = .ok (.aload_n 0, 1) := by decide +kernel
theorem eSc_by_18 : decode prog_1_method_20_code 18 = .ok (.getfield 59, 3) := by decide +kernel
theorem eSc_by_21 : decode prog_1_method_20_code 21 = .ok (.iload_n 1, 1) := by decide +kernel
theorem eSc_by_22 : decode prog_1_method_20_code 22 = .ok (.invokevirtual 230, 3) := by decide +kernel
theorem eSc_by_25 : decode prog_1_method_20_code 25 = .ok (.istore_n 3, 1) := by decide +kernel
theorem eSc_by_26 : decode prog_1_method_20_code 26 = .ok (.iload_n 2, 1) := by decide +kernel
theorem eSc_by_27 : decode prog_1_method_20_code 27 = .ok (.iload_n 3, 1) := by decide +kernel
theorem eSc_by_28 : decode prog_1_method_20_code 28 = .ok (.if_icmp .lt 8, 3) := by decide +kernel
theorem eSc_by_31 : decode prog_1_method_20_code 31 = .ok (.bipush (-2), 2) := by decide +kernel
theorem eSc_by_33 : decode prog_1_method_20_code 33 = .ok (.goto 16, 3) := by decide +kernel
theorem eSc_by_36 : decode prog_1_method_20_code 36 = .ok (.aload_n 0, 1) := by decide +kernel
theorem eSc_by_37 : decode prog_1_method_20_code 37 = .ok (.getfield 59, 3) := by decide +kernel
theorem eSc_by_40 : decode prog_1_method_20_code 40 = .ok (.iload_n 1, 1) := by decide +kernel
theorem eSc_by_41 : decode prog_1_method_20_code 41 = .ok (.iload_n 3, 1) := by decide +kernel
theorem eSc_by_42 : decode prog_1_method_20_code 42 = .ok (.iconst 1, 1) := by decide +kernel
theorem eSc_by_43 : decode prog_1_method_20_code 43 = .ok (.isub, 1) := by decide +kernel
theorem eSc_by_44 : decode prog_1_method_20_code 44 = .ok (.iload_n 2, 1) := by decide +kernel
theorem eSc_by_45 : decode prog_1_method_20_code 45 = .ok (.isub, 1) := by decide +kernel
theorem eSc_by_46 : decode prog_1_method_20_code 46 = .ok (.invokevirtual 233, 3) := by decide +kernel
theorem eSc_by_49 : decode prog_1_method_20_code 49 = .ok (.ireturn, 1) := by decide +kernel
theorem eSc_halt_0 : decode prog_1_method_21_code 0 = .ok (.aload_n 0, 1) := by decide +kernel
theorem eSc_halt_1 : decode prog_1_method_21_code 1 = .ok (.getfield 59, 3) := by decide +kernel
theorem eSc_halt_4 : decode prog_1_method_21_code 4 = .ok (.aload_n 0, 1) := by decide +kernel
theorem eSc_halt_5 : decode prog_1_method_21_code 5 = .ok (.getfield 26, 3) := by decide +kernel
theorem eSc_halt_8 : decode prog_1_method_21_code 8 = .ok (.getfield 144, 3) := by decide +kernel
theorem eSc_halt_11 : decode prog_1_method_21_code 11 = .ok (.invokevirtual 236, 3) := by decide +kernel
theorem eSc_halt_14 : decode prog_1_method_21_code 14 = .ok (.ireturn, 1) := by decide +kernel
theorem eSc_rests_0 : decode prog_1_method_22_code 0 = .ok (.iload_n 1, 1) := by decide +kernel
theorem eSc_rests_1 : decode prog_1_method_22_code 1 = .ok (.ifCond .lt 8, 3) := by decide +kernel
theorem eSc_rests_4 : decode prog_1_method_22_code 4 = .ok (.iload_n 1, 1) := by decide +kernel
theorem eSc_rests_5 : decode prog_1_method_22_code 5 = .ok (.iconst 1, 1) := by decide +kernel
theorem eSc_rests_6 : decode prog_1_method_22_code 6 = .ok (.if_icmp .le 5, 3) := by decide +kernel
theorem eSc_rests_9 : decode prog_1_method_22_code 9 = .ok (.iconst (-1), 1) := by decide +kernel
theorem eSc_rests_10 : decode prog_1_method_22_code 10 = .ok (.ireturn, 1) := by decide +kernel
theorem eSc_rests_11 : decode prog_1_method_22_code 11 = .ok (.aload_n 0, 1) := by decide +kernel
theorem eSc_rests_12 : decode prog_1_method_22_code 12 = .ok (.getfield 59, 3) := by decide +kernel
theorem eSc_rests_15 : decode prog_1_method_22_code 15 = .ok (.aload_n 0, 1) := by decide +kernel
theorem eSc_rests_16 : decode prog_1_method_22_code 16 = .ok (.getfield 26, 3) := by decide +kernel
theorem eSc_rests_19 : decode prog_1_method_22_code 19 = .ok (.getfield 144, 3) := by decide +kernel
theorem eSc_rests_22 : decode prog_1_method_22_code 22 = .ok (.invokevirtual 236, 3) := by decide +kernel
theorem eSc_rests_25 : decode prog_1_method_22_code 25 = .ok (.istore_n 2, 1) := by decide +kernel
theorem eSc_rests_26 : decode prog_1_method_22_code 26 = .ok (.iload_n 2, 1) := by decide +kernel
theorem eSc_rests_27 : decode prog_1_method_22_code 27 = .ok (.ifCond .ge 6, 3) := by decide +kernel
theorem eSc_rests_30 : decode prog_1_method_22_code 30 = .ok (.bipush (-2), 2) := by decide +kernel
theorem eSc_rests_32 : decode prog_1_method_22_code 32 = .ok (.ireturn, 1) := by decide +kernel
theorem eSc_rests_33 : decode prog_1_method_22_code 33 = .ok (.aload_n 0, 1) := by decide +kernel
theorem eSc_rests_34 : decode prog_1_method_22_code 34 = .ok (.getfield 84, 3) := by decide +kernel
theorem eSc_rests_37 : decode prog_1_method_22_code 37 = .ok (.aload_n 0, 1) := by decide +kernel
theorem eSc_rests_38 : decode prog_1_method_22_code 38 = .ok (.getfield 26, 3) := by decide +kernel
theorem eSc_rests_41 : decode prog_1_method_22_code 41 = .ok (.getfield 144, 3) := by decide +kernel
theorem eSc_rests_44 : decode prog_1_method_22_code 44 = .ok (.invokevirtual 220, 3) := by decide +kernel
theorem eSc_rests_47 : decode prog_1_method_22_code 47 = .ok (.iconst 0, 1) := by decide +kernel
theorem eSc_rests_48 : decode prog_1_method_22_code 48 = .ok (.istore_n 3, 1) := by decide +kernel
theorem eSc_rests_49 : decode prog_1_method_22_code 49 = .ok (.iload_n 3, 1) := by decide +kernel
theorem eSc_rests_50 : decode prog_1_method_22_code 50 = .ok (.iload_n 2, 1) := by decide +kernel
theorem eSc_rests_51 : decode prog_1_method_22_code 51 = .ok (.if_icmp .ge 28, 3) := by decide +kernel
theorem eSc_rests_54 : decode prog_1_method_22_code 54 = .ok (.aload_n 0, 1) := by decide +kernel
theorem eSc_rests_55 : decode prog_1_method_22_code 55 = .ok (.getfield 84, 3) := by decide +kernel
theorem eSc_rests_58 : decode prog_1_method_22_code 58 = .ok (.aload_n 0, 1) := by decide +kernel
theorem eSc_rests_59 : decode prog_1_method_22_code 59 = .ok (.getfield 59, 3) := by decide +kernel
theorem eSc_rests_62 : decode prog_1_method_22_code 62 = .ok (.aload_n 0, 1) := by decide +kernel
theorem eSc_rests_63 : decode prog_1_method_22_code 63 = .ok (.getfield 84, 3) := by decide +kernel
theorem eSc_rests_66 : decode prog_1_method_22_code 66 = .ok (.invokevirtual 239, 3) := by decide +kernel
theorem eSc_rests_69 : decode prog_1_method_22_code 69 = .ok (.iconst 0, 1) := by decide +kernel
theorem eSc_rests_70 : decode prog_1_method_22_code 70 = .ok (.invokevirtual 223, 3) := by decide +kernel
theorem eSc_rests_73 : decode prog_1_method_22_code 73 = .ok (.iinc 3 1, 3) := by decide +kernel
theorem eSc_rests_76 : decode prog_1_method_22_code 76 = .ok (.goto (-27), 3) := by decide +kernel
theorem eSc_rests_79 : decode prog_1_method_22_code 79 = .ok (.iload_n 1, 1) := by decide +kernel
theorem eSc_rests_80 : decode prog_1_method_22_code 80 = .ok (.ifCond .ne 13, 3) := by decide +kernel
theorem eSc_rests_83 : decode prog_1_method_22_code 83 = .ok (.aload_n 0, 1) := by decide +kernel
theorem eSc_rests_84 : decode prog_1_method_22_code 84 = .ok (.getfield 84, 3) := by decide +kernel
theorem eSc_rests_87 : decode prog_1_method_22_code 87 = .ok (.getfield 147, 3) := by decide +kernel
theorem eSc_rests_90 : decode prog_1_method_22_code 90 = .ok (.goto 10, 3) := by decide +kernel
theorem eSc_rests_93 : decode prog_1_method_22_code 93 = .ok (.aload_n 0, 1) := by decide +kernel
theorem eSc_rests_94 : decode prog_1_method_22_code 94 = .ok (.getfield 84, 3) := by decide +kernel
theorem eSc_rests_97 : decode prog_1_method_22_code 97 = .ok (.getfield 159, 3) := by decide +kernel
theorem eSc_rests_100 : decode prog_1_method_22_code 100 = .ok (.ireturn, 1) := by decide +kernel
theorem eSc_between_0 : decode prog_1_method_23_code 0 = .ok (.aload_n 0, 1) := by decide +kernel
theorem eSc_between_1 : decode prog_1_method_23_code 1 = .ok (.getfield 19, 3) := by decide +kernel
theorem eSc_between_4 : decode prog_1_method_23_code 4 = .ok (.iload_n 1, 1) := by decide +kernel
theorem eSc_between_5 : decode prog_1_method_23_code 5 = .ok (.invokevirtual 227, 3) := by decide +kernel
theorem eSc_between_8 : decode prog_1_method_23_code 8 = .ok (.ifCond .eq 14, 3) := by decide +kernel
theorem eSc_between_11 : decode prog_1_method_23_code 11 = .ok (.aload_n 0, 1) := by decide +kernel
theorem eSc_between_12 : decode prog_1_method_23_code 12 = .ok (.getfield 19, 3) := by decide +kernel
theorem eSc_between_15 : decode prog_1_method_23_code 15 = .ok (.iload_n 2, 1) := by decide +kernel
theorem eSc_between_16 : decode prog_1_method_23_code 16 = .ok (.invokevirtual 227, 3) := by decide +kernel
theorem eSc_between_19 : decode prog_1_method_23_code 19 = .ok (.ifCond .ne 5, 3) := by decide +kernel
theorem eSc_between_22 : decode prog_1_method_23_code 22 = .ok (.iconst (-1), 1) := by decide +kernel
theorem eSc_between_23 : decode prog_1_method_23_code 23 = .ok (.ireturn, 1) := by decide +kernel
theorem eSc_between_24 : decode prog_1_method_23_code 24 = .ok (.iload_n 1, 1) := by decide +kernel
theorem eSc_between_25 : decode prog_1_method_23_code 25 = .ok (.iload_n 2, 1) := by decide +kernel
theorem eSc_between_26 : decode prog_1_method_23_code 26 = .ok (.if_icmp .ne 7, 3) := by decide +kernel
theorem eSc_between_29 : decode prog_1_method_23_code 29 = .ok (.iconst 0, 1) := by decide +kernel
theorem eSc_between_30 : decode prog_1_method_23_code 30 = .ok (.goto 12, 3) := by decide +kernel
theorem eSc_between_33 : decode prog_1_method_23_code 33 = .ok (.aload_n 0, 1) := by decide +kernel
theorem eSc_between_34 : decode prog_1_method_23_code 34 = .ok (.getfield 59, 3) := by decide +kernel
theorem eSc_between_37 : decode prog_1_method_23_code 37 = .ok (.iload_n 1, 1) := by decide +kernel
theorem eSc_between_38 : decode prog_1_method_23_code 38 = .ok (.iload_n 2, 1) := by decide +kernel
theorem eSc_between_39 : decode prog_1_method_23_code 39 = .ok (.invokevirtual 242, 3) := by decide +kernel
theorem eSc_between_42 : decode prog_1_method_23_code 42 = .ok (.ireturn, 1) := by decide +kernel
theorem eSc_tour_0 : decode prog_1_method_24_code 0 = .ok (.aload_n 0, 1) := by decide +kernel
theorem eSc_tour_1 : decode prog_1_method_24_code 1 = .ok (.getfield 68, 3) := by decide +kernel
theorem eSc_tour_4 : decode prog_1_method_24_code 4 = .ok (.invokevirtual 245, 3) := by decide +kernel
theorem eSc_tour_7 : decode prog_1_method_24_code 7 = .ok (.ireturn, 1) := by decide +kernel
theorem eSc_stop_0 : decode prog_1_method_25_code 0 = .ok (.aload_n 0, 1) := by decide +kernel
theorem eSc_stop_1 : decode prog_1_method_25_code 1 = .ok (.getfield 19, 3) := by decide +kernel
theorem eSc_stop_4 : decode prog_1_method_25_code 4 = .ok (.iload_n 1, 1) := by decide +kernel
theorem eSc_stop_5 : decode prog_1_method_25_code 5 = .ok (.invokevirtual 227, 3) := by decide +kernel
theorem eSc_stop_8 : decode prog_1_method_25_code 8 = .ok (.ifCond .ne 5, 3) := by decide +kernel
theorem eSc_stop_11 : decode prog_1_method_25_code 11 = .ok (.iconst (-1), 1) := by decide +kernel
theorem eSc_stop_12 : decode prog_1_method_25_code 12 = .ok (.ireturn, 1) := by decide +kernel
theorem eSc_stop_13 : decode prog_1_method_25_code 13 = .ok (.aload_n 0, 1) := by decide +kernel
theorem eSc_stop_14 : decode prog_1_method_25_code 14 = .ok (.getfield 68, 3) := by decide +kernel
theorem eSc_stop_17 : decode prog_1_method_25_code 17 = .ok (.invokevirtual 245, 3) := by decide +kernel
theorem eSc_stop_20 : decode prog_1_method_25_code 20 = .ok (.ifCond .ge 8, 3) := by decide +kernel
theorem eSc_stop_23 : decode prog_1_method_25_code 23 = .ok (.bipush (-2), 2) := by decide +kernel
theorem eSc_stop_25 : decode prog_1_method_25_code 25 = .ok (.goto 12, 3) := by decide +kernel
theorem eSc_stop_28 : decode prog_1_method_25_code 28 = .ok (.aload_n 0, 1) := by decide +kernel
theorem eSc_stop_29 : decode prog_1_method_25_code 29 = .ok (.getfield 68, 3) := by decide +kernel
theorem eSc_stop_32 : decode prog_1_method_25_code 32 = .ok (.getfield 248, 3) := by decide +kernel
theorem eSc_stop_35 : decode prog_1_method_25_code 35 = .ok (.iload_n 1, 1) := by decide +kernel
theorem eSc_stop_36 : decode prog_1_method_25_code 36 = .ok (.iaload, 1) := by decide +kernel
theorem eSc_stop_37 : decode prog_1_method_25_code 37 = .ok (.ireturn, 1) := by decide +kernel
theorem eSc_carry_0 : decode prog_1_method_26_code 0 = .ok (.aload_n 0, 1) := by decide +kernel
theorem eSc_carry_1 : decode prog_1_method_26_code 1 = .ok (.getfield 19, 3) := by decide +kernel
theorem eSc_carry_4 : decode prog_1_method_26_code 4 = .ok (.iload_n 1, 1) := by decide +kernel
theorem eSc_carry_5 : decode prog_1_method_26_code 5 = .ok (.invokevirtual 190, 3) := by decide +kernel
theorem eSc_carry_8 : decode prog_1_method_26_code 8 = .ok (.ifCond .eq 19, 3) := by decide +kernel
theorem eSc_carry_11 : decode prog_1_method_26_code 11 = .ok (.aload_n 0, 1) := by decide +kernel
theorem eSc_carry_12 : decode prog_1_method_26_code 12 = .ok (.getfield 19, 3) := by decide +kernel
theorem eSc_carry_15 : decode prog_1_method_26_code 15 = .ok (.iload_n 2, 1) := by decide +kernel
theorem eSc_carry_16 : decode prog_1_method_26_code 16 = .ok (.invokevirtual 190, 3) := by decide +kernel
theorem eSc_carry_19 : decode prog_1_method_26_code 19 = .ok (.ifCond .eq 8, 3) := by decide +kernel
theorem eSc_carry_22 : decode prog_1_method_26_code 22 = .ok (.iload_n 1, 1) := by decide +kernel
theorem eSc_carry_23 : decode prog_1_method_26_code 23 = .ok (.iload_n 2, 1) := by decide +kernel
theorem eSc_carry_24 : decode prog_1_method_26_code 24 = .ok (.if_icmp .ne 5, 3) := by decide +kernel
theorem eSc_carry_27 : decode prog_1_method_26_code 27 = .ok (.iconst (-1), 1) := by decide +kernel
theorem eSc_carry_28 : decode prog_1_method_26_code 28 = .ok (.ireturn, 1) := by decide +kernel
theorem eSc_carry_29 : decode prog_1_method_26_code 29 = .ok (.aload_n 0, 1) := by decide +kernel
theorem eSc_carry_30 : decode prog_1_method_26_code 30 = .ok (.getfield 26, 3) := by decide +kernel
theorem eSc_carry_33 : decode prog_1_method_26_code 33 = .ok (.getfield 179, 3) := by decide +kernel
theorem eSc_carry_36 : decode prog_1_method_26_code 36 = .ok (.ifCond .eq 8, 3) := by decide +kernel
theorem eSc_carry_39 : decode prog_1_method_26_code 39 = .ok (.bipush (-3), 2) := by decide +kernel
theorem eSc_carry_41 : decode prog_1_method_26_code 41 = .ok (.goto 12, 3) := by decide +kernel
theorem eSc_carry_44 : decode prog_1_method_26_code 44 = .ok (.aload_n 0, 1) := by decide +kernel
theorem eSc_carry_45 : decode prog_1_method_26_code 45 = .ok (.getfield 77, 3) := by decide +kernel
theorem eSc_carry_48 : decode prog_1_method_26_code 48 = .ok (.iload_n 1, 1) := by decide +kernel
theorem eSc_carry_49 : decode prog_1_method_26_code 49 = .ok (.iload_n 2, 1) := by decide +kernel
theorem eSc_carry_50 : decode prog_1_method_26_code 50 = .ok (.invokevirtual 251, 3) := by decide +kernel
theorem eSc_carry_53 : decode prog_1_method_26_code 53 = .ok (.ireturn, 1) := by decide +kernel
theorem eSc_jobs_0 : decode prog_1_method_27_code 0 = .ok (.aload_n 0, 1) := by decide +kernel
theorem eSc_jobs_1 : decode prog_1_method_27_code 1 = .ok (.getfield 26, 3) := by decide +kernel
theorem eSc_jobs_4 : decode prog_1_method_27_code 4 = .ok (.getfield 179, 3) := by decide +kernel
theorem eSc_jobs_7 : decode prog_1_method_27_code 7 = .ok (.ifCond .eq 8, 3) := by decide +kernel
theorem eSc_jobs_10 : decode prog_1_method_27_code 10 = .ok (.bipush (-3), 2) := by decide +kernel
theorem eSc_jobs_12 : decode prog_1_method_27_code 12 = .ok (.goto 10, 3) := by decide +kernel
theorem eSc_jobs_15 : decode prog_1_method_27_code 15 = .ok (.aload_n 0, 1) := by decide +kernel
theorem eSc_jobs_16 : decode prog_1_method_27_code 16 = .ok (.getfield 77, 3) := by decide +kernel
theorem eSc_jobs_19 : decode prog_1_method_27_code 19 = .ok (.invokevirtual 254, 3) := by decide +kernel
theorem eSc_jobs_22 : decode prog_1_method_27_code 22 = .ok (.ireturn, 1) := by decide +kernel
theorem eSc_job_0 : decode prog_1_method_28_code 0 = .ok (.iload_n 1, 1) := by decide +kernel
theorem eSc_job_1 : decode prog_1_method_28_code 1 = .ok (.ifCond .lt 22, 3) := by decide +kernel
theorem eSc_job_4 : decode prog_1_method_28_code 4 = .ok (.iload_n 1, 1) := by decide +kernel
theorem eSc_job_5 : decode prog_1_method_28_code 5 = .ok (.aload_n 0, 1) := by decide +kernel
theorem eSc_job_6 : decode prog_1_method_28_code 6 = .ok (.getfield 19, 3) := by decide +kernel
theorem eSc_job_9 : decode prog_1_method_28_code 9 = .ok (.getfield 255, 3) := by decide +kernel
theorem eSc_job_12 : decode prog_1_method_28_code 12 = .ok (.bipush 10, 2) := by decide +kernel
theorem eSc_job_14 : decode prog_1_method_28_code 14 = .ok (.iaload, 1) := by decide +kernel
theorem eSc_job_15 : decode prog_1_method_28_code 15 = .ok (.if_icmp .ge 8, 3) := by decide +kernel
theorem eSc_job_18 : decode prog_1_method_28_code 18 = .ok (.iload_n 1, 1) := by decide +kernel
theorem eSc_job_19 : decode prog_1_method_28_code 19 = .ok (.iconst 3, 1) := by decide +kernel
theorem eSc_job_20 : decode prog_1_method_28_code 20 = .ok (.if_icmp .lt 5, 3) := by decide +kernel
theorem eSc_job_23 : decode prog_1_method_28_code 23 = .ok (.iconst (-1), 1) := by decide +kernel
theorem eSc_job_24 : decode prog_1_method_28_code 24 = .ok (.ireturn, 1) := by decide +kernel
theorem eSc_job_25 : decode prog_1_method_28_code 25 = .ok (.aload_n 0, 1) := by decide +kernel
theorem eSc_job_26 : decode prog_1_method_28_code 26 = .ok (.getfield 26, 3) := by decide +kernel
theorem eSc_job_29 : decode prog_1_method_28_code 29 = .ok (.getfield 179, 3) := by decide +kernel
theorem eSc_job_32 : decode prog_1_method_28_code 32 = .ok (.ifCond .eq 6, 3) := by decide +kernel
theorem eSc_job_35 : decode prog_1_method_28_code 35 = .ok (.bipush (-3), 2) := by decide +kernel
theorem eSc_job_37 : decode prog_1_method_28_code 37 = .ok (.ireturn, 1) := by decide +kernel
theorem eSc_job_38 : decode prog_1_method_28_code 38 = .ok (.aload_n 0, 1) := by decide +kernel
theorem eSc_job_39 : decode prog_1_method_28_code 39 = .ok (.getfield 77, 3) := by decide +kernel
theorem eSc_job_42 : decode prog_1_method_28_code 42 = .ok (.invokevirtual 254, 3) := by decide +kernel
theorem eSc_job_45 : decode prog_1_method_28_code 45 = .ok (.ifCond .ge 8, 3) := by decide +kernel
theorem eSc_job_48 : decode prog_1_method_28_code 48 = .ok (.bipush (-2), 2) := by decide +kernel
theorem eSc_job_50 : decode prog_1_method_28_code 50 = .ok (.goto 12, 3) := by decide +kernel
theorem eSc_job_53 : decode prog_1_method_28_code 53 = .ok (.aload_n 0, 1) := by decide +kernel
theorem eSc_job_54 : decode prog_1_method_28_code 54 = .ok (.getfield 77, 3) := by decide +kernel
theorem eSc_job_57 : decode prog_1_method_28_code 57 = .ok (.getfield 258, 3) := by decide +kernel
theorem eSc_job_60 : decode prog_1_method_28_code 60 = .ok (.iload_n 1, 1) := by decide +kernel
theorem eSc_job_61 : decode prog_1_method_28_code 61 = .ok (.iaload, 1) := by decide +kernel
theorem eSc_job_62 : decode prog_1_method_28_code 62 = .ok (.ireturn, 1) := by decide +kernel
theorem eSc_ifPile_0 : decode prog_1_method_29_code 0 = .ok (.aload_n 0, 1) := by decide +kernel
theorem eSc_ifPile_1 : decode prog_1_method_29_code 1 = .ok (.getfield 19, 3) := by decide +kernel
theorem eSc_ifPile_4 : decode prog_1_method_29_code 4 = .ok (.iload_n 1, 1) := by decide +kernel
theorem eSc_ifPile_5 : decode prog_1_method_29_code 5 = .ok (.invokevirtual 190, 3) := by decide +kernel
theorem eSc_ifPile_8 : decode prog_1_method_29_code 8 = .ok (.ifCond .eq 14, 3) := by decide +kernel
theorem eSc_ifPile_11 : decode prog_1_method_29_code 11 = .ok (.aload_n 0, 1) := by decide +kernel
theorem eSc_ifPile_12 : decode prog_1_method_29_code 12 = .ok (.getfield 19, 3) := by decide +kernel
theorem eSc_ifPile_15 : decode prog_1_method_29_code 15 = .ok (.iload_n 2, 1) := by decide +kernel
theorem eSc_ifPile_16 : decode prog_1_method_29_code 16 = .ok (.invokevirtual 227, 3) := by decide +kernel
theorem eSc_ifPile_19 : decode prog_1_method_29_code 19 = .ok (.ifCond .ne 5, 3) := by decide +kernel
theorem eSc_ifPile_22 : decode prog_1_method_29_code 22 = .ok (.iconst (-1), 1) := by decide +kernel
theorem eSc_ifPile_23 : decode prog_1_method_29_code 23 = .ok (.ireturn, 1) := by decide +kernel
theorem eSc_ifPile_24 : decode prog_1_method_29_code 24 = .ok (.aload_n 0, 1) := by decide +kernel
theorem eSc_ifPile_25 : decode prog_1_method_29_code 25 = .ok (.getfield 59, 3) := by decide +kernel
theorem eSc_ifPile_28 : decode prog_1_method_29_code 28 = .ok (.iload_n 1, 1) := by decide +kernel
theorem eSc_ifPile_29 : decode prog_1_method_29_code 29 = .ok (.iload_n 2, 1) := by decide +kernel
theorem eSc_ifPile_30 : decode prog_1_method_29_code 30 = .ok (.invokevirtual 259, 3) := by decide +kernel
theorem eSc_ifPile_33 : decode prog_1_method_29_code 33 = .ok (.ireturn, 1) := by decide +kernel
theorem eSc_reach_0 : decode prog_1_method_30_code 0 = .ok (.iload_n 1, 1) := by decide +kernel
theorem eSc_reach_1 : decode prog_1_method_30_code 1 = .ok (.ifCond .lt 8, 3) := by decide +kernel
theorem eSc_reach_4 : decode prog_1_method_30_code 4 = .ok (.iload_n 1, 1) := by decide +kernel
theorem eSc_reach_5 : decode prog_1_method_30_code 5 = .ok (.iconst 2, 1) := by decide +kernel
theorem eSc_reach_6 : decode prog_1_method_30_code 6 = .ok (.if_icmp .le 5, 3) := by decide +kernel
theorem eSc_reach_9 : decode prog_1_method_30_code 9 = .ok (.iconst (-1), 1) := by decide +kernel
theorem eSc_reach_10 : decode prog_1_method_30_code 10 = .ok (.ireturn, 1) := by decide +kernel
theorem eSc_reach_11 : decode prog_1_method_30_code 11 = .ok (.iconst 0, 1) := by decide +kernel
theorem eSc_reach_12 : decode prog_1_method_30_code 12 = .ok (.istore_n 2, 1) := by decide +kernel
theorem eSc_reach_13 : decode prog_1_method_30_code 13 = .ok (.bipush (-2), 2) := by decide +kernel
theorem eSc_reach_15 : decode prog_1_method_30_code 15 = .ok (.istore_n 3, 1) := by decide +kernel
theorem eSc_reach_16 : decode prog_1_method_30_code 16 = .ok (.iconst 0, 1) := by decide +kernel
theorem eSc_reach_17 : decode prog_1_method_30_code 17 = .ok (.istore 4, 2) := by decide +kernel
theorem eSc_reach_19 : decode prog_1_method_30_code 19 = .ok (.iload 4, 2) := by decide +kernel
theorem eSc_reach_21 : decode prog_1_method_30_code 21 = .ok (.aload_n 0, 1) := by decide +kernel
theorem eSc_reach_22 : decode prog_1_method_30_code 22 = .ok (.getfield 19, 3) := by decide +kernel
theorem eSc_reach_25 : decode prog_1_method_30_code 25 = .ok (.getfield 262, 3) := by decide +kernel
theorem eSc_reach_28 : decode prog_1_method_30_code 28 = .ok (.if_icmp .ge 76, 3) := by decide +kernel
theorem eSc_reach_31 : decode prog_1_method_30_code 31 = .ok (.iconst 1, 1) := by decide +kernel
theorem eSc_reach_32 : decode prog_1_method_30_code 32 = .ok (.istore 5, 2) := by decide +kernel
theorem eSc_reach_34 : decode prog_1_method_30_code 34 = .ok (.iload 5, 2) := by decide +kernel
theorem eSc_reach_36 : decode prog_1_method_30_code 36 = .ok (.aload_n 0, 1) := by decide +kernel
theorem eSc_reach_37 : decode prog_1_method_30_code 37 = .ok (.getfield 19, 3) := by decide +kernel
theorem eSc_reach_40 : decode prog_1_method_30_code 40 = .ok (.getfield 265, 3) := by decide +kernel
theorem eSc_reach_43 : decode prog_1_method_30_code 43 = .ok (.if_icmp .gt 55, 3) := by decide +kernel
theorem eSc_reach_46 : decode prog_1_method_30_code 46 = .ok (.iload_n 1, 1) := by decide +kernel
theorem eSc_reach_47 : decode prog_1_method_30_code 47 = .ok (.ifCond .ne 17, 3) := by decide +kernel
theorem eSc_reach_50 : decode prog_1_method_30_code 50 = .ok (.aload_n 0, 1) := by decide +kernel
theorem eSc_reach_51 : decode prog_1_method_30_code 51 = .ok (.getfield 59, 3) := by decide +kernel
theorem eSc_reach_54 : decode prog_1_method_30_code 54 = .ok (.iload 4, 2) := by decide +kernel
theorem eSc_reach_56 : decode prog_1_method_30_code 56 = .ok (.iload 5, 2) := by decide +kernel
theorem eSc_reach_58 : decode prog_1_method_30_code 58 = .ok (.invokevirtual 268, 3) := by decide +kernel
theorem eSc_reach_61 : decode prog_1_method_30_code 61 = .ok (.goto 14, 3) := by decide +kernel
theorem eSc_reach_64 : decode prog_1_method_30_code 64 = .ok (.aload_n 0, 1) := by decide +kernel
theorem eSc_reach_65 : decode prog_1_method_30_code 65 = .ok (.getfield 59, 3) := by decide +kernel
theorem eSc_reach_68 : decode prog_1_method_30_code 68 = .ok (.iload 4, 2) := by decide +kernel
theorem eSc_reach_70 : decode prog_1_method_30_code 70 = .ok (.iload 5, 2) := by decide +kernel
theorem eSc_reach_72 : decode prog_1_method_30_code 72 = .ok (.invokevirtual 271, 3) := by decide +kernel
theorem eSc_reach_75 : decode prog_1_method_30_code 75 = .ok (.istore 6, 2) := by decide +kernel
theorem eSc_reach_77 : decode prog_1_method_30_code 77 = .ok (.iload 6, 2) := by decide +kernel
theorem eSc_reach_79 : decode prog_1_method_30_code 79 = .ok (.ifCond .lt 13, 3) := by decide +kernel
theorem eSc_reach_82 : decode prog_1_method_30_code 82 = .ok (.iinc 2 1, 3) := by decide +kernel
theorem eSc_reach_85 : decode prog_1_method_30_code 85 = .ok (.iload_n 3, 1) := by decide +kernel
theorem eSc_reach_86 : decode prog_1_method_30_code 86 = .ok (.iload 6, 2) := by decide +kernel
theorem eSc_reach_88 : decode prog_1_method_30_code 88 = .ok (.invokestatic 212, 3) := by decide +kernel
theorem eSc_reach_91 : decode prog_1_method_30_code 91 = .ok (.istore_n 3, 1) := by decide +kernel
theorem eSc_reach_92 : decode prog_1_method_30_code 92 = .ok (.iinc 5 1, 3) := by decide +kernel
theorem eSc_reach_95 : decode prog_1_method_30_code 95 = .ok (.goto (-61), 3) := by decide +kernel
theorem eSc_reach_98 : decode prog_1_method_30_code 98 = .ok (.iinc 4 1, 3) := by decide +kernel
theorem eSc_reach_101 : decode prog_1_method_30_code 101 = .ok (.goto (-82), 3) := by decide +kernel
theorem eSc_reach_104 : decode prog_1_method_30_code 104 = .ok (.iload_n 1, 1) := by decide +kernel
theorem eSc_reach_105 : decode prog_1_method_30_code 105 = .ok (.iconst 2, 1) := by decide +kernel
theorem eSc_reach_106 : decode prog_1_method_30_code 106 = .ok (.if_icmp .ne 7, 3) := by decide +kernel
theorem eSc_reach_109 : decode prog_1_method_30_code 109 = .ok (.iload_n 3, 1) := by decide +kernel
theorem eSc_reach_110 : decode prog_1_method_30_code 110 = .ok (.goto 4, 3) := by decide +kernel
theorem eSc_reach_113 : decode prog_1_method_30_code 113 = .ok (.iload_n 2, 1) := by decide +kernel
theorem eSc_reach_114 : decode prog_1_method_30_code 114 = .ok (.ireturn, 1) := by decide +kernel
theorem eSc_safe_0 : decode prog_1_method_31_code 0 = .ok (.iload_n 1, 1) := by decide +kernel
theorem eSc_safe_1 : decode prog_1_method_31_code 1 = .ok (.ifCond .lt 8, 3) := by decide +kernel
theorem eSc_safe_4 : decode prog_1_method_31_code 4 = .ok (.iload_n 1, 1) := by decide +kernel
theorem eSc_safe_5 : decode prog_1_method_31_code 5 = .ok (.iconst 1, 1) := by decide +kernel
theorem eSc_safe_6 : decode prog_1_method_31_code 6 = .ok (.if_icmp .le 5, 3) := by decide +kernel
theorem eSc_safe_9 : decode prog_1_method_31_code 9 = .ok (.iconst (-1), 1) := by decide +kernel
theorem eSc_safe_10 : decode prog_1_method_31_code 10 = .ok (.ireturn, 1) := by decide +kernel
theorem eSc_safe_11 : decode prog_1_method_31_code 11 = .ok (.aload_n 0, 1) := by decide +kernel
theorem eSc_safe_12 : decode prog_1_method_31_code 12 = .ok (.getfield 59, 3) := by decide +kernel
theorem eSc_safe_15 : decode prog_1_method_31_code 15 = .ok (.invokevirtual 274, 3) := by decide +kernel
theorem eSc_safe_18 : decode prog_1_method_31_code 18 = .ok (.istore_n 2, 1) := by decide +kernel
theorem eSc_safe_19 : decode prog_1_method_31_code 19 = .ok (.iload_n 1, 1) := by decide +kernel
theorem eSc_safe_20 : decode prog_1_method_31_code 20 = .ok (.ifCond .ne 7, 3) := by decide +kernel
theorem eSc_safe_23 : decode prog_1_method_31_code 23 = .ok (.iload_n 2, 1) := by decide +kernel
theorem eSc_safe_24 : decode prog_1_method_31_code 24 = .ok (.goto 15, 3) := by decide +kernel
theorem eSc_safe_27 : decode prog_1_method_31_code 27 = .ok (.aload_n 0, 1) := by decide +kernel
theorem eSc_safe_28 : decode prog_1_method_31_code 28 = .ok (.getfield 59, 3) := by decide +kernel
theorem eSc_safe_31 : decode prog_1_method_31_code 31 = .ok (.getfield 169, 3) := by decide +kernel
theorem eSc_safe_34 : decode prog_1_method_31_code 34 = .ok (.invokevirtual 277, 3) := by decide +kernel
theorem eSc_safe_37 : decode prog_1_method_31_code 37 = .ok (.iload_n 2, 1) := by decide +kernel
theorem eSc_safe_38 : decode prog_1_method_31_code 38 = .ok (.isub, 1) := by decide +kernel
theorem eSc_safe_39 : decode prog_1_method_31_code 39 = .ok (.ireturn, 1) := by decide +kernel
theorem eSc_bears_0 : decode prog_1_method_32_code 0 = .ok (.aload_n 0, 1) := by decide +kernel
theorem eSc_bears_1 : decode prog_1_method_32_code 1 = .ok (.getfield 59, 3) := by decide +kernel
theorem eSc_bears_4 : decode prog_1_method_32_code 4 = .ok (.getfield 169, 3) := by decide +kernel
theorem eSc_bears_7 : decode prog_1_method_32_code 7 = .ok (.aload_n 0, 1) := by decide +kernel
theorem eSc_bears_8 : decode prog_1_method_32_code 8 = .ok (.getfield 26, 3) := by decide +kernel
theorem eSc_bears_11 : decode prog_1_method_32_code 11 = .ok (.getfield 144, 3) := by decide +kernel
theorem eSc_bears_14 : decode prog_1_method_32_code 14 = .ok (.invokevirtual 173, 3) := by decide +kernel
theorem eSc_bears_17 : decode prog_1_method_32_code 17 = .ok (.ifCond .eq 6, 3) := by decide +kernel
theorem eSc_bears_20 : decode prog_1_method_32_code 20 = .ok (.bipush (-2), 2) := by decide +kernel
theorem eSc_bears_22 : decode prog_1_method_32_code 22 = .ok (.ireturn, 1) := by decide +kernel
theorem eSc_bears_23 : decode prog_1_method_32_code 23 = .ok (.iconst 0, 1) := by decide +kernel
theorem eSc_bears_24 : decode prog_1_method_32_code 24 = .ok (.istore_n 1, 1) := by decide +kernel
theorem eSc_bears_25 : decode prog_1_method_32_code 25 = .ok (.iload_n 1, 1) := by decide +kernel
theorem eSc_bears_26 : decode prog_1_method_32_code 26 = .ok (.bipush 8, 2) := by decide +kernel
theorem eSc_bears_28 : decode prog_1_method_32_code 28 = .ok (.if_icmp .gt 39, 3) := by decide +kernel
theorem eSc_bears_31 : decode prog_1_method_32_code 31 = .ok (.aload_n 0, 1) := by decide +kernel
theorem eSc_bears_32 : decode prog_1_method_32_code 32 = .ok (.iload_n 1, 1) := by decide +kernel
theorem eSc_bears_33 : decode prog_1_method_32_code 33 = .ok (.invokevirtual 280, 3) := by decide +kernel
theorem eSc_bears_36 : decode prog_1_method_32_code 36 = .ok (.ifCond .eq 12, 3) := by decide +kernel
theorem eSc_bears_39 : decode prog_1_method_32_code 39 = .ok (.aload_n 0, 1) := by decide +kernel
theorem eSc_bears_40 : decode prog_1_method_32_code 40 = .ok (.iload_n 1, 1) := by decide +kernel
theorem eSc_bears_41 : decode prog_1_method_32_code 41 = .ok (.ineg, 1) := by decide +kernel
theorem eSc_bears_42 : decode prog_1_method_32_code 42 = .ok (.invokevirtual 280, 3) := by decide +kernel
theorem eSc_bears_45 : decode prog_1_method_32_code 45 = .ok (.ifCond .ne 16, 3) := by decide +kernel
theorem eSc_bears_48 : decode prog_1_method_32_code 48 = .ok (.iload_n 1, 1) := by decide +kernel
theorem eSc_bears_49 : decode prog_1_method_32_code 49 = .ok (.ifCond .ne 8, 3) := by decide +kernel
theorem eSc_bears_52 : decode prog_1_method_32_code 52 = .ok (.bipush (-2), 2) := by decide +kernel
theorem eSc_bears_54 : decode prog_1_method_32_code 54 = .ok (.goto 6, 3) := by decide +kernel
theorem eSc_bears_57 : decode prog_1_method_32_code 57 = .ok (.iload_n 1, 1) := by decide +kernel
theorem eSc_bears_58 : decode prog_1_method_32_code 58 = .ok (.iconst 1, 1) := by decide +kernel
theorem eSc_bears_59 : decode prog_1_method_32_code 59 = .ok (.isub, 1) := by decide +kernel
theorem eSc_bears_60 : decode prog_1_method_32_code 60 = .ok (.ireturn, 1) := by decide +kernel
theorem eSc_bears_61 : decode prog_1_method_32_code 61 = .ok (.iinc 1 1, 3) := by decide +kernel
theorem eSc_bears_64 : decode prog_1_method_32_code 64 = .ok (.goto (-39), 3) := by decide +kernel
theorem eSc_bears_67 : decode prog_1_method_32_code 67 = .ok (.bipush 8, 2) := by decide +kernel
theorem eSc_bears_69 : decode prog_1_method_32_code 69 = .ok (.ireturn, 1) := by decide +kernel
theorem eSc_pulses_0 : decode prog_1_method_33_code 0 = .ok (.iload_n 2, 1) := by decide +kernel
theorem eSc_pulses_1 : decode prog_1_method_33_code 1 = .ok (.ifCond .lt 17, 3) := by decide +kernel
theorem eSc_pulses_4 : decode prog_1_method_33_code 4 = .ok (.iload_n 2, 1) := by decide +kernel
theorem eSc_pulses_5 : decode prog_1_method_33_code 5 = .ok (.bipush 8, 2) := by decide +kernel
theorem eSc_pulses_7 : decode prog_1_method_33_code 7 = .ok (.if_icmp .gt 11, 3) := by decide +kernel
theorem eSc_pulses_10 : decode prog_1_method_33_code 10 = .ok (.iload_n 1, 1) := by decide +kernel
theorem eSc_pulses_11 : decode prog_1_method_33_code 11 = .ok (.iload_n 3, 1) := by decide +kernel
theorem eSc_pulses_12 : decode prog_1_method_33_code 12 = .ok (.invokestatic 283, 3) := by decide +kernel
theorem eSc_pulses_15 : decode prog_1_method_33_code 15 = .ok (.ifCond .ne 5, 3) := by decide +kernel
theorem eSc_pulses_18 : decode prog_1_method_33_code 18 = .ok (.iconst (-1), 1) := by decide +kernel
theorem eSc_pulses_19 : decode prog_1_method_33_code 19 = .ok (.ireturn, 1) := by decide +kernel
theorem eSc_pulses_20 : decode prog_1_method_33_code 20 = .ok (.iload_n 2, 1) := by decide +kernel
theorem eSc_pulses_21 : decode prog_1_method_33_code 21 = .ok (.iload_n 1, 1) := by decide +kernel
theorem eSc_pulses_22 : decode prog_1_method_33_code 22 = .ok (.invokestatic 287, 3) := by decide +kernel
theorem eSc_pulses_25 : decode prog_1_method_33_code 25 = .ok (.iload_n 3, 1) := by decide +kernel
theorem eSc_pulses_26 : decode prog_1_method_33_code 26 = .ok (.iconst 0, 1) := by decide +kernel
theorem eSc_pulses_27 : decode prog_1_method_33_code 27 = .ok (.iconst 0, 1) := by decide +kernel
theorem eSc_pulses_28 : decode prog_1_method_33_code 28 = .ok (.invokestatic 290, 3) := by decide +kernel
theorem eSc_pulses_31 : decode prog_1_method_33_code 31 = .ok (.ireturn, 1) := by decide +kernel
theorem eSc_shortest_0 : decode prog_1_method_34_code 0 = .ok (.iload_n 2, 1) := by decide +kernel
theorem eSc_shortest_1 : decode prog_1_method_34_code 1 = .ok (.ifCond .eq 11, 3) := by decide +kernel
theorem eSc_shortest_4 : decode prog_1_method_34_code 4 = .ok (.iload_n 1, 1) := by decide +kernel
theorem eSc_shortest_5 : decode prog_1_method_34_code 5 = .ok (.iload_n 2, 1) := by decide +kernel
theorem eSc_shortest_6 : decode prog_1_method_34_code 6 = .ok (.invokestatic 283, 3) := by decide +kernel
theorem eSc_shortest_9 : decode prog_1_method_34_code 9 = .ok (.ifCond .ne 5, 3) := by decide +kernel
theorem eSc_shortest_12 : decode prog_1_method_34_code 12 = .ok (.iconst (-1), 1) := by decide +kernel
theorem eSc_shortest_13 : decode prog_1_method_34_code 13 = .ok (.ireturn, 1) := by decide +kernel
theorem eSc_shortest_14 : decode prog_1_method_34_code 14 = .ok (.iconst 1, 1) := by decide +kernel
theorem eSc_shortest_15 : decode prog_1_method_34_code 15 = .ok (.istore_n 3, 1) := by decide +kernel
theorem eSc_shortest_16 : decode prog_1_method_34_code 16 = .ok (.iload_n 3, 1) := by decide +kernel
theorem eSc_shortest_17 : decode prog_1_method_34_code 17 = .ok (.bipush 8, 2) := by decide +kernel
theorem eSc_shortest_19 : decode prog_1_method_34_code 19 = .ok (.if_icmp .gt 25, 3) := by decide +kernel
theorem eSc_shortest_22 : decode prog_1_method_34_code 22 = .ok (.iload_n 3, 1) := by decide +kernel
theorem eSc_shortest_23 : decode prog_1_method_34_code 23 = .ok (.iload_n 1, 1) := by decide +kernel
theorem eSc_shortest_24 : decode prog_1_method_34_code 24 = .ok (.invokestatic 287, 3) := by decide +kernel
theorem eSc_shortest_27 : decode prog_1_method_34_code 27 = .ok (.iload_n 2, 1) := by decide +kernel
theorem eSc_shortest_28 : decode prog_1_method_34_code 28 = .ok (.iconst 0, 1) := by decide +kernel
theorem eSc_shortest_29 : decode prog_1_method_34_code 29 = .ok (.iconst 0, 1) := by decide +kernel
theorem eSc_shortest_30 : decode prog_1_method_34_code 30 = .ok (.invokestatic 290, 3) := by decide +kernel
theorem eSc_shortest_33 : decode prog_1_method_34_code 33 = .ok (.ifCond .le 5, 3) := by decide +kernel
theorem eSc_shortest_36 : decode prog_1_method_34_code 36 = .ok (.iload_n 3, 1) := by decide +kernel
theorem eSc_shortest_37 : decode prog_1_method_34_code 37 = .ok (.ireturn, 1) := by decide +kernel
theorem eSc_shortest_38 : decode prog_1_method_34_code 38 = .ok (.iinc 3 1, 3) := by decide +kernel
theorem eSc_shortest_41 : decode prog_1_method_34_code 41 = .ok (.goto (-25), 3) := by decide +kernel
theorem eSc_shortest_44 : decode prog_1_method_34_code 44 = .ok (.bipush (-2), 2) := by decide +kernel
theorem eSc_shortest_46 : decode prog_1_method_34_code 46 = .ok (.ireturn, 1) := by decide +kernel
theorem eSc_level_0 : decode prog_1_method_35_code 0 = .ok (.aload_n 0, 1) := by decide +kernel
theorem eSc_level_1 : decode prog_1_method_35_code 1 = .ok (.getfield 19, 3) := by decide +kernel
theorem eSc_level_4 : decode prog_1_method_35_code 4 = .ok (.iload_n 1, 1) := by decide +kernel
theorem eSc_level_5 : decode prog_1_method_35_code 5 = .ok (.invokevirtual 227, 3) := by decide +kernel
theorem eSc_level_8 : decode prog_1_method_35_code 8 = .ok (.ifCond .eq 18, 3) := by decide +kernel
theorem eSc_level_11 : decode prog_1_method_35_code 11 = .ok (.aload_n 0, 1) := by decide +kernel
theorem eSc_level_12 : decode prog_1_method_35_code 12 = .ok (.getfield 59, 3) := by decide +kernel
theorem eSc_level_15 : decode prog_1_method_35_code 15 = .ok (.iload_n 1, 1) := by decide +kernel
theorem eSc_level_16 : decode prog_1_method_35_code 16 = .ok (.sipush 146, 3) := by decide +kernel
theorem eSc_level_19 : decode prog_1_method_35_code 19 = .ok (.iconst 4, 1) := by decide +kernel
theorem eSc_level_20 : decode prog_1_method_35_code 20 = .ok (.invokevirtual 293, 3) := by decide +kernel
theorem eSc_level_23 : decode prog_1_method_35_code 23 = .ok (.goto 4, 3) := by decide +kernel
theorem eSc_level_26 : decode prog_1_method_35_code 26 = .ok (.iconst (-1), 1) := by decide +kernel
theorem eSc_level_27 : decode prog_1_method_35_code 27 = .ok (.ireturn, 1) := by decide +kernel
theorem eSc_ifWind_0 : decode prog_1_method_36_code 0 = .ok (.aload_n 0, 1) := by decide +kernel
theorem eSc_ifWind_1 : decode prog_1_method_36_code 1 = .ok (.getfield 19, 3) := by decide +kernel
theorem eSc_ifWind_4 : decode prog_1_method_36_code 4 = .ok (.iload_n 1, 1) := by decide +kernel
theorem eSc_ifWind_5 : decode prog_1_method_36_code 5 = .ok (.invokevirtual 227, 3) := by decide +kernel
theorem eSc_ifWind_8 : decode prog_1_method_36_code 8 = .ok (.ifCond .eq 15, 3) := by decide +kernel
theorem eSc_ifWind_11 : decode prog_1_method_36_code 11 = .ok (.iload_n 2, 1) := by decide +kernel
theorem eSc_ifWind_12 : decode prog_1_method_36_code 12 = .ok (.bipush (-8), 2) := by decide +kernel
theorem eSc_ifWind_14 : decode prog_1_method_36_code 14 = .ok (.if_icmp .lt 9, 3) := by decide +kernel
theorem eSc_ifWind_17 : decode prog_1_method_36_code 17 = .ok (.iload_n 2, 1) := by decide +kernel
theorem eSc_ifWind_18 : decode prog_1_method_36_code 18 = .ok (.bipush 8, 2) := by decide +kernel
theorem eSc_ifWind_20 : decode prog_1_method_36_code 20 = .ok (.if_icmp .le 5, 3) := by decide +kernel
theorem eSc_ifWind_23 : decode prog_1_method_36_code 23 = .ok (.iconst (-1), 1) := by decide +kernel
theorem eSc_ifWind_24 : decode prog_1_method_36_code 24 = .ok (.ireturn, 1) := by decide +kernel
theorem eSc_ifWind_25 : decode prog_1_method_36_code 25 = .ok (.aload_n 0, 1) := by decide +kernel
theorem eSc_ifWind_26 : decode prog_1_method_36_code 26 = .ok (.getfield 59, 3) := by decide +kernel
theorem eSc_ifWind_29 : decode prog_1_method_36_code 29 = .ok (.iload_n 1, 1) := by decide +kernel
theorem eSc_ifWind_30 : decode prog_1_method_36_code 30 = .ok (.iload_n 2, 1) := by decide +kernel
theorem eSc_ifWind_31 : decode prog_1_method_36_code 31 = .ok (.invokevirtual 297, 3) := by decide +kernel
theorem eSc_ifWind_34 : decode prog_1_method_36_code 34 = .ok (.ireturn, 1) := by decide +kernel
theorem eSc_nearest_0 : decode prog_1_method_37_code 0 = .ok (.bipush (-2), 2) := by decide +kernel
theorem eSc_nearest_2 : decode prog_1_method_37_code 2 = .ok (.istore_n 1, 1) := by decide +kernel
theorem eSc_nearest_3 : decode prog_1_method_37_code 3 = .ok (.iconst 0, 1) := by decide +kernel
theorem eSc_nearest_4 : decode prog_1_method_37_code 4 = .ok (.istore_n 2, 1) := by decide +kernel
theorem eSc_nearest_5 : decode prog_1_method_37_code 5 = .ok (.iconst 0, 1) := by decide +kernel
theorem eSc_nearest_6 : decode prog_1_method_37_code 6 = .ok (.istore_n 3, 1) := by decide +kernel
theorem eSc_nearest_7 : decode prog_1_method_37_code 7 = .ok (.iload_n 3, 1) := by decide +kernel
theorem eSc_nearest_8 : decode prog_1_method_37_code 8 = .ok (.aload_n 0, 1) := by decide +kernel
theorem eSc_nearest_9 : decode prog_1_method_37_code 9 = .ok (.getfield 19, 3) := by decide +kernel
theorem eSc_nearest_12 : decode prog_1_method_37_code 12 = .ok (.getfield 255, 3) := by decide +kernel
theorem eSc_nearest_15 : decode prog_1_method_37_code 15 = .ok (.iconst 5, 1) := by decide +kernel
theorem eSc_nearest_16 : decode prog_1_method_37_code 16 = .ok (.iaload, 1) := by decide +kernel
