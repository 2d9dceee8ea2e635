theorem eSc_nearest_17 : decode prog_1_method_37_code 17 = .ok (.if_icmp .ge 39, 3) := by decide +kernel
theorem eSc_nearest_20 : decode prog_1_method_37_code 20 = .ok (.aload_n 0, 1) := by decide +kernel
theorem eSc_nearest_21 : decode prog_1_method_37_code 21 = .ok (.getfield 59, 3) := by decide +kernel
theorem eSc_nearest_24 : decode prog_1_method_37_code 24 = .ok (.iload_n 3, 1) := by decide +kernel
theorem eSc_nearest_25 : decode prog_1_method_37_code 25 = .ok (.invokevirtual 230, 3) := by decide +kernel
theorem eSc_nearest_28 : decode prog_1_method_37_code 28 = .ok (.istore 4, 2) := by decide +kernel
theorem eSc_nearest_30 : decode prog_1_method_37_code 30 = .ok (.iload 4, 2) := by decide +kernel
theorem eSc_nearest_32 : decode prog_1_method_37_code 32 = .ok (.ifCond .lt 18, 3) := by decide +kernel
theorem eSc_nearest_35 : decode prog_1_method_37_code 35 = .ok (.iload_n 1, 1) := by decide +kernel
theorem eSc_nearest_36 : decode prog_1_method_37_code 36 = .ok (.ifCond .lt 9, 3) := by decide +kernel
theorem eSc_nearest_39 : decode prog_1_method_37_code 39 = .ok (.iload 4, 2) := by decide +kernel
theorem eSc_nearest_41 : decode prog_1_method_37_code 41 = .ok (.iload_n 2, 1) := by decide +kernel
theorem eSc_nearest_42 : decode prog_1_method_37_code 42 = .ok (.if_icmp .ge 8, 3) := by decide +kernel
theorem eSc_nearest_45 : decode prog_1_method_37_code 45 = .ok (.iload_n 3, 1) := by decide +kernel
theorem eSc_nearest_46 : decode prog_1_method_37_code 46 = .ok (.istore_n 1, 1) := by decide +kernel
theorem eSc_nearest_47 : decode prog_1_method_37_code 47 = .ok (.iload 4, 2) := by decide +kernel
theorem eSc_nearest_49 : decode prog_1_method_37_code 49 = .ok (.istore_n 2, 1) := by decide +kernel
theorem eSc_nearest_50 : decode prog_1_method_37_code 50 = .ok (.iinc 3 1, 3) := by decide +kernel
theorem eSc_nearest_53 : decode prog_1_method_37_code 53 = .ok (.goto (-46), 3) := by decide +kernel
theorem eSc_nearest_56 : decode prog_1_method_37_code 56 = .ok (.iload_n 1, 1) := by decide +kernel
theorem eSc_nearest_57 : decode prog_1_method_37_code 57 = .ok (.ireturn, 1) := by decide +kernel
theorem eSc_least_0 : decode prog_1_method_38_code 0 = .ok (.aload_n 0, 1) := by decide +kernel
theorem eSc_least_1 : decode prog_1_method_38_code 1 = .ok (.getfield 19, 3) := by decide +kernel
theorem eSc_least_4 : decode prog_1_method_38_code 4 = .ok (.iload_n 1, 1) := by decide +kernel
theorem eSc_least_5 : decode prog_1_method_38_code 5 = .ok (.invokevirtual 227, 3) := by decide +kernel
theorem eSc_least_8 : decode prog_1_method_38_code 8 = .ok (.ifCond .eq 14, 3) := by decide +kernel
theorem eSc_least_11 : decode prog_1_method_38_code 11 = .ok (.aload_n 0, 1) := by decide +kernel
theorem eSc_least_12 : decode prog_1_method_38_code 12 = .ok (.getfield 59, 3) := by decide +kernel
theorem eSc_least_15 : decode prog_1_method_38_code 15 = .ok (.iload_n 1, 1) := by decide +kernel
theorem eSc_least_16 : decode prog_1_method_38_code 16 = .ok (.invokevirtual 300, 3) := by decide +kernel
theorem eSc_least_19 : decode prog_1_method_38_code 19 = .ok (.goto 4, 3) := by decide +kernel
theorem eSc_least_22 : decode prog_1_method_38_code 22 = .ok (.iconst (-1), 1) := by decide +kernel
theorem eSc_least_23 : decode prog_1_method_38_code 23 = .ok (.ireturn, 1) := by decide +kernel
theorem eSc_steadiest_0 : decode prog_1_method_39_code 0 = .ok (.aload_n 0, 1) := by decide +kernel
theorem eSc_steadiest_1 : decode prog_1_method_39_code 1 = .ok (.getfield 19, 3) := by decide +kernel
theorem eSc_steadiest_4 : decode prog_1_method_39_code 4 = .ok (.iload_n 1, 1) := by decide +kernel
theorem eSc_steadiest_5 : decode prog_1_method_39_code 5 = .ok (.invokevirtual 227, 3) := by decide +kernel
theorem eSc_steadiest_8 : decode prog_1_method_39_code 8 = .ok (.ifCond .ne 5, 3) := by decide +kernel
theorem eSc_steadiest_11 : decode prog_1_method_39_code 11 = .ok (.iconst (-1), 1) := by decide +kernel
theorem eSc_steadiest_12 : decode prog_1_method_39_code 12 = .ok (.ireturn, 1) := by decide +kernel
theorem eSc_steadiest_13 : decode prog_1_method_39_code 13 = .ok (.aload_n 0, 1) := by decide +kernel
theorem eSc_steadiest_14 : decode prog_1_method_39_code 14 = .ok (.getfield 59, 3) := by decide +kernel
theorem eSc_steadiest_17 : decode prog_1_method_39_code 17 = .ok (.iload_n 1, 1) := by decide +kernel
theorem eSc_steadiest_18 : decode prog_1_method_39_code 18 = .ok (.invokevirtual 230, 3) := by decide +kernel
theorem eSc_steadiest_21 : decode prog_1_method_39_code 21 = .ok (.istore_n 2, 1) := by decide +kernel
theorem eSc_steadiest_22 : decode prog_1_method_39_code 22 = .ok (.iload_n 2, 1) := by decide +kernel
theorem eSc_steadiest_23 : decode prog_1_method_39_code 23 = .ok (.ifCond .gt 5, 3) := by decide +kernel
theorem eSc_steadiest_26 : decode prog_1_method_39_code 26 = .ok (.iload_n 2, 1) := by decide +kernel
theorem eSc_steadiest_27 : decode prog_1_method_39_code 27 = .ok (.ireturn, 1) := by decide +kernel
theorem eSc_steadiest_28 : decode prog_1_method_39_code 28 = .ok (.iconst 0, 1) := by decide +kernel
theorem eSc_steadiest_29 : decode prog_1_method_39_code 29 = .ok (.istore_n 3, 1) := by decide +kernel
theorem eSc_steadiest_30 : decode prog_1_method_39_code 30 = .ok (.iload_n 3, 1) := by decide +kernel
theorem eSc_steadiest_31 : decode prog_1_method_39_code 31 = .ok (.aload_n 0, 1) := by decide +kernel
theorem eSc_steadiest_32 : decode prog_1_method_39_code 32 = .ok (.getfield 19, 3) := by decide +kernel
theorem eSc_steadiest_35 : decode prog_1_method_39_code 35 = .ok (.getfield 303, 3) := by decide +kernel
theorem eSc_steadiest_38 : decode prog_1_method_39_code 38 = .ok (.if_icmp .ge 26, 3) := by decide +kernel
theorem eSc_steadiest_41 : decode prog_1_method_39_code 41 = .ok (.aload_n 0, 1) := by decide +kernel
theorem eSc_steadiest_42 : decode prog_1_method_39_code 42 = .ok (.getfield 59, 3) := by decide +kernel
theorem eSc_steadiest_45 : decode prog_1_method_39_code 45 = .ok (.iload_n 1, 1) := by decide +kernel
theorem eSc_steadiest_46 : decode prog_1_method_39_code 46 = .ok (.sipush 511, 3) := by decide +kernel
theorem eSc_steadiest_49 : decode prog_1_method_39_code 49 = .ok (.iload_n 3, 1) := by decide +kernel
theorem eSc_steadiest_50 : decode prog_1_method_39_code 50 = .ok (.invokevirtual 293, 3) := by decide +kernel
theorem eSc_steadiest_53 : decode prog_1_method_39_code 53 = .ok (.ifCond .lt 5, 3) := by decide +kernel
theorem eSc_steadiest_56 : decode prog_1_method_39_code 56 = .ok (.iload_n 3, 1) := by decide +kernel
theorem eSc_steadiest_57 : decode prog_1_method_39_code 57 = .ok (.ireturn, 1) := by decide +kernel
theorem eSc_steadiest_58 : decode prog_1_method_39_code 58 = .ok (.iinc 3 1, 3) := by decide +kernel
theorem eSc_steadiest_61 : decode prog_1_method_39_code 61 = .ok (.goto (-31), 3) := by decide +kernel
theorem eSc_steadiest_64 : decode prog_1_method_39_code 64 = .ok (.aload_n 0, 1) := by decide +kernel
theorem eSc_steadiest_65 : decode prog_1_method_39_code 65 = .ok (.getfield 19, 3) := by decide +kernel
theorem eSc_steadiest_68 : decode prog_1_method_39_code 68 = .ok (.getfield 303, 3) := by decide +kernel
theorem eSc_steadiest_71 : decode prog_1_method_39_code 71 = .ok (.ireturn, 1) := by decide +kernel
theorem eSc_along_0 : decode prog_1_method_40_code 0 = .ok (.aload_n 0, 1) := by decide +kernel
theorem eSc_along_1 : decode prog_1_method_40_code 1 = .ok (.getfield 19, 3) := by decide +kernel
theorem eSc_along_4 : decode prog_1_method_40_code 4 = .ok (.iload_n 1, 1) := by decide +kernel
theorem eSc_along_5 : decode prog_1_method_40_code 5 = .ok (.invokevirtual 227, 3) := by decide +kernel
theorem eSc_along_8 : decode prog_1_method_40_code 8 = .ok (.ifCond .eq 12, 3) := by decide +kernel
theorem eSc_along_11 : decode prog_1_method_40_code 11 = .ok (.iload_n 2, 1) := by decide +kernel
theorem eSc_along_12 : decode prog_1_method_40_code 12 = .ok (.ifCond .lt 8, 3) := by decide +kernel
theorem eSc_along_15 : decode prog_1_method_40_code 15 = .ok (.iload_n 2, 1) := by decide +kernel
theorem eSc_along_16 : decode prog_1_method_40_code 16 = .ok (.iconst 4, 1) := by decide +kernel
theorem eSc_along_17 : decode prog_1_method_40_code 17 = .ok (.if_icmp .le 6, 3) := by decide +kernel
theorem eSc_along_20 : decode prog_1_method_40_code 20 = .ok (.bipush (-99), 2) := by decide +kernel
theorem eSc_along_22 : decode prog_1_method_40_code 22 = .ok (.ireturn, 1) := by decide +kernel
theorem eSc_along_23 : decode prog_1_method_40_code 23 = .ok (.aload_n 0, 1) := by decide +kernel
theorem eSc_along_24 : decode prog_1_method_40_code 24 = .ok (.getfield 59, 3) := by decide +kernel
theorem eSc_along_27 : decode prog_1_method_40_code 27 = .ok (.iload_n 1, 1) := by decide +kernel
theorem eSc_along_28 : decode prog_1_method_40_code 28 = .ok (.invokevirtual 230, 3) := by decide +kernel
theorem eSc_along_31 : decode prog_1_method_40_code 31 = .ok (.ifCond .ge 8, 3) := by decide +kernel
theorem eSc_along_34 : decode prog_1_method_40_code 34 = .ok (.bipush (-2), 2) := by decide +kernel
theorem eSc_along_36 : decode prog_1_method_40_code 36 = .ok (.goto 12, 3) := by decide +kernel
theorem eSc_along_39 : decode prog_1_method_40_code 39 = .ok (.aload_n 0, 1) := by decide +kernel
theorem eSc_along_40 : decode prog_1_method_40_code 40 = .ok (.getfield 59, 3) := by decide +kernel
theorem eSc_along_43 : decode prog_1_method_40_code 43 = .ok (.iload_n 1, 1) := by decide +kernel
theorem eSc_along_44 : decode prog_1_method_40_code 44 = .ok (.iload_n 2, 1) := by decide +kernel
theorem eSc_along_45 : decode prog_1_method_40_code 45 = .ok (.invokevirtual 306, 3) := by decide +kernel
theorem eSc_along_48 : decode prog_1_method_40_code 48 = .ok (.ireturn, 1) := by decide +kernel
theorem eSc_log_0 : decode prog_1_method_41_code 0 = .ok (.iload_n 1, 1) := by decide +kernel
theorem eSc_log_1 : decode prog_1_method_41_code 1 = .ok (.ifCond .lt 23, 3) := by decide +kernel
theorem eSc_log_4 : decode prog_1_method_41_code 4 = .ok (.iload_n 1, 1) := by decide +kernel
theorem eSc_log_5 : decode prog_1_method_41_code 5 = .ok (.aload_n 0, 1) := by decide +kernel
theorem eSc_log_6 : decode prog_1_method_41_code 6 = .ok (.getfield 37, 3) := by decide +kernel
theorem eSc_log_9 : decode prog_1_method_41_code 9 = .ok (.invokevirtual 309, 3) := by decide +kernel
theorem eSc_log_12 : decode prog_1_method_41_code 12 = .ok (.if_icmp .ge 12, 3) := by decide +kernel
theorem eSc_log_15 : decode prog_1_method_41_code 15 = .ok (.iload_n 2, 1) := by decide +kernel
theorem eSc_log_16 : decode prog_1_method_41_code 16 = .ok (.ifCond .lt 8, 3) := by decide +kernel
theorem eSc_log_19 : decode prog_1_method_41_code 19 = .ok (.iload_n 2, 1) := by decide +kernel
theorem eSc_log_20 : decode prog_1_method_41_code 20 = .ok (.iconst 2, 1) := by decide +kernel
theorem eSc_log_21 : decode prog_1_method_41_code 21 = .ok (.if_icmp .le 7, 3) := by decide +kernel
theorem eSc_log_24 : decode prog_1_method_41_code 24 = .ok (.iconst (-1), 1) := by decide +kernel
theorem eSc_log_25 : decode prog_1_method_41_code 25 = .ok (.goto 12, 3) := by decide +kernel
theorem eSc_log_28 : decode prog_1_method_41_code 28 = .ok (.aload_n 0, 1) := by decide +kernel
theorem eSc_log_29 : decode prog_1_method_41_code 29 = .ok (.getfield 37, 3) := by decide +kernel
theorem eSc_log_32 : decode prog_1_method_41_code 32 = .ok (.iload_n 1, 1) := by decide +kernel
theorem eSc_log_33 : decode prog_1_method_41_code 33 = .ok (.iload_n 2, 1) := by decide +kernel
theorem eSc_log_34 : decode prog_1_method_41_code 34 = .ok (.invokevirtual 312, 3) := by decide +kernel
theorem eSc_log_37 : decode prog_1_method_41_code 37 = .ok (.ireturn, 1) := by decide +kernel
theorem eSc_again_0 : decode prog_1_method_42_code 0 = .ok (.aload_n 0, 1) := by decide +kernel
theorem eSc_again_1 : decode prog_1_method_42_code 1 = .ok (.getfield 37, 3) := by decide +kernel
theorem eSc_again_4 : decode prog_1_method_42_code 4 = .ok (.invokevirtual 309, 3) := by decide +kernel
theorem eSc_again_7 : decode prog_1_method_42_code 7 = .ok (.iconst 2, 1) := by decide +kernel
theorem eSc_again_8 : decode prog_1_method_42_code 8 = .ok (.idiv, 1) := by decide +kernel
theorem eSc_again_9 : decode prog_1_method_42_code 9 = .ok (.istore_n 1, 1) := by decide +kernel
theorem eSc_again_10 : decode prog_1_method_42_code 10 = .ok (.iload_n 1, 1) := by decide +kernel
theorem eSc_again_11 : decode prog_1_method_42_code 11 = .ok (.ifCond .le 22, 3) := by decide +kernel
theorem eSc_again_14 : decode prog_1_method_42_code 14 = .ok (.aload_n 0, 1) := by decide +kernel
theorem eSc_again_15 : decode prog_1_method_42_code 15 = .ok (.getfield 37, 3) := by decide +kernel
theorem eSc_again_18 : decode prog_1_method_42_code 18 = .ok (.iload_n 1, 1) := by decide +kernel
theorem eSc_again_19 : decode prog_1_method_42_code 19 = .ok (.invokevirtual 315, 3) := by decide +kernel
theorem eSc_again_22 : decode prog_1_method_42_code 22 = .ok (.ifCond .eq 5, 3) := by decide +kernel
theorem eSc_again_25 : decode prog_1_method_42_code 25 = .ok (.iload_n 1, 1) := by decide +kernel
theorem eSc_again_26 : decode prog_1_method_42_code 26 = .ok (.ireturn, 1) := by decide +kernel
theorem eSc_again_27 : decode prog_1_method_42_code 27 = .ok (.iinc 1 (-1), 3) := by decide +kernel
theorem eSc_again_30 : decode prog_1_method_42_code 30 = .ok (.goto (-20), 3) := by decide +kernel
theorem eSc_again_33 : decode prog_1_method_42_code 33 = .ok (.iconst 0, 1) := by decide +kernel
theorem eSc_again_34 : decode prog_1_method_42_code 34 = .ok (.ireturn, 1) := by decide +kernel
theorem eSc_chance_0 : decode prog_1_method_43_code 0 = .ok (.iload_n 1, 1) := by decide +kernel
theorem eSc_chance_1 : decode prog_1_method_43_code 1 = .ok (.iconst (-1), 1) := by decide +kernel
theorem eSc_chance_2 : decode prog_1_method_43_code 2 = .ok (.if_icmp .lt 23, 3) := by decide +kernel
theorem eSc_chance_5 : decode prog_1_method_43_code 5 = .ok (.iload_n 2, 1) := by decide +kernel
theorem eSc_chance_6 : decode prog_1_method_43_code 6 = .ok (.iconst 1, 1) := by decide +kernel
theorem eSc_chance_7 : decode prog_1_method_43_code 7 = .ok (.if_icmp .lt 18, 3) := by decide +kernel
theorem eSc_chance_10 : decode prog_1_method_43_code 10 = .ok (.iload_n 2, 1) := by decide +kernel
theorem eSc_chance_11 : decode prog_1_method_43_code 11 = .ok (.bipush 60, 2) := by decide +kernel
theorem eSc_chance_13 : decode prog_1_method_43_code 13 = .ok (.if_icmp .gt 12, 3) := by decide +kernel
theorem eSc_chance_16 : decode prog_1_method_43_code 16 = .ok (.iload_n 3, 1) := by decide +kernel
theorem eSc_chance_17 : decode prog_1_method_43_code 17 = .ok (.ifCond .lt 8, 3) := by decide +kernel
theorem eSc_chance_20 : decode prog_1_method_43_code 20 = .ok (.iload_n 3, 1) := by decide +kernel
theorem eSc_chance_21 : decode prog_1_method_43_code 21 = .ok (.iconst 2, 1) := by decide +kernel
theorem eSc_chance_22 : decode prog_1_method_43_code 22 = .ok (.if_icmp .le 5, 3) := by decide +kernel
theorem eSc_chance_25 : decode prog_1_method_43_code 25 = .ok (.iconst (-1), 1) := by decide +kernel
theorem eSc_chance_26 : decode prog_1_method_43_code 26 = .ok (.ireturn, 1) := by decide +kernel
theorem eSc_chance_27 : decode prog_1_method_43_code 27 = .ok (.iload_n 1, 1) := by decide +kernel
theorem eSc_chance_28 : decode prog_1_method_43_code 28 = .ok (.ifCond .ge 13, 3) := by decide +kernel
theorem eSc_chance_31 : decode prog_1_method_43_code 31 = .ok (.aload_n 0, 1) := by decide +kernel
theorem eSc_chance_32 : decode prog_1_method_43_code 32 = .ok (.getfield 19, 3) := by decide +kernel
theorem eSc_chance_35 : decode prog_1_method_43_code 35 = .ok (.getfield 318, 3) := by decide +kernel
theorem eSc_chance_38 : decode prog_1_method_43_code 38 = .ok (.goto 4, 3) := by decide +kernel
theorem eSc_chance_41 : decode prog_1_method_43_code 41 = .ok (.iload_n 1, 1) := by decide +kernel
theorem eSc_chance_42 : decode prog_1_method_43_code 42 = .ok (.istore 4, 2) := by decide +kernel
theorem eSc_chance_44 : decode prog_1_method_43_code 44 = .ok (.aload_n 0, 1) := by decide +kernel
theorem eSc_chance_45 : decode prog_1_method_43_code 45 = .ok (.getfield 26, 3) := by decide +kernel
theorem eSc_chance_48 : decode prog_1_method_43_code 48 = .ok (.getfield 144, 3) := by decide +kernel
theorem eSc_chance_51 : decode prog_1_method_43_code 51 = .ok (.getfield 153, 3) := by decide +kernel
theorem eSc_chance_54 : decode prog_1_method_43_code 54 = .ok (.invokestatic 321, 3) := by decide +kernel
theorem eSc_chance_57 : decode prog_1_method_43_code 57 = .ok (.istore 5, 2) := by decide +kernel
theorem eSc_chance_59 : decode prog_1_method_43_code 59 = .ok (.iconst 0, 1) := by decide +kernel
theorem eSc_chance_60 : decode prog_1_method_43_code 60 = .ok (.istore 6, 2) := by decide +kernel
theorem eSc_chance_62 : decode prog_1_method_43_code 62 = .ok (.aload_n 0, 1) := by decide +kernel
theorem eSc_chance_63 : decode prog_1_method_43_code 63 = .ok (.getfield 84, 3) := by decide +kernel
theorem eSc_chance_66 : decode prog_1_method_43_code 66 = .ok (.aload_n 0, 1) := by decide +kernel
theorem eSc_chance_67 : decode prog_1_method_43_code 67 = .ok (.getfield 26, 3) := by decide +kernel
theorem eSc_chance_70 : decode prog_1_method_43_code 70 = .ok (.getfield 144, 3) := by decide +kernel
theorem eSc_chance_73 : decode prog_1_method_43_code 73 = .ok (.invokevirtual 220, 3) := by decide +kernel
theorem eSc_chance_76 : decode prog_1_method_43_code 76 = .ok (.iconst 0, 1) := by decide +kernel
theorem eSc_chance_77 : decode prog_1_method_43_code 77 = .ok (.istore 7, 2) := by decide +kernel
theorem eSc_chance_79 : decode prog_1_method_43_code 79 = .ok (.iload 7, 2) := by decide +kernel
theorem eSc_chance_81 : decode prog_1_method_43_code 81 = .ok (.iload_n 2, 1) := by decide +kernel
theorem eSc_chance_82 : decode prog_1_method_43_code 82 = .ok (.if_icmp .ge 99, 3) := by decide +kernel
theorem eSc_chance_85 : decode prog_1_method_43_code 85 = .ok (.iload 7, 2) := by decide +kernel
theorem eSc_chance_87 : decode prog_1_method_43_code 87 = .ok (.iload 6, 2) := by decide +kernel
theorem eSc_chance_89 : decode prog_1_method_43_code 89 = .ok (.if_icmp .ne 92, 3) := by decide +kernel
theorem eSc_chance_92 : decode prog_1_method_43_code 92 = .ok (.aload_n 0, 1) := by decide +kernel
theorem eSc_chance_93 : decode prog_1_method_43_code 93 = .ok (.getfield 26, 3) := by decide +kernel
theorem eSc_chance_96 : decode prog_1_method_43_code 96 = .ok (.getfield 130, 3) := by decide +kernel
theorem eSc_chance_99 : decode prog_1_method_43_code 99 = .ok (.iload 7, 2) := by decide +kernel
theorem eSc_chance_101 : decode prog_1_method_43_code 101 = .ok (.iadd, 1) := by decide +kernel
theorem eSc_chance_102 : decode prog_1_method_43_code 102 = .ok (.sipush 9999, 3) := by decide +kernel
theorem eSc_chance_105 : decode prog_1_method_43_code 105 = .ok (.if_icmp .ge 76, 3) := by decide +kernel
theorem eSc_chance_108 : decode prog_1_method_43_code 108 = .ok (.iload 4, 2) := by decide +kernel
theorem eSc_chance_110 : decode prog_1_method_43_code 110 = .ok (.ldc_w 324, 3) := by decide +kernel
theorem eSc_chance_113 : decode prog_1_method_43_code 113 = .ok (.imul, 1) := by decide +kernel
theorem eSc_chance_114 : decode prog_1_method_43_code 114 = .ok (.sipush 12345, 3) := by decide +kernel
theorem eSc_chance_117 : decode prog_1_method_43_code 117 = .ok (.iadd, 1) := by decide +kernel
theorem eSc_chance_118 : decode prog_1_method_43_code 118 = .ok (.ldc_w 325, 3) := by decide +kernel
theorem eSc_chance_121 : decode prog_1_method_43_code 121 = .ok (.iand, 1) := by decide +kernel
theorem eSc_chance_122 : decode prog_1_method_43_code 122 = .ok (.istore 4, 2) := by decide +kernel
theorem eSc_chance_124 : decode prog_1_method_43_code 124 = .ok (.aload_n 0, 1) := by decide +kernel
theorem eSc_chance_125 : decode prog_1_method_43_code 125 = .ok (.iload 4, 2) := by decide +kernel
theorem eSc_chance_127 : decode prog_1_method_43_code 127 = .ok (.bipush 16, 2) := by decide +kernel
theorem eSc_chance_129 : decode prog_1_method_43_code 129 = .ok (.ishr, 1) := by decide +kernel
theorem eSc_chance_130 : decode prog_1_method_43_code 130 = .ok (.iconst 3, 1) := by decide +kernel
theorem eSc_chance_131 : decode prog_1_method_43_code 131 = .ok (.irem, 1) := by decide +kernel
theorem eSc_chance_132 : decode prog_1_method_43_code 132 = .ok (.iconst 1, 1) := by decide +kernel
theorem eSc_chance_133 : decode prog_1_method_43_code 133 = .ok (.isub, 1) := by decide +kernel
theorem eSc_chance_134 : decode prog_1_method_43_code 134 = .ok (.invokevirtual 326, 3) := by decide +kernel
theorem eSc_chance_137 : decode prog_1_method_43_code 137 = .ok (.ifCond .eq 38, 3) := by decide +kernel
theorem eSc_chance_140 : decode prog_1_method_43_code 140 = .ok (.iinc 6 1, 3) := by decide +kernel
theorem eSc_chance_143 : decode prog_1_method_43_code 143 = .ok (.aload_n 0, 1) := by decide +kernel
theorem eSc_chance_144 : decode prog_1_method_43_code 144 = .ok (.getfield 84, 3) := by decide +kernel
theorem eSc_chance_147 : decode prog_1_method_43_code 147 = .ok (.getfield 153, 3) := by decide +kernel
theorem eSc_chance_150 : decode prog_1_method_43_code 150 = .ok (.invokestatic 321, 3) := by decide +kernel
theorem eSc_chance_153 : decode prog_1_method_43_code 153 = .ok (.istore 8, 2) := by decide +kernel
theorem eSc_chance_155 : decode prog_1_method_43_code 155 = .ok (.iload 6, 2) := by decide +kernel
theorem eSc_chance_157 : decode prog_1_method_43_code 157 = .ok (.iconst 1, 1) := by decide +kernel
theorem eSc_chance_158 : decode prog_1_method_43_code 158 = .ok (.if_icmp .ne 8, 3) := by decide +kernel
theorem eSc_chance_161 : decode prog_1_method_43_code 161 = .ok (.iload 8, 2) := by decide +kernel
theorem eSc_chance_163 : decode prog_1_method_43_code 163 = .ok (.goto 10, 3) := by decide +kernel
theorem eSc_chance_166 : decode prog_1_method_43_code 166 = .ok (.iload 5, 2) := by decide +kernel
theorem eSc_chance_168 : decode prog_1_method_43_code 168 = .ok (.iload 8, 2) := by decide +kernel
theorem eSc_chance_170 : decode prog_1_method_43_code 170 = .ok (.invokestatic 212, 3) := by decide +kernel
theorem eSc_chance_173 : decode prog_1_method_43_code 173 = .ok (.istore 5, 2) := by decide +kernel
theorem eSc_chance_175 : decode prog_1_method_43_code 175 = .ok (.iinc 7 1, 3) := by decide +kernel
theorem eSc_chance_178 : decode prog_1_method_43_code 178 = .ok (.goto (-99), 3) := by decide +kernel
theorem eSc_chance_181 : decode prog_1_method_43_code 181 = .ok (.iload_n 3, 1) := by decide +kernel
theorem eSc_chance_182 : decode prog_1_method_43_code 182 = .ok (.ifCond .ne 6, 3) := by decide +kernel
theorem eSc_chance_185 : decode prog_1_method_43_code 185 = .ok (.iload 6, 2) := by decide +kernel
theorem eSc_chance_187 : decode prog_1_method_43_code 187 = .ok (.ireturn, 1) := by decide +kernel
theorem eSc_chance_188 : decode prog_1_method_43_code 188 = .ok (.iload_n 3, 1) := by decide +kernel
theorem eSc_chance_189 : decode prog_1_method_43_code 189 = .ok (.iconst 2, 1) := by decide +kernel
theorem eSc_chance_190 : decode prog_1_method_43_code 190 = .ok (.if_icmp .ne 8, 3) := by decide +kernel
theorem eSc_chance_193 : decode prog_1_method_43_code 193 = .ok (.iload 5, 2) := by decide +kernel
theorem eSc_chance_195 : decode prog_1_method_43_code 195 = .ok (.goto 18, 3) := by decide +kernel
theorem eSc_chance_198 : decode prog_1_method_43_code 198 = .ok (.aload_n 0, 1) := by decide +kernel
theorem eSc_chance_199 : decode prog_1_method_43_code 199 = .ok (.getfield 84, 3) := by decide +kernel
theorem eSc_chance_202 : decode prog_1_method_43_code 202 = .ok (.invokevirtual 166, 3) := by decide +kernel
theorem eSc_chance_205 : decode prog_1_method_43_code 205 = .ok (.ifCond .eq 7, 3) := by decide +kernel
theorem eSc_chance_208 : decode prog_1_method_43_code 208 = .ok (.iconst 1, 1) := by decide +kernel
theorem eSc_chance_209 : decode prog_1_method_43_code 209 = .ok (.goto 4, 3) := by decide +kernel
theorem eSc_chance_212 : decode prog_1_method_43_code 212 = .ok (.iconst 0, 1) := by decide +kernel
theorem eSc_chance_213 : decode prog_1_method_43_code 213 = .ok (.ireturn, 1) := by decide +kernel
theorem eSc_undo_0 : decode prog_1_method_44_code 0 = .ok (.aload_n 0, 1) := by decide +kernel
theorem eSc_undo_1 : decode prog_1_method_44_code 1 = .ok (.getfield 26, 3) := by decide +kernel
theorem eSc_undo_4 : decode prog_1_method_44_code 4 = .ok (.getfield 130, 3) := by decide +kernel
theorem eSc_undo_7 : decode prog_1_method_44_code 7 = .ok (.istore_n 1, 1) := by decide +kernel
theorem eSc_undo_8 : decode prog_1_method_44_code 8 = .ok (.aload_n 0, 1) := by decide +kernel
theorem eSc_undo_9 : decode prog_1_method_44_code 9 = .ok (.getfield 44, 3) := by decide +kernel
theorem eSc_undo_12 : decode prog_1_method_44_code 12 = .ok (.aload_n 0, 1) := by decide +kernel
theorem eSc_undo_13 : decode prog_1_method_44_code 13 = .ok (.getfield 26, 3) := by decide +kernel
theorem eSc_undo_16 : decode prog_1_method_44_code 16 = .ok (.invokevirtual 329, 3) := by decide +kernel
theorem eSc_undo_19 : decode prog_1_method_44_code 19 = .ok (.ifCond .ne 5, 3) := by decide +kernel
theorem eSc_undo_22 : decode prog_1_method_44_code 22 = .ok (.iconst (-1), 1) := by decide +kernel
theorem eSc_undo_23 : decode prog_1_method_44_code 23 = .ok (.ireturn, 1) := by decide +kernel
theorem eSc_undo_24 : decode prog_1_method_44_code 24 = .ok (.aload_n 0, 1) := by decide +kernel
theorem eSc_undo_25 : decode prog_1_method_44_code 25 = .ok (.getfield 26, 3) := by decide +kernel
theorem eSc_undo_28 : decode prog_1_method_44_code 28 = .ok (.getfield 130, 3) := by decide +kernel
theorem eSc_undo_31 : decode prog_1_method_44_code 31 = .ok (.iload_n 1, 1) := by decide +kernel
theorem eSc_undo_32 : decode prog_1_method_44_code 32 = .ok (.if_icmp .eq 20, 3) := by decide +kernel
theorem eSc_undo_35 : decode prog_1_method_44_code 35 = .ok (.aload_n 0, 1) := by decide +kernel
theorem eSc_undo_36 : decode prog_1_method_44_code 36 = .ok (.getfield 37, 3) := by decide +kernel
theorem eSc_undo_39 : decode prog_1_method_44_code 39 = .ok (.invokevirtual 333, 3) := by decide +kernel
theorem eSc_undo_42 : decode prog_1_method_44_code 42 = .ok (.aload_n 0, 1) := by decide +kernel
theorem eSc_undo_43 : decode prog_1_method_44_code 43 = .ok (.getfield 59, 3) := by decide +kernel
theorem eSc_undo_46 : decode prog_1_method_44_code 46 = .ok (.invokevirtual 336, 3) := by decide +kernel
theorem eSc_undo_49 : decode prog_1_method_44_code 49 = .ok (.goto 10, 3) := by decide +kernel
theorem eSc_undo_52 : decode prog_1_method_44_code 52 = .ok (.aload_n 0, 1) := by decide +kernel
theorem eSc_undo_53 : decode prog_1_method_44_code 53 = .ok (.getfield 59, 3) := by decide +kernel
theorem eSc_undo_56 : decode prog_1_method_44_code 56 = .ok (.invokevirtual 88, 3) := by decide +kernel
theorem eSc_undo_59 : decode prog_1_method_44_code 59 = .ok (.aload_n 0, 1) := by decide +kernel
theorem eSc_undo_60 : decode prog_1_method_44_code 60 = .ok (.getfield 44, 3) := by decide +kernel
theorem eSc_undo_63 : decode prog_1_method_44_code 63 = .ok (.getfield 339, 3) := by decide +kernel
theorem eSc_undo_66 : decode prog_1_method_44_code 66 = .ok (.ireturn, 1) := by decide +kernel
theorem eSc_keep_0 : decode prog_1_method_45_code 0 = .ok (.aload_n 0, 1) := by decide +kernel
theorem eSc_keep_1 : decode prog_1_method_45_code 1 = .ok (.getfield 48, 3) := by decide +kernel
theorem eSc_keep_4 : decode prog_1_method_45_code 4 = .ok (.aload_n 0, 1) := by decide +kernel
theorem eSc_keep_5 : decode prog_1_method_45_code 5 = .ok (.getfield 26, 3) := by decide +kernel
theorem eSc_keep_8 : decode prog_1_method_45_code 8 = .ok (.invokevirtual 342, 3) := by decide +kernel
theorem eSc_keep_11 : decode prog_1_method_45_code 11 = .ok (.aload_n 0, 1) := by decide +kernel
theorem eSc_keep_12 : decode prog_1_method_45_code 12 = .ok (.getfield 51, 3) := by decide +kernel
theorem eSc_keep_15 : decode prog_1_method_45_code 15 = .ok (.aload_n 0, 1) := by decide +kernel
theorem eSc_keep_16 : decode prog_1_method_45_code 16 = .ok (.getfield 37, 3) := by decide +kernel
theorem eSc_keep_19 : decode prog_1_method_45_code 19 = .ok (.invokevirtual 344, 3) := by decide +kernel
theorem eSc_keep_22 : decode prog_1_method_45_code 22 = .ok (.aload_n 0, 1) := by decide +kernel
theorem eSc_keep_23 : decode prog_1_method_45_code 23 = .ok (.iconst 1, 1) := by decide +kernel
theorem eSc_keep_24 : decode prog_1_method_45_code 24 = .ok (.putfield 113, 3) := by decide +kernel
theorem eSc_keep_27 : decode prog_1_method_45_code 27 = .ok (.aload_n 0, 1) := by decide +kernel
theorem eSc_keep_28 : decode prog_1_method_45_code 28 = .ok (.getfield 26, 3) := by decide +kernel
theorem eSc_keep_31 : decode prog_1_method_45_code 31 = .ok (.getfield 130, 3) := by decide +kernel
theorem eSc_keep_34 : decode prog_1_method_45_code 34 = .ok (.ireturn, 1) := by decide +kernel
theorem eSc_back_0 : decode prog_1_method_46_code 0 = .ok (.aload_n 0, 1) := by decide +kernel
theorem eSc_back_1 : decode prog_1_method_46_code 1 = .ok (.getfield 113, 3) := by decide +kernel
theorem eSc_back_4 : decode prog_1_method_46_code 4 = .ok (.ifCond .ne 5, 3) := by decide +kernel
theorem eSc_back_7 : decode prog_1_method_46_code 7 = .ok (.iconst (-1), 1) := by decide +kernel
theorem eSc_back_8 : decode prog_1_method_46_code 8 = .ok (.ireturn, 1) := by decide +kernel
theorem eSc_back_9 : decode prog_1_method_46_code 9 = .ok (.aload_n 0, 1) := by decide +kernel
theorem eSc_back_10 : decode prog_1_method_46_code 10 = .ok (.getfield 26, 3) := by decide +kernel
theorem eSc_back_13 : decode prog_1_method_46_code 13 = .ok (.aload_n 0, 1) := by decide +kernel
theorem eSc_back_14 : decode prog_1_method_46_code 14 = .ok (.getfield 48, 3) := by decide +kernel
theorem eSc_back_17 : decode prog_1_method_46_code 17 = .ok (.invokevirtual 342, 3) := by decide +kernel
theorem eSc_back_20 : decode prog_1_method_46_code 20 = .ok (.aload_n 0, 1) := by decide +kernel
theorem eSc_back_21 : decode prog_1_method_46_code 21 = .ok (.getfield 37, 3) := by decide +kernel
theorem eSc_back_24 : decode prog_1_method_46_code 24 = .ok (.aload_n 0, 1) := by decide +kernel
theorem eSc_back_25 : decode prog_1_method_46_code 25 = .ok (.getfield 51, 3) := by decide +kernel
theorem eSc_back_28 : decode prog_1_method_46_code 28 = .ok (.invokevirtual 344, 3) := by decide +kernel
theorem eSc_back_31 : decode prog_1_method_46_code 31 = .ok (.aload_n 0, 1) := by decide +kernel
theorem eSc_back_32 : decode prog_1_method_46_code 32 = .ok (.getfield 44, 3) := by decide +kernel
theorem eSc_back_35 : decode prog_1_method_46_code 35 = .ok (.invokevirtual 112, 3) := by decide +kernel
theorem eSc_back_38 : decode prog_1_method_46_code 38 = .ok (.aload_n 0, 1) := by decide +kernel
theorem eSc_back_39 : decode prog_1_method_46_code 39 = .ok (.getfield 59, 3) := by decide +kernel
theorem eSc_back_42 : decode prog_1_method_46_code 42 = .ok (.invokevirtual 88, 3) := by decide +kernel
theorem eSc_back_45 : decode prog_1_method_46_code 45 = .ok (.aload_n 0, 1) := by decide +kernel
theorem eSc_back_46 : decode prog_1_method_46_code 46 = .ok (.getfield 26, 3) := by decide +kernel
theorem eSc_back_49 : decode prog_1_method_46_code 49 = .ok (.getfield 130, 3) := by decide +kernel
theorem eSc_back_52 : decode prog_1_method_46_code 52 = .ok (.ireturn, 1) := by decide +kernel
theorem eSc_count_0 : decode prog_1_method_47_code 0 = .ok (.iload_n 1, 1) := by decide +kernel
theorem eSc_count_1 : decode prog_1_method_47_code 1 = .ok (.tableswitch 179 0 12 #[67, 75, 83, 91, 99, 109, 120, 128, 136, 144, 152, 160, 171], 67) := by decide +kernel
theorem eSc_count_68 : decode prog_1_method_47_code 68 = .ok (.aload_n 0, 1) := by decide +kernel
theorem eSc_count_69 : decode prog_1_method_47_code 69 = .ok (.getfield 19, 3) := by decide +kernel
theorem eSc_count_72 : decode prog_1_method_47_code 72 = .ok (.getfield 262, 3) := by decide +kernel
theorem eSc_count_75 : decode prog_1_method_47_code 75 = .ok (.ireturn, 1) := by decide +kernel
theorem eSc_count_76 : decode prog_1_method_47_code 76 = .ok (.aload_n 0, 1) := by decide +kernel
theorem eSc_count_77 : decode prog_1_method_47_code 77 = .ok (.getfield 19, 3) := by decide +kernel
theorem eSc_count_80 : decode prog_1_method_47_code 80 = .ok (.getfield 265, 3) := by decide +kernel
theorem eSc_count_83 : decode prog_1_method_47_code 83 = .ok (.ireturn, 1) := by decide +kernel
theorem eSc_count_84 : decode prog_1_method_47_code 84 = .ok (.aload_n 0, 1) := by decide +kernel
theorem eSc_count_85 : decode prog_1_method_47_code 85 = .ok (.getfield 19, 3) := by decide +kernel
theorem eSc_count_88 : decode prog_1_method_47_code 88 = .ok (.getfield 347, 3) := by decide +kernel
theorem eSc_count_91 : decode prog_1_method_47_code 91 = .ok (.ireturn, 1) := by decide +kernel
theorem eSc_count_92 : decode prog_1_method_47_code 92 = .ok (.aload_n 0, 1) := by decide +kernel
theorem eSc_count_93 : decode prog_1_method_47_code 93 = .ok (.getfield 19, 3) := by decide +kernel
theorem eSc_count_96 : decode prog_1_method_47_code 96 = .ok (.getfield 303, 3) := by decide +kernel
theorem eSc_count_99 : decode prog_1_method_47_code 99 = .ok (.ireturn, 1) := by decide +kernel
theorem eSc_count_100 : decode prog_1_method_47_code 100 = .ok (.aload_n 0, 1) := by decide +kernel
theorem eSc_count_101 : decode prog_1_method_47_code 101 = .ok (.getfield 19, 3) := by decide +kernel
theorem eSc_count_104 : decode prog_1_method_47_code 104 = .ok (.getfield 255, 3) := by decide +kernel
theorem eSc_count_107 : decode prog_1_method_47_code 107 = .ok (.iconst 5, 1) := by decide +kernel
theorem eSc_count_108 : decode prog_1_method_47_code 108 = .ok (.iaload, 1) := by decide +kernel
theorem eSc_count_109 : decode prog_1_method_47_code 109 = .ok (.ireturn, 1) := by decide +kernel
theorem eSc_count_110 : decode prog_1_method_47_code 110 = .ok (.aload_n 0, 1) := by decide +kernel
theorem eSc_count_111 : decode prog_1_method_47_code 111 = .ok (.getfield 19, 3) := by decide +kernel
theorem eSc_count_114 : decode prog_1_method_47_code 114 = .ok (.getfield 255, 3) := by decide +kernel
theorem eSc_count_117 : decode prog_1_method_47_code 117 = .ok (.bipush 8, 2) := by decide +kernel
theorem eSc_count_119 : decode prog_1_method_47_code 119 = .ok (.iaload, 1) := by decide +kernel
theorem eSc_count_120 : decode prog_1_method_47_code 120 = .ok (.ireturn, 1) := by decide +kernel
theorem eSc_count_121 : decode prog_1_method_47_code 121 = .ok (.aload_n 0, 1) := by decide +kernel
theorem eSc_count_122 : decode prog_1_method_47_code 122 = .ok (.getfield 26, 3) := by decide +kernel
theorem eSc_count_125 : decode prog_1_method_47_code 125 = .ok (.getfield 350, 3) := by decide +kernel
theorem eSc_count_128 : decode prog_1_method_47_code 128 = .ok (.ireturn, 1) := by decide +kernel
theorem eSc_count_129 : decode prog_1_method_47_code 129 = .ok (.aload_n 0, 1) := by decide +kernel
theorem eSc_count_130 : decode prog_1_method_47_code 130 = .ok (.getfield 26, 3) := by decide +kernel
theorem eSc_count_133 : decode prog_1_method_47_code 133 = .ok (.getfield 130, 3) := by decide +kernel
theorem eSc_count_136 : decode prog_1_method_47_code 136 = .ok (.ireturn, 1) := by decide +kernel
theorem eSc_count_137 : decode prog_1_method_47_code 137 = .ok (.aload_n 0, 1) := by decide +kernel
theorem eSc_count_138 : decode prog_1_method_47_code 138 = .ok (.getfield 37, 3) := by decide +kernel
theorem eSc_count_141 : decode prog_1_method_47_code 141 = .ok (.invokevirtual 309, 3) := by decide +kernel
theorem eSc_count_144 : decode prog_1_method_47_code 144 = .ok (.ireturn, 1) := by decide +kernel
theorem eSc_count_145 : decode prog_1_method_47_code 145 = .ok (.aload_n 0, 1) := by decide +kernel
theorem eSc_count_146 : decode prog_1_method_47_code 146 = .ok (.getfield 44, 3) := by decide +kernel
theorem eSc_count_149 : decode prog_1_method_47_code 149 = .ok (.getfield 339, 3) := by decide +kernel
theorem eSc_count_152 : decode prog_1_method_47_code 152 = .ok (.ireturn, 1) := by decide +kernel
theorem eSc_count_153 : decode prog_1_method_47_code 153 = .ok (.aload_n 0, 1) := by decide +kernel
theorem eSc_count_154 : decode prog_1_method_47_code 154 = .ok (.getfield 12, 3) := by decide +kernel
theorem eSc_count_157 : decode prog_1_method_47_code 157 = .ok (.getfield 95, 3) := by decide +kernel
theorem eSc_count_160 : decode prog_1_method_47_code 160 = .ok (.ireturn, 1) := by decide +kernel
theorem eSc_count_161 : decode prog_1_method_47_code 161 = .ok (.aload_n 0, 1) := by decide +kernel
theorem eSc_count_162 : decode prog_1_method_47_code 162 = .ok (.getfield 19, 3) := by decide +kernel
theorem eSc_count_165 : decode prog_1_method_47_code 165 = .ok (.getfield 255, 3) := by decide +kernel
theorem eSc_count_168 : decode prog_1_method_47_code 168 = .ok (.bipush 10, 2) := by decide +kernel
theorem eSc_count_170 : decode prog_1_method_47_code 170 = .ok (.iaload, 1) := by decide +kernel
theorem eSc_count_171 : decode prog_1_method_47_code 171 = .ok (.ireturn, 1) := by decide +kernel
theorem eSc_count_172 : decode prog_1_method_47_code 172 = .ok (.aload_n 0, 1) := by decide +kernel
theorem eSc_count_173 : decode prog_1_method_47_code 173 = .ok (.getfield 26, 3) := by decide +kernel
theorem eSc_count_176 : decode prog_1_method_47_code 176 = .ok (.invokevirtual 353, 3) := by decide +kernel
theorem eSc_count_179 : decode prog_1_method_47_code 179 = .ok (.ireturn, 1) := by decide +kernel
theorem eSc_count_180 : decode prog_1_method_47_code 180 = .ok (.iconst (-1), 1) := by decide +kernel
theorem eSc_count_181 : decode prog_1_method_47_code 181 = .ok (.ireturn, 1) := by decide +kernel
theorem eSc_hangsStill_0 : decode prog_1_method_48_code 0 = .ok (.aload_n 0, 1) := by decide +kernel
theorem eSc_hangsStill_1 : decode prog_1_method_48_code 1 = .ok (.getfield 26, 3) := by decide +kernel
theorem eSc_hangsStill_4 : decode prog_1_method_48_code 4 = .ok (.getfield 144, 3) := by decide +kernel
theorem eSc_hangsStill_7 : decode prog_1_method_48_code 7 = .ok (.invokevirtual 166, 3) := by decide +kernel
theorem eSc_hangsStill_10 : decode prog_1_method_48_code 10 = .ok (.ifCond .eq 27, 3) := by decide +kernel
theorem eSc_hangsStill_13 : decode prog_1_method_48_code 13 = .ok (.aload_n 0, 1) := by decide +kernel
theorem eSc_hangsStill_14 : decode prog_1_method_48_code 14 = .ok (.getfield 59, 3) := by decide +kernel
theorem eSc_hangsStill_17 : decode prog_1_method_48_code 17 = .ok (.getfield 169, 3) := by decide +kernel
theorem eSc_hangsStill_20 : decode prog_1_method_48_code 20 = .ok (.aload_n 0, 1) := by decide +kernel
theorem eSc_hangsStill_21 : decode prog_1_method_48_code 21 = .ok (.getfield 26, 3) := by decide +kernel
theorem eSc_hangsStill_24 : decode prog_1_method_48_code 24 = .ok (.getfield 144, 3) := by decide +kernel
theorem eSc_hangsStill_27 : decode prog_1_method_48_code 27 = .ok (.invokevirtual 173, 3) := by decide +kernel
theorem eSc_hangsStill_30 : decode prog_1_method_48_code 30 = .ok (.ifCond .ne 7, 3) := by decide +kernel
theorem eSc_hangsStill_33 : decode prog_1_method_48_code 33 = .ok (.iconst 1, 1) := by decide +kernel
theorem eSc_hangsStill_34 : decode prog_1_method_48_code 34 = .ok (.goto 4, 3) := by decide +kernel
theorem eSc_hangsStill_37 : decode prog_1_method_48_code 37 = .ok (.iconst 0, 1) := by decide +kernel
theorem eSc_hangsStill_38 : decode prog_1_method_48_code 38 = .ok (.ireturn, 1) := by decide +kernel
theorem eSc_whyNot_0 : decode prog_1_method_49_code 0 = .ok (.aload_n 0, 1) := by decide +kernel
theorem eSc_whyNot_1 : decode prog_1_method_49_code 1 = .ok (.getfield 84, 3) := by decide +kernel
theorem eSc_whyNot_4 : decode prog_1_method_49_code 4 = .ok (.aload_n 0, 1) := by decide +kernel
theorem eSc_whyNot_5 : decode prog_1_method_49_code 5 = .ok (.getfield 26, 3) := by decide +kernel
theorem eSc_whyNot_8 : decode prog_1_method_49_code 8 = .ok (.getfield 144, 3) := by decide +kernel
theorem eSc_whyNot_11 : decode prog_1_method_49_code 11 = .ok (.invokevirtual 220, 3) := by decide +kernel
theorem eSc_whyNot_14 : decode prog_1_method_49_code 14 = .ok (.aload_n 0, 1) := by decide +kernel
theorem eSc_whyNot_15 : decode prog_1_method_49_code 15 = .ok (.getfield 84, 3) := by decide +kernel
theorem eSc_whyNot_18 : decode prog_1_method_49_code 18 = .ok (.iload_n 1, 1) := by decide +kernel
theorem eSc_whyNot_19 : decode prog_1_method_49_code 19 = .ok (.iconst 0, 1) := by decide +kernel
theorem eSc_whyNot_20 : decode prog_1_method_49_code 20 = .ok (.invokevirtual 223, 3) := by decide +kernel
theorem eSc_whyNot_23 : decode prog_1_method_49_code 23 = .ok (.aload_n 0, 1) := by decide +kernel
theorem eSc_whyNot_24 : decode prog_1_method_49_code 24 = .ok (.getfield 59, 3) := by decide +kernel
theorem eSc_whyNot_27 : decode prog_1_method_49_code 27 = .ok (.getfield 169, 3) := by decide +kernel
theorem eSc_whyNot_30 : decode prog_1_method_49_code 30 = .ok (.aload_n 0, 1) := by decide +kernel
theorem eSc_whyNot_31 : decode prog_1_method_49_code 31 = .ok (.getfield 84, 3) := by decide +kernel
theorem eSc_whyNot_34 : decode prog_1_method_49_code 34 = .ok (.invokevirtual 173, 3) := by decide +kernel
theorem eSc_whyNot_37 : decode prog_1_method_49_code 37 = .ok (.ireturn, 1) := by decide +kernel
theorem eSc_tickBy_0 : decode prog_1_method_50_code 0 = .ok (.aload_n 0, 1) := by decide +kernel
theorem eSc_tickBy_1 : decode prog_1_method_50_code 1 = .ok (.getfield 26, 3) := by decide +kernel
theorem eSc_tickBy_4 : decode prog_1_method_50_code 4 = .ok (.getfield 130, 3) := by decide +kernel
theorem eSc_tickBy_7 : decode prog_1_method_50_code 7 = .ok (.sipush 9999, 3) := by decide +kernel
theorem eSc_tickBy_10 : decode prog_1_method_50_code 10 = .ok (.if_icmp .lt 5, 3) := by decide +kernel
theorem eSc_tickBy_13 : decode prog_1_method_50_code 13 = .ok (.iconst 0, 1) := by decide +kernel
theorem eSc_tickBy_14 : decode prog_1_method_50_code 14 = .ok (.ireturn, 1) := by decide +kernel
theorem eSc_tickBy_15 : decode prog_1_method_50_code 15 = .ok (.aload_n 0, 1) := by decide +kernel
theorem eSc_tickBy_16 : decode prog_1_method_50_code 16 = .ok (.getfield 84, 3) := by decide +kernel
theorem eSc_tickBy_19 : decode prog_1_method_50_code 19 = .ok (.aload_n 0, 1) := by decide +kernel
theorem eSc_tickBy_20 : decode prog_1_method_50_code 20 = .ok (.getfield 26, 3) := by decide +kernel
theorem eSc_tickBy_23 : decode prog_1_method_50_code 23 = .ok (.getfield 144, 3) := by decide +kernel
theorem eSc_tickBy_26 : decode prog_1_method_50_code 26 = .ok (.invokevirtual 220, 3) := by decide +kernel
theorem eSc_tickBy_29 : decode prog_1_method_50_code 29 = .ok (.aload_n 0, 1) := by decide +kernel
theorem eSc_tickBy_30 : decode prog_1_method_50_code 30 = .ok (.getfield 84, 3) := by decide +kernel
theorem eSc_tickBy_33 : decode prog_1_method_50_code 33 = .ok (.iload_n 1, 1) := by decide +kernel
theorem eSc_tickBy_34 : decode prog_1_method_50_code 34 = .ok (.aload_n 0, 1) := by decide +kernel
theorem eSc_tickBy_35 : decode prog_1_method_50_code 35 = .ok (.getfield 19, 3) := by decide +kernel
theorem eSc_tickBy_38 : decode prog_1_method_50_code 38 = .ok (.aload_n 0, 1) := by decide +kernel
theorem eSc_tickBy_39 : decode prog_1_method_50_code 39 = .ok (.getfield 26, 3) := by decide +kernel
theorem eSc_tickBy_42 : decode prog_1_method_50_code 42 = .ok (.getfield 130, 3) := by decide +kernel
theorem eSc_tickBy_45 : decode prog_1_method_50_code 45 = .ok (.invokevirtual 215, 3) := by decide +kernel
theorem eSc_tickBy_48 : decode prog_1_method_50_code 48 = .ok (.invokevirtual 223, 3) := by decide +kernel
theorem eSc_tickBy_51 : decode prog_1_method_50_code 51 = .ok (.aload_n 0, 1) := by decide +kernel
theorem eSc_tickBy_52 : decode prog_1_method_50_code 52 = .ok (.getfield 59, 3) := by decide +kernel
theorem eSc_tickBy_55 : decode prog_1_method_50_code 55 = .ok (.getfield 169, 3) := by decide +kernel
theorem eSc_tickBy_58 : decode prog_1_method_50_code 58 = .ok (.aload_n 0, 1) := by decide +kernel
theorem eSc_tickBy_59 : decode prog_1_method_50_code 59 = .ok (.getfield 84, 3) := by decide +kernel
theorem eSc_tickBy_62 : decode prog_1_method_50_code 62 = .ok (.invokevirtual 173, 3) := by decide +kernel
theorem eSc_tickBy_65 : decode prog_1_method_50_code 65 = .ok (.ifCond .eq 5, 3) := by decide +kernel
theorem eSc_tickBy_68 : decode prog_1_method_50_code 68 = .ok (.iconst 0, 1) := by decide +kernel
theorem eSc_tickBy_69 : decode prog_1_method_50_code 69 = .ok (.ireturn, 1) := by decide +kernel
theorem eSc_tickBy_70 : decode prog_1_method_50_code 70 = .ok (.aload_n 0, 1) := by decide +kernel
theorem eSc_tickBy_71 : decode prog_1_method_50_code 71 = .ok (.getfield 44, 3) := by decide +kernel
theorem eSc_tickBy_74 : decode prog_1_method_50_code 74 = .ok (.aload_n 0, 1) := by decide +kernel
theorem eSc_tickBy_75 : decode prog_1_method_50_code 75 = .ok (.getfield 26, 3) := by decide +kernel
theorem eSc_tickBy_78 : decode prog_1_method_50_code 78 = .ok (.invokevirtual 202, 3) := by decide +kernel
theorem eSc_tickBy_81 : decode prog_1_method_50_code 81 = .ok (.aload_n 0, 1) := by decide +kernel
theorem eSc_tickBy_82 : decode prog_1_method_50_code 82 = .ok (.getfield 37, 3) := by decide +kernel
theorem eSc_tickBy_85 : decode prog_1_method_50_code 85 = .ok (.iload_n 1, 1) := by decide +kernel
theorem eSc_tickBy_86 : decode prog_1_method_50_code 86 = .ok (.aload_n 0, 1) := by decide +kernel
theorem eSc_tickBy_87 : decode prog_1_method_50_code 87 = .ok (.getfield 26, 3) := by decide +kernel
theorem eSc_tickBy_90 : decode prog_1_method_50_code 90 = .ok (.getfield 130, 3) := by decide +kernel
theorem eSc_tickBy_93 : decode prog_1_method_50_code 93 = .ok (.invokevirtual 356, 3) := by decide +kernel
theorem eSc_tickBy_96 : decode prog_1_method_50_code 96 = .ok (.aload_n 0, 1) := by decide +kernel
theorem eSc_tickBy_97 : decode prog_1_method_50_code 97 = .ok (.getfield 26, 3) := by decide +kernel
theorem eSc_tickBy_100 : decode prog_1_method_50_code 100 = .ok (.getfield 144, 3) := by decide +kernel
theorem eSc_tickBy_103 : decode prog_1_method_50_code 103 = .ok (.aload_n 0, 1) := by decide +kernel
theorem eSc_tickBy_104 : decode prog_1_method_50_code 104 = .ok (.getfield 84, 3) := by decide +kernel
theorem eSc_tickBy_107 : decode prog_1_method_50_code 107 = .ok (.invokevirtual 220, 3) := by decide +kernel
theorem eSc_tickBy_110 : decode prog_1_method_50_code 110 = .ok (.aload_n 0, 1) := by decide +kernel
theorem eSc_tickBy_111 : decode prog_1_method_50_code 111 = .ok (.getfield 26, 3) := by decide +kernel
theorem eSc_tickBy_114 : decode prog_1_method_50_code 114 = .ok (.dup, 1) := by decide +kernel
theorem eSc_tickBy_115 : decode prog_1_method_50_code 115 = .ok (.getfield 130, 3) := by decide +kernel
theorem eSc_tickBy_118 : decode prog_1_method_50_code 118 = .ok (.iconst 1, 1) := by decide +kernel
theorem eSc_tickBy_119 : decode prog_1_method_50_code 119 = .ok (.iadd, 1) := by decide +kernel
theorem eSc_tickBy_120 : decode prog_1_method_50_code 120 = .ok (.putfield 130, 3) := by decide +kernel
theorem eSc_tickBy_123 : decode prog_1_method_50_code 123 = .ok (.iload_n 2, 1) := by decide +kernel
theorem eSc_tickBy_124 : decode prog_1_method_50_code 124 = .ok (.ifCond .eq 16, 3) := by decide +kernel
theorem eSc_tickBy_127 : decode prog_1_method_50_code 127 = .ok (.aload_n 0, 1) := by decide +kernel
theorem eSc_tickBy_128 : decode prog_1_method_50_code 128 = .ok (.getfield 26, 3) := by decide +kernel
theorem eSc_tickBy_131 : decode prog_1_method_50_code 131 = .ok (.dup, 1) := by decide +kernel
theorem eSc_tickBy_132 : decode prog_1_method_50_code 132 = .ok (.getfield 350, 3) := by decide +kernel
theorem eSc_tickBy_135 : decode prog_1_method_50_code 135 = .ok (.iconst 1, 1) := by decide +kernel
theorem eSc_tickBy_136 : decode prog_1_method_50_code 136 = .ok (.iadd, 1) := by decide +kernel
theorem eSc_tickBy_137 : decode prog_1_method_50_code 137 = .ok (.putfield 350, 3) := by decide +kernel
theorem eSc_tickBy_140 : decode prog_1_method_50_code 140 = .ok (.aload_n 0, 1) := by decide +kernel
theorem eSc_tickBy_141 : decode prog_1_method_50_code 141 = .ok (.getfield 59, 3) := by decide +kernel
theorem eSc_tickBy_144 : decode prog_1_method_50_code 144 = .ok (.invokevirtual 336, 3) := by decide +kernel
theorem eSc_tickBy_147 : decode prog_1_method_50_code 147 = .ok (.iconst 1, 1) := by decide +kernel
theorem eSc_tickBy_148 : decode prog_1_method_50_code 148 = .ok (.ireturn, 1) := by decide +kernel
theorem eSc_flowOn_0 : decode prog_1_method_51_code 0 = .ok (.aload_n 0, 1) := by decide +kernel
theorem eSc_flowOn_1 : decode prog_1_method_51_code 1 = .ok (.getfield 19, 3) := by decide +kernel
theorem eSc_flowOn_4 : decode prog_1_method_51_code 4 = .ok (.aload_n 0, 1) := by decide +kernel
theorem eSc_flowOn_5 : decode prog_1_method_51_code 5 = .ok (.getfield 26, 3) := by decide +kernel
theorem eSc_flowOn_8 : decode prog_1_method_51_code 8 = .ok (.getfield 350, 3) := by decide +kernel
theorem eSc_flowOn_11 : decode prog_1_method_51_code 11 = .ok (.invokevirtual 359, 3) := by decide +kernel
theorem eSc_flowOn_14 : decode prog_1_method_51_code 14 = .ok (.istore_n 1, 1) := by decide +kernel
theorem eSc_flowOn_15 : decode prog_1_method_51_code 15 = .ok (.iload_n 1, 1) := by decide +kernel
theorem eSc_flowOn_16 : decode prog_1_method_51_code 16 = .ok (.bipush 12, 2) := by decide +kernel
theorem eSc_flowOn_18 : decode prog_1_method_51_code 18 = .ok (.if_icmp .ge 5, 3) := by decide +kernel
theorem eSc_flowOn_21 : decode prog_1_method_51_code 21 = .ok (.iconst 0, 1) := by decide +kernel
theorem eSc_flowOn_22 : decode prog_1_method_51_code 22 = .ok (.ireturn, 1) := by decide +kernel
theorem eSc_flowOn_23 : decode prog_1_method_51_code 23 = .ok (.iload_n 1, 1) := by decide +kernel
theorem eSc_flowOn_24 : decode prog_1_method_51_code 24 = .ok (.bipush 12, 2) := by decide +kernel
theorem eSc_flowOn_26 : decode prog_1_method_51_code 26 = .ok (.isub, 1) := by decide +kernel
theorem eSc_flowOn_27 : decode prog_1_method_51_code 27 = .ok (.istore_n 2, 1) := by decide +kernel
theorem eSc_flowOn_28 : decode prog_1_method_51_code 28 = .ok (.iload_n 2, 1) := by decide +kernel
theorem eSc_flowOn_29 : decode prog_1_method_51_code 29 = .ok (.getstatic 362, 3) := by decide +kernel
theorem eSc_flowOn_32 : decode prog_1_method_51_code 32 = .ok (.arraylength, 1) := by decide +kernel
theorem eSc_flowOn_33 : decode prog_1_method_51_code 33 = .ok (.if_icmp .ge 11, 3) := by decide +kernel
theorem eSc_flowOn_36 : decode prog_1_method_51_code 36 = .ok (.getstatic 362, 3) := by decide +kernel
theorem eSc_flowOn_39 : decode prog_1_method_51_code 39 = .ok (.iload_n 2, 1) := by decide +kernel
theorem eSc_flowOn_40 : decode prog_1_method_51_code 40 = .ok (.iaload, 1) := by decide +kernel
theorem eSc_flowOn_41 : decode prog_1_method_51_code 41 = .ok (.goto 17, 3) := by decide +kernel
theorem eSc_flowOn_44 : decode prog_1_method_51_code 44 = .ok (.aload_n 0, 1) := by decide +kernel
theorem eSc_flowOn_45 : decode prog_1_method_51_code 45 = .ok (.getfield 59, 3) := by decide +kernel
theorem eSc_flowOn_48 : decode prog_1_method_51_code 48 = .ok (.aload_n 0, 1) := by decide +kernel
theorem eSc_flowOn_49 : decode prog_1_method_51_code 49 = .ok (.getfield 26, 3) := by decide +kernel
theorem eSc_flowOn_52 : decode prog_1_method_51_code 52 = .ok (.getfield 144, 3) := by decide +kernel
theorem eSc_flowOn_55 : decode prog_1_method_51_code 55 = .ok (.invokevirtual 239, 3) := by decide +kernel
theorem eSc_flowOn_58 : decode prog_1_method_51_code 58 = .ok (.istore_n 3, 1) := by decide +kernel
theorem eSc_flowOn_59 : decode prog_1_method_51_code 59 = .ok (.aload_n 0, 1) := by decide +kernel
theorem eSc_flowOn_60 : decode prog_1_method_51_code 60 = .ok (.iload_n 3, 1) := by decide +kernel
theorem eSc_flowOn_61 : decode prog_1_method_51_code 61 = .ok (.iconst 1, 1) := by decide +kernel
theorem eSc_flowOn_62 : decode prog_1_method_51_code 62 = .ok (.invokevirtual 126, 3) := by decide +kernel
theorem eSc_flowOn_65 : decode prog_1_method_51_code 65 = .ok (.ireturn, 1) := by decide +kernel
theorem eSc_bearsWind_0 : decode prog_1_method_52_code 0 = .ok (.aload_n 0, 1) := by decide +kernel
theorem eSc_bearsWind_1 : decode prog_1_method_52_code 1 = .ok (.getfield 84, 3) := by decide +kernel
theorem eSc_bearsWind_4 : decode prog_1_method_52_code 4 = .ok (.aload_n 0, 1) := by decide +kernel
theorem eSc_bearsWind_5 : decode prog_1_method_52_code 5 = .ok (.getfield 26, 3) := by decide +kernel
theorem eSc_bearsWind_8 : decode prog_1_method_52_code 8 = .ok (.getfield 144, 3) := by decide +kernel
theorem eSc_bearsWind_11 : decode prog_1_method_52_code 11 = .ok (.invokevirtual 220, 3) := by decide +kernel
theorem eSc_bearsWind_14 : decode prog_1_method_52_code 14 = .ok (.aload_n 0, 1) := by decide +kernel
theorem eSc_bearsWind_15 : decode prog_1_method_52_code 15 = .ok (.getfield 84, 3) := by decide +kernel
theorem eSc_bearsWind_18 : decode prog_1_method_52_code 18 = .ok (.iconst 4, 1) := by decide +kernel
theorem eSc_bearsWind_19 : decode prog_1_method_52_code 19 = .ok (.iload_n 1, 1) := by decide +kernel
theorem eSc_bearsWind_20 : decode prog_1_method_52_code 20 = .ok (.invokevirtual 223, 3) := by decide +kernel
theorem eSc_bearsWind_23 : decode prog_1_method_52_code 23 = .ok (.aload_n 0, 1) := by decide +kernel
theorem eSc_bearsWind_24 : decode prog_1_method_52_code 24 = .ok (.getfield 59, 3) := by decide +kernel
theorem eSc_bearsWind_27 : decode prog_1_method_52_code 27 = .ok (.aload_n 0, 1) := by decide +kernel
theorem eSc_bearsWind_28 : decode prog_1_method_52_code 28 = .ok (.getfield 84, 3) := by decide +kernel
theorem eSc_bearsWind_31 : decode prog_1_method_52_code 31 = .ok (.invokevirtual 236, 3) := by decide +kernel
theorem eSc_bearsWind_34 : decode prog_1_method_52_code 34 = .ok (.ifCond .lt 7, 3) := by decide +kernel
theorem eSc_bearsWind_37 : decode prog_1_method_52_code 37 = .ok (.iconst 1, 1) := by decide +kernel
theorem eSc_bearsWind_38 : decode prog_1_method_52_code 38 = .ok (.goto 4, 3) := by decide +kernel
theorem eSc_bearsWind_41 : decode prog_1_method_52_code 41 = .ok (.iconst 0, 1) := by decide +kernel
theorem eSc_bearsWind_42 : decode prog_1_method_52_code 42 = .ok (.ireturn, 1) := by decide +kernel
theorem eSc_chanceTick_0 : decode prog_1_method_53_code 0 = .ok (.aload_n 0, 1) := by decide +kernel
theorem eSc_chanceTick_1 : decode prog_1_method_53_code 1 = .ok (.getfield 59, 3) := by decide +kernel
theorem eSc_chanceTick_4 : decode prog_1_method_53_code 4 = .ok (.getfield 365, 3) := by decide +kernel
theorem eSc_chanceTick_7 : decode prog_1_method_53_code 7 = .ok (.aload_n 0, 1) := by decide +kernel
theorem eSc_chanceTick_8 : decode prog_1_method_53_code 8 = .ok (.getfield 84, 3) := by decide +kernel
theorem eSc_chanceTick_11 : decode prog_1_method_53_code 11 = .ok (.invokevirtual 220, 3) := by decide +kernel
theorem eSc_chanceTick_14 : decode prog_1_method_53_code 14 = .ok (.aload_n 0, 1) := by decide +kernel
theorem eSc_chanceTick_15 : decode prog_1_method_53_code 15 = .ok (.getfield 59, 3) := by decide +kernel
theorem eSc_chanceTick_18 : decode prog_1_method_53_code 18 = .ok (.getfield 365, 3) := by decide +kernel
theorem eSc_chanceTick_21 : decode prog_1_method_53_code 21 = .ok (.aload_n 0, 1) := by decide +kernel
theorem eSc_chanceTick_22 : decode prog_1_method_53_code 22 = .ok (.getfield 59, 3) := by decide +kernel
theorem eSc_chanceTick_25 : decode prog_1_method_53_code 25 = .ok (.aload_n 0, 1) := by decide +kernel
theorem eSc_chanceTick_26 : decode prog_1_method_53_code 26 = .ok (.getfield 84, 3) := by decide +kernel
theorem eSc_chanceTick_29 : decode prog_1_method_53_code 29 = .ok (.invokevirtual 239, 3) := by decide +kernel
theorem eSc_chanceTick_32 : decode prog_1_method_53_code 32 = .ok (.iload_n 1, 1) := by decide +kernel
theorem eSc_chanceTick_33 : decode prog_1_method_53_code 33 = .ok (.invokevirtual 223, 3) := by decide +kernel
theorem eSc_chanceTick_36 : decode prog_1_method_53_code 36 = .ok (.aload_n 0, 1) := by decide +kernel
theorem eSc_chanceTick_37 : decode prog_1_method_53_code 37 = .ok (.getfield 59, 3) := by decide +kernel
theorem eSc_chanceTick_40 : decode prog_1_method_53_code 40 = .ok (.getfield 169, 3) := by decide +kernel
theorem eSc_chanceTick_43 : decode prog_1_method_53_code 43 = .ok (.aload_n 0, 1) := by decide +kernel
theorem eSc_chanceTick_44 : decode prog_1_method_53_code 44 = .ok (.getfield 59, 3) := by decide +kernel
theorem eSc_chanceTick_47 : decode prog_1_method_53_code 47 = .ok (.getfield 365, 3) := by decide +kernel
theorem eSc_chanceTick_50 : decode prog_1_method_53_code 50 = .ok (.invokevirtual 173, 3) := by decide +kernel
theorem eSc_chanceTick_53 : decode prog_1_method_53_code 53 = .ok (.ifCond .eq 5, 3) := by decide +kernel
theorem eSc_chanceTick_56 : decode prog_1_method_53_code 56 = .ok (.iconst 0, 1) := by decide +kernel
theorem eSc_chanceTick_57 : decode prog_1_method_53_code 57 = .ok (.ireturn, 1) := by decide +kernel
theorem eSc_chanceTick_58 : decode prog_1_method_53_code 58 = .ok (.aload_n 0, 1) := by decide +kernel
theorem eSc_chanceTick_59 : decode prog_1_method_53_code 59 = .ok (.getfield 84, 3) := by decide +kernel
theorem eSc_chanceTick_62 : decode prog_1_method_53_code 62 = .ok (.aload_n 0, 1) := by decide +kernel
theorem eSc_chanceTick_63 : decode prog_1_method_53_code 63 = .ok (.getfield 59, 3) := by decide +kernel
theorem eSc_chanceTick_66 : decode prog_1_method_53_code 66 = .ok (.getfield 365, 3) := by decide +kernel
theorem eSc_chanceTick_69 : decode prog_1_method_53_code 69 = .ok (.invokevirtual 220, 3) := by decide +kernel
theorem eSc_chanceTick_72 : decode prog_1_method_53_code 72 = .ok (.iconst 1, 1) := by decide +kernel
theorem eSc_chanceTick_73 : decode prog_1_method_53_code 73 = .ok (.ireturn, 1) := by decide +kernel
theorem eSc_isPulse_0 : decode prog_1_method_54_code 0 = .ok (.iload_n 0, 1) := by decide +kernel
theorem eSc_isPulse_1 : decode prog_1_method_54_code 1 = .ok (.iconst 1, 1) := by decide +kernel
theorem eSc_isPulse_2 : decode prog_1_method_54_code 2 = .ok (.if_icmp .lt 25, 3) := by decide +kernel
theorem eSc_isPulse_5 : decode prog_1_method_54_code 5 = .ok (.iload_n 0, 1) := by decide +kernel
theorem eSc_isPulse_6 : decode prog_1_method_54_code 6 = .ok (.bipush 6, 2) := by decide +kernel
theorem eSc_isPulse_8 : decode prog_1_method_54_code 8 = .ok (.if_icmp .gt 19, 3) := by decide +kernel
theorem eSc_isPulse_11 : decode prog_1_method_54_code 11 = .ok (.iload_n 1, 1) := by decide +kernel
theorem eSc_isPulse_12 : decode prog_1_method_54_code 12 = .ok (.bipush (-8), 2) := by decide +kernel
theorem eSc_isPulse_14 : decode prog_1_method_54_code 14 = .ok (.if_icmp .lt 13, 3) := by decide +kernel
theorem eSc_isPulse_17 : decode prog_1_method_54_code 17 = .ok (.iload_n 1, 1) := by decide +kernel
theorem eSc_isPulse_18 : decode prog_1_method_54_code 18 = .ok (.bipush 8, 2) := by decide +kernel
theorem eSc_isPulse_20 : decode prog_1_method_54_code 20 = .ok (.if_icmp .gt 7, 3) := by decide +kernel
theorem eSc_isPulse_23 : decode prog_1_method_54_code 23 = .ok (.iconst 1, 1) := by decide +kernel
theorem eSc_isPulse_24 : decode prog_1_method_54_code 24 = .ok (.goto 4, 3) := by decide +kernel
theorem eSc_isPulse_27 : decode prog_1_method_54_code 27 = .ok (.iconst 0, 1) := by decide +kernel
theorem eSc_isPulse_28 : decode prog_1_method_54_code 28 = .ok (.ireturn, 1) := by decide +kernel
theorem eSc_turnAt_0 : decode prog_1_method_55_code 0 = .ok (.iload_n 0, 1) := by decide +kernel
theorem eSc_turnAt_1 : decode prog_1_method_55_code 1 = .ok (.iconst 2, 1) := by decide +kernel
theorem eSc_turnAt_2 : decode prog_1_method_55_code 2 = .ok (.if_icmp .gt 5, 3) := by decide +kernel
theorem eSc_turnAt_5 : decode prog_1_method_55_code 5 = .ok (.iconst (-1), 1) := by decide +kernel
theorem eSc_turnAt_6 : decode prog_1_method_55_code 6 = .ok (.ireturn, 1) := by decide +kernel
theorem eSc_turnAt_7 : decode prog_1_method_55_code 7 = .ok (.iload_n 0, 1) := by decide +kernel
theorem eSc_turnAt_8 : decode prog_1_method_55_code 8 = .ok (.iconst 4, 1) := by decide +kernel
theorem eSc_turnAt_9 : decode prog_1_method_55_code 9 = .ok (.if_icmp .gt 7, 3) := by decide +kernel
theorem eSc_turnAt_12 : decode prog_1_method_55_code 12 = .ok (.iconst 0, 1) := by decide +kernel
theorem eSc_turnAt_13 : decode prog_1_method_55_code 13 = .ok (.goto 4, 3) := by decide +kernel
theorem eSc_turnAt_16 : decode prog_1_method_55_code 16 = .ok (.iconst 1, 1) := by decide +kernel
theorem eSc_turnAt_17 : decode prog_1_method_55_code 17 = .ok (.ireturn, 1) := by decide +kernel
theorem eSc_countPulses_0 : decode prog_1_method_56_code 0 = .ok (.iload_n 0, 1) := by decide +kernel
theorem eSc_countPulses_1 : decode prog_1_method_56_code 1 = .ok (.ifCond .gt 22, 3) := by decide +kernel
theorem eSc_countPulses_4 : decode prog_1_method_56_code 4 = .ok (.iload_n 2, 1) := by decide +kernel
theorem eSc_countPulses_5 : decode prog_1_method_56_code 5 = .ok (.ifCond .ne 16, 3) := by decide +kernel
theorem eSc_countPulses_8 : decode prog_1_method_56_code 8 = .ok (.iload_n 3, 1) := by decide +kernel
theorem eSc_countPulses_9 : decode prog_1_method_56_code 9 = .ok (.ifCond .ne 12, 3) := by decide +kernel
theorem eSc_countPulses_12 : decode prog_1_method_56_code 12 = .ok (.iload 4, 2) := by decide +kernel
theorem eSc_countPulses_14 : decode prog_1_method_56_code 14 = .ok (.ifCond .ne 7, 3) := by decide +kernel
theorem eSc_countPulses_17 : decode prog_1_method_56_code 17 = .ok (.iconst 1, 1) := by decide +kernel
theorem eSc_countPulses_18 : decode prog_1_method_56_code 18 = .ok (.goto 4, 3) := by decide +kernel
theorem eSc_countPulses_21 : decode prog_1_method_56_code 21 = .ok (.iconst 0, 1) := by decide +kernel
theorem eSc_countPulses_22 : decode prog_1_method_56_code 22 = .ok (.ireturn, 1) := by decide +kernel
theorem eSc_countPulses_23 : decode prog_1_method_56_code 23 = .ok (.iload_n 2, 1) := by decide +kernel
theorem eSc_countPulses_24 : decode prog_1_method_56_code 24 = .ok (.invokestatic 321, 3) := by decide +kernel
theorem eSc_countPulses_27 : decode prog_1_method_56_code 27 = .ok (.iload_n 0, 1) := by decide +kernel
theorem eSc_countPulses_28 : decode prog_1_method_56_code 28 = .ok (.if_icmp .le 5, 3) := by decide +kernel
theorem eSc_countPulses_31 : decode prog_1_method_56_code 31 = .ok (.iconst 0, 1) := by decide +kernel
theorem eSc_countPulses_32 : decode prog_1_method_56_code 32 = .ok (.ireturn, 1) := by decide +kernel
theorem eSc_countPulses_33 : decode prog_1_method_56_code 33 = .ok (.iconst 0, 1) := by decide +kernel
theorem eSc_countPulses_34 : decode prog_1_method_56_code 34 = .ok (.istore 5, 2) := by decide +kernel
theorem eSc_countPulses_36 : decode prog_1_method_56_code 36 = .ok (.iconst (-1), 1) := by decide +kernel
theorem eSc_countPulses_37 : decode prog_1_method_56_code 37 = .ok (.istore 6, 2) := by decide +kernel
theorem eSc_countPulses_39 : decode prog_1_method_56_code 39 = .ok (.iload 6, 2) := by decide +kernel
theorem eSc_countPulses_41 : decode prog_1_method_56_code 41 = .ok (.iconst 1, 1) := by decide +kernel
theorem eSc_countPulses_42 : decode prog_1_method_56_code 42 = .ok (.if_icmp .gt 35, 3) := by decide +kernel
theorem eSc_countPulses_45 : decode prog_1_method_56_code 45 = .ok (.iload 5, 2) := by decide +kernel
theorem eSc_countPulses_47 : decode prog_1_method_56_code 47 = .ok (.iload_n 0, 1) := by decide +kernel
theorem eSc_countPulses_48 : decode prog_1_method_56_code 48 = .ok (.iconst 1, 1) := by decide +kernel
theorem eSc_countPulses_49 : decode prog_1_method_56_code 49 = .ok (.isub, 1) := by decide +kernel
theorem eSc_countPulses_50 : decode prog_1_method_56_code 50 = .ok (.iload_n 1, 1) := by decide +kernel
theorem eSc_countPulses_51 : decode prog_1_method_56_code 51 = .ok (.iload_n 2, 1) := by decide +kernel
theorem eSc_countPulses_52 : decode prog_1_method_56_code 52 = .ok (.iload 6, 2) := by decide +kernel
theorem eSc_countPulses_54 : decode prog_1_method_56_code 54 = .ok (.isub, 1) := by decide +kernel
theorem eSc_countPulses_55 : decode prog_1_method_56_code 55 = .ok (.iload_n 1, 1) := by decide +kernel
theorem eSc_countPulses_56 : decode prog_1_method_56_code 56 = .ok (.iload_n 3, 1) := by decide +kernel
theorem eSc_countPulses_57 : decode prog_1_method_56_code 57 = .ok (.imul, 1) := by decide +kernel
theorem eSc_countPulses_58 : decode prog_1_method_56_code 58 = .ok (.iload 4, 2) := by decide +kernel
theorem eSc_countPulses_60 : decode prog_1_method_56_code 60 = .ok (.isub, 1) := by decide +kernel
theorem eSc_countPulses_61 : decode prog_1_method_56_code 61 = .ok (.iload 6, 2) := by decide +kernel
theorem eSc_countPulses_63 : decode prog_1_method_56_code 63 = .ok (.isub, 1) := by decide +kernel
theorem eSc_countPulses_64 : decode prog_1_method_56_code 64 = .ok (.iload_n 3, 1) := by decide +kernel
theorem eSc_countPulses_65 : decode prog_1_method_56_code 65 = .ok (.invokestatic 290, 3) := by decide +kernel
theorem eSc_countPulses_68 : decode prog_1_method_56_code 68 = .ok (.iadd, 1) := by decide +kernel
theorem eSc_countPulses_69 : decode prog_1_method_56_code 69 = .ok (.istore 5, 2) := by decide +kernel
theorem eSc_countPulses_71 : decode prog_1_method_56_code 71 = .ok (.iinc 6 1, 3) := by decide +kernel
theorem eSc_countPulses_74 : decode prog_1_method_56_code 74 = .ok (.goto (-35), 3) := by decide +kernel
theorem eSc_countPulses_77 : decode prog_1_method_56_code 77 = .ok (.iload 5, 2) := by decide +kernel
theorem eSc_countPulses_79 : decode prog_1_method_56_code 79 = .ok (.ireturn, 1) := by decide +kernel
theorem eSc_copyRow_0 : decode prog_1_method_57_code 0 = .ok (.iconst 0, 1) := by decide +kernel
theorem eSc_copyRow_1 : decode prog_1_method_57_code 1 = .ok (.istore_n 2, 1) := by decide +kernel
theorem eSc_copyRow_2 : decode prog_1_method_57_code 2 = .ok (.iload_n 2, 1) := by decide +kernel
theorem eSc_copyRow_3 : decode prog_1_method_57_code 3 = .ok (.aload_n 0, 1) := by decide +kernel
theorem eSc_copyRow_4 : decode prog_1_method_57_code 4 = .ok (.arraylength, 1) := by decide +kernel
theorem eSc_copyRow_5 : decode prog_1_method_57_code 5 = .ok (.if_icmp .ge 21, 3) := by decide +kernel
theorem eSc_copyRow_8 : decode prog_1_method_57_code 8 = .ok (.iload_n 2, 1) := by decide +kernel
theorem eSc_copyRow_9 : decode prog_1_method_57_code 9 = .ok (.aload_n 1, 1) := by decide +kernel
theorem eSc_copyRow_10 : decode prog_1_method_57_code 10 = .ok (.arraylength, 1) := by decide +kernel
theorem eSc_copyRow_11 : decode prog_1_method_57_code 11 = .ok (.if_icmp .ge 15, 3) := by decide +kernel
theorem eSc_copyRow_14 : decode prog_1_method_57_code 14 = .ok (.aload_n 1, 1) := by decide +kernel
theorem eSc_copyRow_15 : decode prog_1_method_57_code 15 = .ok (.iload_n 2, 1) := by decide +kernel
theorem eSc_copyRow_16 : decode prog_1_method_57_code 16 = .ok (.aload_n 0, 1) := by decide +kernel
theorem eSc_copyRow_17 : decode prog_1_method_57_code 17 = .ok (.iload_n 2, 1) := by decide +kernel
theorem eSc_copyRow_18 : decode prog_1_method_57_code 18 = .ok (.iaload, 1) := by decide +kernel
theorem eSc_copyRow_19 : decode prog_1_method_57_code 19 = .ok (.iastore, 1) := by decide +kernel
theorem eSc_copyRow_20 : decode prog_1_method_57_code 20 = .ok (.iinc 2 1, 3) := by decide +kernel
theorem eSc_copyRow_23 : decode prog_1_method_57_code 23 = .ok (.goto (-21), 3) := by decide +kernel
theorem eSc_copyRow_26 : decode prog_1_method_57_code 26 = .ok (.return_, 1) := by decide +kernel
theorem eMd_init_0 : decode prog_14_method_1_code 0 = .ok (.aload_n 0, 1) := by decide +kernel
theorem eMd_init_1 : decode prog_14_method_1_code 1 = .ok (.invokespecial 1, 3) := by decide +kernel
theorem eMd_init_4 : decode prog_14_method_1_code 4 = .ok (.aload_n 0, 1) := by decide +kernel
theorem eMd_init_5 : decode prog_14_method_1_code 5 = .ok (.sipush 700, 3) := by decide +kernel
theorem eMd_init_8 : decode prog_14_method_1_code 8 = .ok (.newarray .int, 2) := by decide +kernel
theorem eMd_init_10 : decode prog_14_method_1_code 10 = .ok (.putfield 7, 3) := by decide +kernel
theorem eMd_init_13 : decode prog_14_method_1_code 13 = .ok (.aload_n 0, 1) := by decide +kernel
theorem eMd_init_14 : decode prog_14_method_1_code 14 = .ok (.bipush 26, 2) := by decide +kernel
theorem eMd_init_16 : decode prog_14_method_1_code 16 = .ok (.newarray .int, 2) := by decide +kernel
theorem eMd_init_18 : decode prog_14_method_1_code 18 = .ok (.putfield 13, 3) := by decide +kernel
theorem eMd_init_21 : decode prog_14_method_1_code 21 = .ok (.aload_n 0, 1) := by decide +kernel
theorem eMd_init_22 : decode prog_14_method_1_code 22 = .ok (.bipush 18, 2) := by decide +kernel
theorem eMd_init_24 : decode prog_14_method_1_code 24 = .ok (.newarray .boolean, 2) := by decide +kernel
theorem eMd_init_26 : decode prog_14_method_1_code 26 = .ok (.putfield 16, 3) := by decide +kernel
theorem eMd_init_29 : decode prog_14_method_1_code 29 = .ok (.aload_n 0, 1) := by decide +kernel
theorem eMd_init_30 : decode prog_14_method_1_code 30 = .ok (.bipush 12, 2) := by decide +kernel
theorem eMd_init_32 : decode prog_14_method_1_code 32 = .ok (.newarray .int, 2) := by decide +kernel
theorem eMd_init_34 : decode prog_14_method_1_code 34 = .ok (.putfield 20, 3) := by decide +kernel
theorem eMd_init_37 : decode prog_14_method_1_code 37 = .ok (.aload_n 0, 1) := by decide +kernel
theorem eMd_init_38 : decode prog_14_method_1_code 38 = .ok (.bipush 12, 2) := by decide +kernel
theorem eMd_init_40 : decode prog_14_method_1_code 40 = .ok (.newarray .int, 2) := by decide +kernel
theorem eMd_init_42 : decode prog_14_method_1_code 42 = .ok (.putfield 23, 3) := by decide +kernel
theorem eMd_init_45 : decode prog_14_method_1_code 45 = .ok (.aload_n 0, 1) := by decide +kernel
theorem eMd_init_46 : decode prog_14_method_1_code 46 = .ok (.bipush 12, 2) := by decide +kernel
theorem eMd_init_48 : decode prog_14_method_1_code 48 = .ok (.newarray .int, 2) := by decide +kernel
theorem eMd_init_50 : decode prog_14_method_1_code 50 = .ok (.putfield 26, 3) := by decide +kernel
theorem eMd_init_53 : decode prog_14_method_1_code 53 = .ok (.aload_n 0, 1) := by decide +kernel
theorem eMd_init_54 : decode prog_14_method_1_code 54 = .ok (.bipush 12, 2) := by decide +kernel
theorem eMd_init_56 : decode prog_14_method_1_code 56 = .ok (.newarray .int, 2) := by decide +kernel
theorem eMd_init_58 : decode prog_14_method_1_code 58 = .ok (.putfield 29, 3) := by decide +kernel
theorem eMd_init_61 : decode prog_14_method_1_code 61 = .ok (.aload_n 0, 1) := by decide +kernel
theorem eMd_init_62 : decode prog_14_method_1_code 62 = .ok (.bipush 12, 2) := by decide +kernel
theorem eMd_init_64 : decode prog_14_method_1_code 64 = .ok (.newarray .int, 2) := by decide +kernel
theorem eMd_init_66 : decode prog_14_method_1_code 66 = .ok (.putfield 32, 3) := by decide +kernel
theorem eMd_init_69 : decode prog_14_method_1_code 69 = .ok (.aload_n 0, 1) := by decide +kernel
theorem eMd_init_70 : decode prog_14_method_1_code 70 = .ok (.bipush 12, 2) := by decide +kernel
theorem eMd_init_72 : decode prog_14_method_1_code 72 = .ok (.newarray .int, 2) := by decide +kernel
theorem eMd_init_74 : decode prog_14_method_1_code 74 = .ok (.putfield 35, 3) := by decide +kernel
theorem eMd_init_77 : decode prog_14_method_1_code 77 = .ok (.aload_n 0, 1) := by decide +kernel
theorem eMd_init_78 : decode prog_14_method_1_code 78 = .ok (.bipush 16, 2) := by decide +kernel
theorem eMd_init_80 : decode prog_14_method_1_code 80 = .ok (.newarray .int, 2) := by decide +kernel
theorem eMd_init_82 : decode prog_14_method_1_code 82 = .ok (.putfield 38, 3) := by decide +kernel
theorem eMd_init_85 : decode prog_14_method_1_code 85 = .ok (.aload_n 0, 1) := by decide +kernel
theorem eMd_init_86 : decode prog_14_method_1_code 86 = .ok (.bipush 16, 2) := by decide +kernel
theorem eMd_init_88 : decode prog_14_method_1_code 88 = .ok (.newarray .int, 2) := by decide +kernel
theorem eMd_init_90 : decode prog_14_method_1_code 90 = .ok (.putfield 41, 3) := by decide +kernel
theorem eMd_init_93 : decode prog_14_method_1_code 93 = .ok (.aload_n 0, 1) := by decide +kernel
theorem eMd_init_94 : decode prog_14_method_1_code 94 = .ok (.bipush 32, 2) := by decide +kernel
theorem eMd_init_96 : decode prog_14_method_1_code 96 = .ok (.newarray .int, 2) := by decide +kernel
theorem eMd_init_98 : decode prog_14_method_1_code 98 = .ok (.putfield 44, 3) := by decide +kernel
theorem eMd_init_101 : decode prog_14_method_1_code 101 = .ok (.aload_n 0, 1) := by decide +kernel
theorem eMd_init_102 : decode prog_14_method_1_code 102 = .ok (.bipush 32, 2) := by decide +kernel
theorem eMd_init_104 : decode prog_14_method_1_code 104 = .ok (.newarray .int, 2) := by decide +kernel
theorem eMd_init_106 : decode prog_14_method_1_code 106 = .ok (.putfield 47, 3) := by decide +kernel
theorem eMd_init_109 : decode prog_14_method_1_code 109 = .ok (.aload_n 0, 1) := by decide +kernel
theorem eMd_init_110 : decode prog_14_method_1_code 110 = .ok (.bipush 8, 2) := by decide +kernel
theorem eMd_init_112 : decode prog_14_method_1_code 112 = .ok (.newarray .int, 2) := by decide +kernel
theorem eMd_init_114 : decode prog_14_method_1_code 114 = .ok (.putfield 50, 3) := by decide +kernel
theorem eMd_init_117 : decode prog_14_method_1_code 117 = .ok (.aload_n 0, 1) := by decide +kernel
theorem eMd_init_118 : decode prog_14_method_1_code 118 = .ok (.bipush 8, 2) := by decide +kernel
theorem eMd_init_120 : decode prog_14_method_1_code 120 = .ok (.newarray .int, 2) := by decide +kernel
theorem eMd_init_122 : decode prog_14_method_1_code 122 = .ok (.putfield 53, 3) := by decide +kernel
theorem eMd_init_125 : decode prog_14_method_1_code 125 = .ok (.aload_n 0, 1) := by decide +kernel
theorem eMd_init_126 : decode prog_14_method_1_code 126 = .ok (.bipush 32, 2) := by decide +kernel
theorem eMd_init_128 : decode prog_14_method_1_code 128 = .ok (.newarray .int, 2) := by decide +kernel
theorem eMd_init_130 : decode prog_14_method_1_code 130 = .ok (.putfield 56, 3) := by decide +kernel
theorem eMd_init_133 : decode prog_14_method_1_code 133 = .ok (.aload_n 0, 1) := by decide +kernel
theorem eMd_init_134 : decode prog_14_method_1_code 134 = .ok (.iconst (-1), 1) := by decide +kernel
theorem eMd_init_135 : decode prog_14_method_1_code 135 = .ok (.putfield 59, 3) := by decide +kernel
theorem eMd_init_138 : decode prog_14_method_1_code 138 = .ok (.aload_n 0, 1) := by decide +kernel
theorem eMd_init_139 : decode prog_14_method_1_code 139 = .ok (.bipush 16, 2) := by decide +kernel
theorem eMd_init_141 : decode prog_14_method_1_code 141 = .ok (.newarray .int, 2) := by decide +kernel
theorem eMd_init_143 : decode prog_14_method_1_code 143 = .ok (.putfield 63, 3) := by decide +kernel
theorem eMd_init_146 : decode prog_14_method_1_code 146 = .ok (.aload_n 0, 1) := by decide +kernel
theorem eMd_init_147 : decode prog_14_method_1_code 147 = .ok (.bipush 16, 2) := by decide +kernel
theorem eMd_init_149 : decode prog_14_method_1_code 149 = .ok (.newarray .int, 2) := by decide +kernel
theorem eMd_init_151 : decode prog_14_method_1_code 151 = .ok (.putfield 66, 3) := by decide +kernel
theorem eMd_init_154 : decode prog_14_method_1_code 154 = .ok (.aload_n 0, 1) := by decide +kernel
theorem eMd_init_155 : decode prog_14_method_1_code 155 = .ok (.bipush 16, 2) := by decide +kernel
theorem eMd_init_157 : decode prog_14_method_1_code 157 = .ok (.newarray .int, 2) := by decide +kernel
theorem eMd_init_159 : decode prog_14_method_1_code 159 = .ok (.putfield 69, 3) := by decide +kernel
theorem eMd_init_162 : decode prog_14_method_1_code 162 = .ok (.aload_n 0, 1) := by decide +kernel
theorem eMd_init_163 : decode prog_14_method_1_code 163 = .ok (.ldc 72, 2) := by decide +kernel
theorem eMd_init_165 : decode prog_14_method_1_code 165 = .ok (.newarray .short, 2) := by decide +kernel
theorem eMd_init_167 : decode prog_14_method_1_code 167 = .ok (.putfield 73, 3) := by decide +kernel
theorem eMd_init_170 : decode prog_14_method_1_code 170 = .ok (.aload_n 0, 1) := by decide +kernel
theorem eMd_init_171 : decode prog_14_method_1_code 171 = .ok (.ldc 72, 2) := by decide +kernel
theorem eMd_init_173 : decode prog_14_method_1_code 173 = .ok (.newarray .int, 2) := by decide +kernel
theorem eMd_init_175 : decode prog_14_method_1_code 175 = .ok (.putfield 77, 3) := by decide +kernel
theorem eMd_init_178 : decode prog_14_method_1_code 178 = .ok (.aload_n 0, 1) := by decide +kernel
theorem eMd_init_179 : decode prog_14_method_1_code 179 = .ok (.bipush (-2), 2) := by decide +kernel
theorem eMd_init_181 : decode prog_14_method_1_code 181 = .ok (.putfield 80, 3) := by decide +kernel
theorem eMd_init_184 : decode prog_14_method_1_code 184 = .ok (.aload_n 0, 1) := by decide +kernel
theorem eMd_init_185 : decode prog_14_method_1_code 185 = .ok (.sipush 143, 3) := by decide +kernel
theorem eMd_init_188 : decode prog_14_method_1_code 188 = .ok (.newarray .int, 2) := by decide +kernel
theorem eMd_init_190 : decode prog_14_method_1_code 190 = .ok (.putfield 83, 3) := by decide +kernel
theorem eMd_init_193 : decode prog_14_method_1_code 193 = .ok (.aload_n 0, 1) := by decide +kernel
theorem eMd_init_194 : decode prog_14_method_1_code 194 = .ok (.sipush 4433, 3) := by decide +kernel
theorem eMd_init_197 : decode prog_14_method_1_code 197 = .ok (.newarray .int, 2) := by decide +kernel
theorem eMd_init_199 : decode prog_14_method_1_code 199 = .ok (.putfield 86, 3) := by decide +kernel
theorem eMd_init_202 : decode prog_14_method_1_code 202 = .ok (.aload_n 0, 1) := by decide +kernel
theorem eMd_init_203 : decode prog_14_method_1_code 203 = .ok (.bipush 42, 2) := by decide +kernel
theorem eMd_init_205 : decode prog_14_method_1_code 205 = .ok (.newarray .int, 2) := by decide +kernel
theorem eMd_init_207 : decode prog_14_method_1_code 207 = .ok (.putfield 89, 3) := by decide +kernel
theorem eMd_init_210 : decode prog_14_method_1_code 210 = .ok (.aload_n 0, 1) := by decide +kernel
theorem eMd_init_211 : decode prog_14_method_1_code 211 = .ok (.sipush 448, 3) := by decide +kernel
theorem eMd_init_214 : decode prog_14_method_1_code 214 = .ok (.newarray .int, 2) := by decide +kernel
theorem eMd_init_216 : decode prog_14_method_1_code 216 = .ok (.putfield 92, 3) := by decide +kernel
theorem eMd_init_219 : decode prog_14_method_1_code 219 = .ok (.aload_n 0, 1) := by decide +kernel
theorem eMd_init_220 : decode prog_14_method_1_code 220 = .ok (.iconst 4, 1) := by decide +kernel
theorem eMd_init_221 : decode prog_14_method_1_code 221 = .ok (.newarray .int, 2) := by decide +kernel
theorem eMd_init_223 : decode prog_14_method_1_code 223 = .ok (.putfield 95, 3) := by decide +kernel
theorem eMd_init_226 : decode prog_14_method_1_code 226 = .ok (.aload_n 0, 1) := by decide +kernel
theorem eMd_init_227 : decode prog_14_method_1_code 227 = .ok (.invokevirtual 98, 3) := by decide +kernel
theorem eMd_init_230 : decode prog_14_method_1_code 230 = .ok (.aload_n 0, 1) := by decide +kernel
theorem eMd_init_231 : decode prog_14_method_1_code 231 = .ok (.invokevirtual 101, 3) := by decide +kernel
theorem eMd_init_234 : decode prog_14_method_1_code 234 = .ok (.aload_n 0, 1) := by decide +kernel
theorem eMd_init_235 : decode prog_14_method_1_code 235 = .ok (.invokevirtual 104, 3) := by decide +kernel
theorem eMd_init_238 : decode prog_14_method_1_code 238 = .ok (.return_, 1) := by decide +kernel
theorem eMd_thrown_0 : decode prog_14_method_2_code 0 = .ok (.aload_n 0, 1) := by decide +kernel
theorem eMd_thrown_1 : decode prog_14_method_2_code 1 = .ok (.getfield 107, 3) := by decide +kernel
theorem eMd_thrown_4 : decode prog_14_method_2_code 4 = .ok (.ireturn, 1) := by decide +kernel
theorem eMd_feed_0 : decode prog_14_method_3_code 0 = .ok (.aload_n 0, 1) := by decide +kernel
theorem eMd_feed_1 : decode prog_14_method_3_code 1 = .ok (.iconst 0, 1) := by decide +kernel
theorem eMd_feed_2 : decode prog_14_method_3_code 2 = .ok (.putfield 107, 3) := by decide +kernel
theorem eMd_feed_5 : decode prog_14_method_3_code 5 = .ok (.aload_n 0, 1) := by decide +kernel
theorem eMd_feed_6 : decode prog_14_method_3_code 6 = .ok (.getfield 110, 3) := by decide +kernel
theorem eMd_feed_9 : decode prog_14_method_3_code 9 = .ok (.sipush 680, 3) := by decide +kernel
theorem eMd_feed_12 : decode prog_14_method_3_code 12 = .ok (.if_icmp .le 5, 3) := by decide +kernel
theorem eMd_feed_15 : decode prog_14_method_3_code 15 = .ok (.iconst (-1), 1) := by decide +kernel
theorem eMd_feed_16 : decode prog_14_method_3_code 16 = .ok (.ireturn, 1) := by decide +kernel
theorem eMd_feed_17 : decode prog_14_method_3_code 17 = .ok (.iconst 0, 1) := by decide +kernel
theorem eMd_feed_18 : decode prog_14_method_3_code 18 = .ok (.istore 6, 2) := by decide +kernel
theorem eMd_feed_20 : decode prog_14_method_3_code 20 = .ok (.iload 6, 2) := by decide +kernel
theorem eMd_feed_22 : decode prog_14_method_3_code 22 = .ok (.bipush 20, 2) := by decide +kernel
theorem eMd_feed_24 : decode prog_14_method_3_code 24 = .ok (.if_icmp .ge 86, 3) := by decide +kernel
theorem eMd_feed_27 : decode prog_14_method_3_code 27 = .ok (.iload 6, 2) := by decide +kernel
theorem eMd_feed_29 : decode prog_14_method_3_code 29 = .ok (.iconst 4, 1) := by decide +kernel
theorem eMd_feed_30 : decode prog_14_method_3_code 30 = .ok (.if_icmp .ge 7, 3) := by decide +kernel
theorem eMd_feed_33 : decode prog_14_method_3_code 33 = .ok (.iload_n 1, 1) := by decide +kernel
theorem eMd_feed_34 : decode prog_14_method_3_code 34 = .ok (.goto 39, 3) := by decide +kernel
theorem eMd_feed_37 : decode prog_14_method_3_code 37 = .ok (.iload 6, 2) := by decide +kernel
theorem eMd_feed_39 : decode prog_14_method_3_code 39 = .ok (.bipush 8, 2) := by decide +kernel
theorem eMd_feed_41 : decode prog_14_method_3_code 41 = .ok (.if_icmp .ge 7, 3) := by decide +kernel
theorem eMd_feed_44 : decode prog_14_method_3_code 44 = .ok (.iload_n 2, 1) := by decide +kernel
theorem eMd_feed_45 : decode prog_14_method_3_code 45 = .ok (.goto 28, 3) := by decide +kernel
theorem eMd_feed_48 : decode prog_14_method_3_code 48 = .ok (.iload 6, 2) := by decide +kernel
theorem eMd_feed_50 : decode prog_14_method_3_code 50 = .ok (.bipush 12, 2) := by decide +kernel
theorem eMd_feed_52 : decode prog_14_method_3_code 52 = .ok (.if_icmp .ge 7, 3) := by decide +kernel
theorem eMd_feed_55 : decode prog_14_method_3_code 55 = .ok (.iload_n 3, 1) := by decide +kernel
theorem eMd_feed_56 : decode prog_14_method_3_code 56 = .ok (.goto 17, 3) := by decide +kernel
theorem eMd_feed_59 : decode prog_14_method_3_code 59 = .ok (.iload 6, 2) := by decide +kernel
theorem eMd_feed_61 : decode prog_14_method_3_code 61 = .ok (.bipush 16, 2) := by decide +kernel
theorem eMd_feed_63 : decode prog_14_method_3_code 63 = .ok (.if_icmp .ge 8, 3) := by decide +kernel
theorem eMd_feed_66 : decode prog_14_method_3_code 66 = .ok (.iload 4, 2) := by decide +kernel
theorem eMd_feed_68 : decode prog_14_method_3_code 68 = .ok (.goto 5, 3) := by decide +kernel
theorem eMd_feed_71 : decode prog_14_method_3_code 71 = .ok (.iload 5, 2) := by decide +kernel
theorem eMd_feed_73 : decode prog_14_method_3_code 73 = .ok (.istore 7, 2) := by decide +kernel
theorem eMd_feed_75 : decode prog_14_method_3_code 75 = .ok (.aload_n 0, 1) := by decide +kernel
theorem eMd_feed_76 : decode prog_14_method_3_code 76 = .ok (.getfield 7, 3) := by decide +kernel
theorem eMd_feed_79 : decode prog_14_method_3_code 79 = .ok (.aload_n 0, 1) := by decide +kernel
theorem eMd_feed_80 : decode prog_14_method_3_code 80 = .ok (.getfield 110, 3) := by decide +kernel
theorem eMd_feed_83 : decode prog_14_method_3_code 83 = .ok (.iload 6, 2) := by decide +kernel
theorem eMd_feed_85 : decode prog_14_method_3_code 85 = .ok (.iadd, 1) := by decide +kernel
theorem eMd_feed_86 : decode prog_14_method_3_code 86 = .ok (.iload 7, 2) := by decide +kernel
theorem eMd_feed_88 : decode prog_14_method_3_code 88 = .ok (.bipush 24, 2) := by decide +kernel
theorem eMd_feed_90 : decode prog_14_method_3_code 90 = .ok (.bipush 8, 2) := by decide +kernel
theorem eMd_feed_92 : decode prog_14_method_3_code 92 = .ok (.iload 6, 2) := by decide +kernel
theorem eMd_feed_94 : decode prog_14_method_3_code 94 = .ok (.iconst 4, 1) := by decide +kernel
theorem eMd_feed_95 : decode prog_14_method_3_code 95 = .ok (.irem, 1) := by decide +kernel
theorem eMd_feed_96 : decode prog_14_method_3_code 96 = .ok (.imul, 1) := by decide +kernel
theorem eMd_feed_97 : decode prog_14_method_3_code 97 = .ok (.isub, 1) := by decide +kernel
theorem eMd_feed_98 : decode prog_14_method_3_code 98 = .ok (.ishr, 1) := by decide +kernel
theorem eMd_feed_99 : decode prog_14_method_3_code 99 = .ok (.sipush 255, 3) := by decide +kernel
theorem eMd_feed_102 : decode prog_14_method_3_code 102 = .ok (.iand, 1) := by decide +kernel
theorem eMd_feed_103 : decode prog_14_method_3_code 103 = .ok (.iastore, 1) := by decide +kernel
theorem eMd_feed_104 : decode prog_14_method_3_code 104 = .ok (.iinc 6 1, 3) := by decide +kernel
theorem eMd_feed_107 : decode prog_14_method_3_code 107 = .ok (.goto (-87), 3) := by decide +kernel
theorem eMd_feed_110 : decode prog_14_method_3_code 110 = .ok (.aload_n 0, 1) := by decide +kernel
theorem eMd_feed_111 : decode prog_14_method_3_code 111 = .ok (.dup, 1) := by decide +kernel
theorem eMd_feed_112 : decode prog_14_method_3_code 112 = .ok (.getfield 110, 3) := by decide +kernel
theorem eMd_feed_115 : decode prog_14_method_3_code 115 = .ok (.bipush 20, 2) := by decide +kernel
theorem eMd_feed_117 : decode prog_14_method_3_code 117 = .ok (.iadd, 1) := by decide +kernel
theorem eMd_feed_118 : decode prog_14_method_3_code 118 = .ok (.putfield 110, 3) := by decide +kernel
theorem eMd_feed_121 : decode prog_14_method_3_code 121 = .ok (.aload_n 0, 1) := by decide +kernel
theorem eMd_feed_122 : decode prog_14_method_3_code 122 = .ok (.getfield 110, 3) := by decide +kernel
theorem eMd_feed_125 : decode prog_14_method_3_code 125 = .ok (.ireturn, 1) := by decide +kernel
theorem eMd_here_0 : decode prog_14_method_4_code 0 = .ok (.aload_n 0, 1) := by decide +kernel
theorem eMd_here_1 : decode prog_14_method_4_code 1 = .ok (.getfield 113, 3) := by decide +kernel
theorem eMd_here_4 : decode prog_14_method_4_code 4 = .ok (.aload_n 0, 1) := by decide +kernel
theorem eMd_here_5 : decode prog_14_method_4_code 5 = .ok (.getfield 116, 3) := by decide +kernel
theorem eMd_here_8 : decode prog_14_method_4_code 8 = .ok (.if_icmp .ge 15, 3) := by decide +kernel
theorem eMd_here_11 : decode prog_14_method_4_code 11 = .ok (.aload_n 0, 1) := by decide +kernel
theorem eMd_here_12 : decode prog_14_method_4_code 12 = .ok (.getfield 7, 3) := by decide +kernel
theorem eMd_here_15 : decode prog_14_method_4_code 15 = .ok (.aload_n 0, 1) := by decide +kernel
theorem eMd_here_16 : decode prog_14_method_4_code 16 = .ok (.getfield 113, 3) := by decide +kernel
theorem eMd_here_19 : decode prog_14_method_4_code 19 = .ok (.iaload, 1) := by decide +kernel
theorem eMd_here_20 : decode prog_14_method_4_code 20 = .ok (.goto 4, 3) := by decide +kernel
theorem eMd_here_23 : decode prog_14_method_4_code 23 = .ok (.iconst (-1), 1) := by decide +kernel
theorem eMd_here_24 : decode prog_14_method_4_code 24 = .ok (.ireturn, 1) := by decide +kernel
theorem eMd_isSmall_0 : decode prog_14_method_5_code 0 = .ok (.iload_n 0, 1) := by decide +kernel
theorem eMd_isSmall_1 : decode prog_14_method_5_code 1 = .ok (.bipush 97, 2) := by decide +kernel
theorem eMd_isSmall_3 : decode prog_14_method_5_code 3 = .ok (.if_icmp .lt 13, 3) := by decide +kernel
theorem eMd_isSmall_6 : decode prog_14_method_5_code 6 = .ok (.iload_n 0, 1) := by decide +kernel
theorem eMd_isSmall_7 : decode prog_14_method_5_code 7 = .ok (.bipush 122, 2) := by decide +kernel
theorem eMd_isSmall_9 : decode prog_14_method_5_code 9 = .ok (.if_icmp .gt 7, 3) := by decide +kernel
theorem eMd_isSmall_12 : decode prog_14_method_5_code 12 = .ok (.iconst 1, 1) := by decide +kernel
theorem eMd_isSmall_13 : decode prog_14_method_5_code 13 = .ok (.goto 4, 3) := by decide +kernel
theorem eMd_isSmall_16 : decode prog_14_method_5_code 16 = .ok (.iconst 0, 1) := by decide +kernel
theorem eMd_isSmall_17 : decode prog_14_method_5_code 17 = .ok (.ireturn, 1) := by decide +kernel
theorem eMd_isDigit_0 : decode prog_14_method_6_code 0 = .ok (.iload_n 0, 1) := by decide +kernel
theorem eMd_isDigit_1 : decode prog_14_method_6_code 1 = .ok (.bipush 48, 2) := by decide +kernel
theorem eMd_isDigit_3 : decode prog_14_method_6_code 3 = .ok (.if_icmp .lt 13, 3) := by decide +kernel
theorem eMd_isDigit_6 : decode prog_14_method_6_code 6 = .ok (.iload_n 0, 1) := by decide +kernel
theorem eMd_isDigit_7 : decode prog_14_method_6_code 7 = .ok (.bipush 57, 2) := by decide +kernel
theorem eMd_isDigit_9 : decode prog_14_method_6_code 9 = .ok (.if_icmp .gt 7, 3) := by decide +kernel
theorem eMd_isDigit_12 : decode prog_14_method_6_code 12 = .ok (.iconst 1, 1) := by decide +kernel
theorem eMd_isDigit_13 : decode prog_14_method_6_code 13 = .ok (.goto 4, 3) := by decide +kernel
theorem eMd_isDigit_16 : decode prog_14_method_6_code 16 = .ok (.iconst 0, 1) := by decide +kernel
theorem eMd_isDigit_17 : decode prog_14_method_6_code 17 = .ok (.ireturn, 1) := by decide +kernel
theorem eMd_token_0 : decode prog_14_method_7_code 0 = .ok (.aload_n 0, 1) := by decide +kernel
theorem eMd_token_1 : decode prog_14_method_7_code 1 = .ok (.invokevirtual 119, 3) := by decide +kernel
theorem eMd_token_4 : decode prog_14_method_7_code 4 = .ok (.bipush 10, 2) := by decide +kernel
theorem eMd_token_6 : decode prog_14_method_7_code 6 = .ok (.if_icmp .eq 12, 3) := by decide +kernel
theorem eMd_token_9 : decode prog_14_method_7_code 9 = .ok (.aload_n 0, 1) := by decide +kernel
theorem eMd_token_10 : decode prog_14_method_7_code 10 = .ok (.invokevirtual 119, 3) := by decide +kernel
theorem eMd_token_13 : decode prog_14_method_7_code 13 = .ok (.bipush 32, 2) := by decide +kernel
theorem eMd_token_15 : decode prog_14_method_7_code 15 = .ok (.if_icmp .ne 16, 3) := by decide +kernel
theorem eMd_token_18 : decode prog_14_method_7_code 18 = .ok (.aload_n 0, 1) := by decide +kernel
theorem eMd_token_19 : decode prog_14_method_7_code 19 = .ok (.dup, 1) := by decide +kernel
theorem eMd_token_20 : decode prog_14_method_7_code 20 = .ok (.getfield 113, 3) := by decide +kernel
theorem eMd_token_23 : decode prog_14_method_7_code 23 = .ok (.iconst 1, 1) := by decide +kernel
theorem eMd_token_24 : decode prog_14_method_7_code 24 = .ok (.iadd, 1) := by decide +kernel
theorem eMd_token_25 : decode prog_14_method_7_code 25 = .ok (.putfield 113, 3) := by decide +kernel
theorem eMd_token_28 : decode prog_14_method_7_code 28 = .ok (.goto (-28), 3) := by decide +kernel
theorem eMd_token_31 : decode prog_14_method_7_code 31 = .ok (.aload_n 0, 1) := by decide +kernel
theorem eMd_token_32 : decode prog_14_method_7_code 32 = .ok (.aload_n 0, 1) := by decide +kernel
theorem eMd_token_33 : decode prog_14_method_7_code 33 = .ok (.getfield 113, 3) := by decide +kernel
theorem eMd_token_36 : decode prog_14_method_7_code 36 = .ok (.putfield 123, 3) := by decide +kernel
theorem eMd_token_39 : decode prog_14_method_7_code 39 = .ok (.aload_n 0, 1) := by decide +kernel
theorem eMd_token_40 : decode prog_14_method_7_code 40 = .ok (.invokevirtual 119, 3) := by decide +kernel
theorem eMd_token_43 : decode prog_14_method_7_code 43 = .ok (.istore_n 1, 1) := by decide +kernel
theorem eMd_token_44 : decode prog_14_method_7_code 44 = .ok (.iload_n 1, 1) := by decide +kernel
theorem eMd_token_45 : decode prog_14_method_7_code 45 = .ok (.iconst (-1), 1) := by decide +kernel
theorem eMd_token_46 : decode prog_14_method_7_code 46 = .ok (.if_icmp .ne 11, 3) := by decide +kernel
theorem eMd_token_49 : decode prog_14_method_7_code 49 = .ok (.aload_n 0, 1) := by decide +kernel
theorem eMd_token_50 : decode prog_14_method_7_code 50 = .ok (.iconst 5, 1) := by decide +kernel
theorem eMd_token_51 : decode prog_14_method_7_code 51 = .ok (.putfield 126, 3) := by decide +kernel
theorem eMd_token_54 : decode prog_14_method_7_code 54 = .ok (.goto 186, 3) := by decide +kernel
theorem eMd_token_57 : decode prog_14_method_7_code 57 = .ok (.iload_n 1, 1) := by decide +kernel
theorem eMd_token_58 : decode prog_14_method_7_code 58 = .ok (.invokestatic 129, 3) := by decide +kernel
theorem eMd_token_61 : decode prog_14_method_7_code 61 = .ok (.ifCond .eq 85, 3) := by decide +kernel
theorem eMd_token_64 : decode prog_14_method_7_code 64 = .ok (.aload_n 0, 1) := by decide +kernel
theorem eMd_token_65 : decode prog_14_method_7_code 65 = .ok (.invokevirtual 119, 3) := by decide +kernel
theorem eMd_token_68 : decode prog_14_method_7_code 68 = .ok (.invokestatic 129, 3) := by decide +kernel
theorem eMd_token_71 : decode prog_14_method_7_code 71 = .ok (.ifCond .eq 16, 3) := by decide +kernel
theorem eMd_token_74 : decode prog_14_method_7_code 74 = .ok (.aload_n 0, 1) := by decide +kernel
theorem eMd_token_75 : decode prog_14_method_7_code 75 = .ok (.dup, 1) := by decide +kernel
theorem eMd_token_76 : decode prog_14_method_7_code 76 = .ok (.getfield 113, 3) := by decide +kernel
theorem eMd_token_79 : decode prog_14_method_7_code 79 = .ok (.iconst 1, 1) := by decide +kernel
theorem eMd_token_80 : decode prog_14_method_7_code 80 = .ok (.iadd, 1) := by decide +kernel
theorem eMd_token_81 : decode prog_14_method_7_code 81 = .ok (.putfield 113, 3) := by decide +kernel
theorem eMd_token_84 : decode prog_14_method_7_code 84 = .ok (.goto (-20), 3) := by decide +kernel
theorem eMd_token_87 : decode prog_14_method_7_code 87 = .ok (.aload_n 0, 1) := by decide +kernel
theorem eMd_token_88 : decode prog_14_method_7_code 88 = .ok (.aload_n 0, 1) := by decide +kernel
theorem eMd_token_89 : decode prog_14_method_7_code 89 = .ok (.invokevirtual 133, 3) := by decide +kernel
theorem eMd_token_92 : decode prog_14_method_7_code 92 = .ok (.putfield 136, 3) := by decide +kernel
theorem eMd_token_95 : decode prog_14_method_7_code 95 = .ok (.aload_n 0, 1) := by decide +kernel
theorem eMd_token_96 : decode prog_14_method_7_code 96 = .ok (.aload_n 0, 1) := by decide +kernel
theorem eMd_token_97 : decode prog_14_method_7_code 97 = .ok (.getfield 136, 3) := by decide +kernel
theorem eMd_token_100 : decode prog_14_method_7_code 100 = .ok (.iconst (-1), 1) := by decide +kernel
theorem eMd_token_101 : decode prog_14_method_7_code 101 = .ok (.if_icmp .eq 7, 3) := by decide +kernel
theorem eMd_token_104 : decode prog_14_method_7_code 104 = .ok (.iconst 0, 1) := by decide +kernel
theorem eMd_token_105 : decode prog_14_method_7_code 105 = .ok (.goto 23, 3) := by decide +kernel
theorem eMd_token_108 : decode prog_14_method_7_code 108 = .ok (.aload_n 0, 1) := by decide +kernel
theorem eMd_token_109 : decode prog_14_method_7_code 109 = .ok (.getfield 113, 3) := by decide +kernel
theorem eMd_token_112 : decode prog_14_method_7_code 112 = .ok (.aload_n 0, 1) := by decide +kernel
theorem eMd_token_113 : decode prog_14_method_7_code 113 = .ok (.getfield 123, 3) := by decide +kernel
theorem eMd_token_116 : decode prog_14_method_7_code 116 = .ok (.isub, 1) := by decide +kernel
theorem eMd_token_117 : decode prog_14_method_7_code 117 = .ok (.bipush 6, 2) := by decide +kernel
theorem eMd_token_119 : decode prog_14_method_7_code 119 = .ok (.if_icmp .le 8, 3) := by decide +kernel
theorem eMd_token_122 : decode prog_14_method_7_code 122 = .ok (.bipush 6, 2) := by decide +kernel
theorem eMd_token_124 : decode prog_14_method_7_code 124 = .ok (.goto 4, 3) := by decide +kernel
theorem eMd_token_127 : decode prog_14_method_7_code 127 = .ok (.iconst 1, 1) := by decide +kernel
theorem eMd_token_128 : decode prog_14_method_7_code 128 = .ok (.putfield 126, 3) := by decide +kernel
theorem eMd_token_131 : decode prog_14_method_7_code 131 = .ok (.aload_n 0, 1) := by decide +kernel
theorem eMd_token_132 : decode prog_14_method_7_code 132 = .ok (.getfield 126, 3) := by decide +kernel
theorem eMd_token_135 : decode prog_14_method_7_code 135 = .ok (.iconst 1, 1) := by decide +kernel
theorem eMd_token_136 : decode prog_14_method_7_code 136 = .ok (.if_icmp .ne 104, 3) := by decide +kernel
theorem eMd_token_139 : decode prog_14_method_7_code 139 = .ok (.aload_n 0, 1) := by decide +kernel
theorem eMd_token_140 : decode prog_14_method_7_code 140 = .ok (.invokevirtual 139, 3) := by decide +kernel
theorem eMd_token_143 : decode prog_14_method_7_code 143 = .ok (.goto 97, 3) := by decide +kernel
theorem eMd_token_146 : decode prog_14_method_7_code 146 = .ok (.iload_n 1, 1) := by decide +kernel
theorem eMd_token_147 : decode prog_14_method_7_code 147 = .ok (.invokestatic 142, 3) := by decide +kernel
theorem eMd_token_150 : decode prog_14_method_7_code 150 = .ok (.ifCond .eq 15, 3) := by decide +kernel
theorem eMd_token_153 : decode prog_14_method_7_code 153 = .ok (.aload_n 0, 1) := by decide +kernel
theorem eMd_token_154 : decode prog_14_method_7_code 154 = .ok (.iconst 2, 1) := by decide +kernel
theorem eMd_token_155 : decode prog_14_method_7_code 155 = .ok (.putfield 126, 3) := by decide +kernel
theorem eMd_token_158 : decode prog_14_method_7_code 158 = .ok (.aload_n 0, 1) := by decide +kernel
theorem eMd_token_159 : decode prog_14_method_7_code 159 = .ok (.invokevirtual 145, 3) := by decide +kernel
theorem eMd_token_162 : decode prog_14_method_7_code 162 = .ok (.goto 78, 3) := by decide +kernel
theorem eMd_token_165 : decode prog_14_method_7_code 165 = .ok (.aload_n 0, 1) := by decide +kernel
theorem eMd_token_166 : decode prog_14_method_7_code 166 = .ok (.dup, 1) := by decide +kernel
theorem eMd_token_167 : decode prog_14_method_7_code 167 = .ok (.getfield 113, 3) := by decide +kernel
theorem eMd_token_170 : decode prog_14_method_7_code 170 = .ok (.iconst 1, 1) := by decide +kernel
theorem eMd_token_171 : decode prog_14_method_7_code 171 = .ok (.iadd, 1) := by decide +kernel
theorem eMd_token_172 : decode prog_14_method_7_code 172 = .ok (.putfield 113, 3) := by decide +kernel
theorem eMd_token_175 : decode prog_14_method_7_code 175 = .ok (.aload_n 0, 1) := by decide +kernel
theorem eMd_token_176 : decode prog_14_method_7_code 176 = .ok (.iload_n 1, 1) := by decide +kernel
theorem eMd_token_177 : decode prog_14_method_7_code 177 = .ok (.bipush 59, 2) := by decide +kernel
theorem eMd_token_179 : decode prog_14_method_7_code 179 = .ok (.if_icmp .ne 7, 3) := by decide +kernel
theorem eMd_token_182 : decode prog_14_method_7_code 182 = .ok (.iconst 4, 1) := by decide +kernel
theorem eMd_token_183 : decode prog_14_method_7_code 183 = .ok (.goto 25, 3) := by decide +kernel
theorem eMd_token_186 : decode prog_14_method_7_code 186 = .ok (.iload_n 1, 1) := by decide +kernel
theorem eMd_token_187 : decode prog_14_method_7_code 187 = .ok (.bipush 45, 2) := by decide +kernel
theorem eMd_token_189 : decode prog_14_method_7_code 189 = .ok (.if_icmp .ne 17, 3) := by decide +kernel
theorem eMd_token_192 : decode prog_14_method_7_code 192 = .ok (.aload_n 0, 1) := by decide +kernel
theorem eMd_token_193 : decode prog_14_method_7_code 193 = .ok (.invokevirtual 119, 3) := by decide +kernel
theorem eMd_token_196 : decode prog_14_method_7_code 196 = .ok (.invokestatic 142, 3) := by decide +kernel
theorem eMd_token_199 : decode prog_14_method_7_code 199 = .ok (.ifCond .eq 7, 3) := by decide +kernel
theorem eMd_token_202 : decode prog_14_method_7_code 202 = .ok (.iconst 3, 1) := by decide +kernel
theorem eMd_token_203 : decode prog_14_method_7_code 203 = .ok (.goto 5, 3) := by decide +kernel
theorem eMd_token_206 : decode prog_14_method_7_code 206 = .ok (.bipush 6, 2) := by decide +kernel
theorem eMd_token_208 : decode prog_14_method_7_code 208 = .ok (.putfield 126, 3) := by decide +kernel
theorem eMd_token_211 : decode prog_14_method_7_code 211 = .ok (.aload_n 0, 1) := by decide +kernel
theorem eMd_token_212 : decode prog_14_method_7_code 212 = .ok (.getfield 126, 3) := by decide +kernel
theorem eMd_token_215 : decode prog_14_method_7_code 215 = .ok (.iconst 3, 1) := by decide +kernel
theorem eMd_token_216 : decode prog_14_method_7_code 216 = .ok (.if_icmp .ne 7, 3) := by decide +kernel
theorem eMd_token_219 : decode prog_14_method_7_code 219 = .ok (.aload_n 0, 1) := by decide +kernel
theorem eMd_token_220 : decode prog_14_method_7_code 220 = .ok (.invokevirtual 145, 3) := by decide +kernel
theorem eMd_token_223 : decode prog_14_method_7_code 223 = .ok (.aload_n 0, 1) := by decide +kernel
theorem eMd_token_224 : decode prog_14_method_7_code 224 = .ok (.getfield 126, 3) := by decide +kernel
theorem eMd_token_227 : decode prog_14_method_7_code 227 = .ok (.iconst 3, 1) := by decide +kernel
theorem eMd_token_228 : decode prog_14_method_7_code 228 = .ok (.if_icmp .ne 12, 3) := by decide +kernel
theorem eMd_token_231 : decode prog_14_method_7_code 231 = .ok (.aload_n 0, 1) := by decide +kernel
theorem eMd_token_232 : decode prog_14_method_7_code 232 = .ok (.aload_n 0, 1) := by decide +kernel
theorem eMd_token_233 : decode prog_14_method_7_code 233 = .ok (.getfield 136, 3) := by decide +kernel
theorem eMd_token_236 : decode prog_14_method_7_code 236 = .ok (.ineg, 1) := by decide +kernel
theorem eMd_token_237 : decode prog_14_method_7_code 237 = .ok (.putfield 136, 3) := by decide +kernel
theorem eMd_token_240 : decode prog_14_method_7_code 240 = .ok (.return_, 1) := by decide +kernel
theorem eMd_digits_0 : decode prog_14_method_8_code 0 = .ok (.aload_n 0, 1) := by decide +kernel
theorem eMd_digits_1 : decode prog_14_method_8_code 1 = .ok (.iconst 0, 1) := by decide +kernel
theorem eMd_digits_2 : decode prog_14_method_8_code 2 = .ok (.putfield 136, 3) := by decide +kernel
theorem eMd_digits_5 : decode prog_14_method_8_code 5 = .ok (.aload_n 0, 1) := by decide +kernel
theorem eMd_digits_6 : decode prog_14_method_8_code 6 = .ok (.invokevirtual 119, 3) := by decide +kernel
theorem eMd_digits_9 : decode prog_14_method_8_code 9 = .ok (.invokestatic 142, 3) := by decide +kernel
theorem eMd_digits_12 : decode prog_14_method_8_code 12 = .ok (.ifCond .eq 51, 3) := by decide +kernel
theorem eMd_digits_15 : decode prog_14_method_8_code 15 = .ok (.aload_n 0, 1) := by decide +kernel
theorem eMd_digits_16 : decode prog_14_method_8_code 16 = .ok (.aload_n 0, 1) := by decide +kernel
theorem eMd_digits_17 : decode prog_14_method_8_code 17 = .ok (.getfield 136, 3) := by decide +kernel
theorem eMd_digits_20 : decode prog_14_method_8_code 20 = .ok (.ldc 148, 2) := by decide +kernel
theorem eMd_digits_22 : decode prog_14_method_8_code 22 = .ok (.if_icmp .le 10, 3) := by decide +kernel
theorem eMd_digits_25 : decode prog_14_method_8_code 25 = .ok (.aload_n 0, 1) := by decide +kernel
theorem eMd_digits_26 : decode prog_14_method_8_code 26 = .ok (.getfield 136, 3) := by decide +kernel
theorem eMd_digits_29 : decode prog_14_method_8_code 29 = .ok (.goto 18, 3) := by decide +kernel
theorem eMd_digits_32 : decode prog_14_method_8_code 32 = .ok (.bipush 10, 2) := by decide +kernel
theorem eMd_digits_34 : decode prog_14_method_8_code 34 = .ok (.aload_n 0, 1) := by decide +kernel
theorem eMd_digits_35 : decode prog_14_method_8_code 35 = .ok (.getfield 136, 3) := by decide +kernel
theorem eMd_digits_38 : decode prog_14_method_8_code 38 = .ok (.imul, 1) := by decide +kernel
theorem eMd_digits_39 : decode prog_14_method_8_code 39 = .ok (.aload_n 0, 1) := by decide +kernel
theorem eMd_digits_40 : decode prog_14_method_8_code 40 = .ok (.invokevirtual 119, 3) := by decide +kernel
theorem eMd_digits_43 : decode prog_14_method_8_code 43 = .ok (.iadd, 1) := by decide +kernel
theorem eMd_digits_44 : decode prog_14_method_8_code 44 = .ok (.bipush 48, 2) := by decide +kernel
theorem eMd_digits_46 : decode prog_14_method_8_code 46 = .ok (.isub, 1) := by decide +kernel
theorem eMd_digits_47 : decode prog_14_method_8_code 47 = .ok (.putfield 136, 3) := by decide +kernel
theorem eMd_digits_50 : decode prog_14_method_8_code 50 = .ok (.aload_n 0, 1) := by decide +kernel
theorem eMd_digits_51 : decode prog_14_method_8_code 51 = .ok (.dup, 1) := by decide +kernel
theorem eMd_digits_52 : decode prog_14_method_8_code 52 = .ok (.getfield 113, 3) := by decide +kernel
theorem eMd_digits_55 : decode prog_14_method_8_code 55 = .ok (.iconst 1, 1) := by decide +kernel
theorem eMd_digits_56 : decode prog_14_method_8_code 56 = .ok (.iadd, 1) := by decide +kernel
theorem eMd_digits_57 : decode prog_14_method_8_code 57 = .ok (.putfield 113, 3) := by decide +kernel
theorem eMd_digits_60 : decode prog_14_method_8_code 60 = .ok (.goto (-55), 3) := by decide +kernel
theorem eMd_digits_63 : decode prog_14_method_8_code 63 = .ok (.return_, 1) := by decide +kernel
theorem eMd_wordHere_0 : decode prog_14_method_9_code 0 = .ok (.iconst 0, 1) := by decide +kernel
theorem eMd_wordHere_1 : decode prog_14_method_9_code 1 = .ok (.istore_n 1, 1) := by decide +kernel
theorem eMd_wordHere_2 : decode prog_14_method_9_code 2 = .ok (.iconst 0, 1) := by decide +kernel
theorem eMd_wordHere_3 : decode prog_14_method_9_code 3 = .ok (.istore_n 2, 1) := by decide +kernel
theorem eMd_wordHere_4 : decode prog_14_method_9_code 4 = .ok (.iload_n 2, 1) := by decide +kernel
theorem eMd_wordHere_5 : decode prog_14_method_9_code 5 = .ok (.ldc 149, 2) := by decide +kernel
theorem eMd_wordHere_7 : decode prog_14_method_9_code 7 = .ok (.invokevirtual 151, 3) := by decide +kernel
theorem eMd_wordHere_10 : decode prog_14_method_9_code 10 = .ok (.if_icmp .ge 113, 3) := by decide +kernel
theorem eMd_wordHere_13 : decode prog_14_method_9_code 13 = .ok (.iconst 0, 1) := by decide +kernel
theorem eMd_wordHere_14 : decode prog_14_method_9_code 14 = .ok (.istore_n 3, 1) := by decide +kernel
theorem eMd_wordHere_15 : decode prog_14_method_9_code 15 = .ok (.ldc 149, 2) := by decide +kernel
theorem eMd_wordHere_17 : decode prog_14_method_9_code 17 = .ok (.iload_n 2, 1) := by decide +kernel
theorem eMd_wordHere_18 : decode prog_14_method_9_code 18 = .ok (.iload_n 3, 1) := by decide +kernel
theorem eMd_wordHere_19 : decode prog_14_method_9_code 19 = .ok (.iadd, 1) := by decide +kernel
theorem eMd_wordHere_20 : decode prog_14_method_9_code 20 = .ok (.invokevirtual 156, 3) := by decide +kernel
theorem eMd_wordHere_23 : decode prog_14_method_9_code 23 = .ok (.bipush 32, 2) := by decide +kernel
theorem eMd_wordHere_25 : decode prog_14_method_9_code 25 = .ok (.if_icmp .eq 44, 3) := by decide +kernel
theorem eMd_wordHere_28 : decode prog_14_method_9_code 28 = .ok (.aload_n 0, 1) := by decide +kernel
theorem eMd_wordHere_29 : decode prog_14_method_9_code 29 = .ok (.getfield 123, 3) := by decide +kernel
theorem eMd_wordHere_32 : decode prog_14_method_9_code 32 = .ok (.iload_n 3, 1) := by decide +kernel
theorem eMd_wordHere_33 : decode prog_14_method_9_code 33 = .ok (.iadd, 1) := by decide +kernel
theorem eMd_wordHere_34 : decode prog_14_method_9_code 34 = .ok (.aload_n 0, 1) := by decide +kernel
theorem eMd_wordHere_35 : decode prog_14_method_9_code 35 = .ok (.getfield 113, 3) := by decide +kernel
theorem eMd_wordHere_38 : decode prog_14_method_9_code 38 = .ok (.if_icmp .ge 31, 3) := by decide +kernel
theorem eMd_wordHere_41 : decode prog_14_method_9_code 41 = .ok (.aload_n 0, 1) := by decide +kernel
theorem eMd_wordHere_42 : decode prog_14_method_9_code 42 = .ok (.getfield 7, 3) := by decide +kernel
theorem eMd_wordHere_45 : decode prog_14_method_9_code 45 = .ok (.aload_n 0, 1) := by decide +kernel
theorem eMd_wordHere_46 : decode prog_14_method_9_code 46 = .ok (.getfield 123, 3) := by decide +kernel
theorem eMd_wordHere_49 : decode prog_14_method_9_code 49 = .ok (.iload_n 3, 1) := by decide +kernel
theorem eMd_wordHere_50 : decode prog_14_method_9_code 50 = .ok (.iadd, 1) := by decide +kernel
theorem eMd_wordHere_51 : decode prog_14_method_9_code 51 = .ok (.iaload, 1) := by decide +kernel
theorem eMd_wordHere_52 : decode prog_14_method_9_code 52 = .ok (.ldc 149, 2) := by decide +kernel
theorem eMd_wordHere_54 : decode prog_14_method_9_code 54 = .ok (.iload_n 2, 1) := by decide +kernel
theorem eMd_wordHere_55 : decode prog_14_method_9_code 55 = .ok (.iload_n 3, 1) := by decide +kernel
theorem eMd_wordHere_56 : decode prog_14_method_9_code 56 = .ok (.iadd, 1) := by decide +kernel
theorem eMd_wordHere_57 : decode prog_14_method_9_code 57 = .ok (.invokevirtual 156, 3) := by decide +kernel
theorem eMd_wordHere_60 : decode prog_14_method_9_code 60 = .ok (.if_icmp .ne 9, 3) := by decide +kernel
theorem eMd_wordHere_63 : decode prog_14_method_9_code 63 = .ok (.iinc 3 1, 3) := by decide +kernel
theorem eMd_wordHere_66 : decode prog_14_method_9_code 66 = .ok (.goto (-51), 3) := by decide +kernel
theorem eMd_wordHere_69 : decode prog_14_method_9_code 69 = .ok (.ldc 149, 2) := by decide +kernel
theorem eMd_wordHere_71 : decode prog_14_method_9_code 71 = .ok (.iload_n 2, 1) := by decide +kernel
theorem eMd_wordHere_72 : decode prog_14_method_9_code 72 = .ok (.iload_n 3, 1) := by decide +kernel
theorem eMd_wordHere_73 : decode prog_14_method_9_code 73 = .ok (.iadd, 1) := by decide +kernel
theorem eMd_wordHere_74 : decode prog_14_method_9_code 74 = .ok (.invokevirtual 156, 3) := by decide +kernel
theorem eMd_wordHere_77 : decode prog_14_method_9_code 77 = .ok (.bipush 32, 2) := by decide +kernel
theorem eMd_wordHere_79 : decode prog_14_method_9_code 79 = .ok (.if_icmp .ne 18, 3) := by decide +kernel
theorem eMd_wordHere_82 : decode prog_14_method_9_code 82 = .ok (.aload_n 0, 1) := by decide +kernel
theorem eMd_wordHere_83 : decode prog_14_method_9_code 83 = .ok (.getfield 123, 3) := by decide +kernel
theorem eMd_wordHere_86 : decode prog_14_method_9_code 86 = .ok (.iload_n 3, 1) := by decide +kernel
theorem eMd_wordHere_87 : decode prog_14_method_9_code 87 = .ok (.iadd, 1) := by decide +kernel
theorem eMd_wordHere_88 : decode prog_14_method_9_code 88 = .ok (.aload_n 0, 1) := by decide +kernel
theorem eMd_wordHere_89 : decode prog_14_method_9_code 89 = .ok (.getfield 113, 3) := by decide +kernel
theorem eMd_wordHere_92 : decode prog_14_method_9_code 92 = .ok (.if_icmp .ne 5, 3) := by decide +kernel
theorem eMd_wordHere_95 : decode prog_14_method_9_code 95 = .ok (.iload_n 1, 1) := by decide +kernel
theorem eMd_wordHere_96 : decode prog_14_method_9_code 96 = .ok (.ireturn, 1) := by decide +kernel
theorem eMd_wordHere_97 : decode prog_14_method_9_code 97 = .ok (.ldc 149, 2) := by decide +kernel
theorem eMd_wordHere_99 : decode prog_14_method_9_code 99 = .ok (.iload_n 2, 1) := by decide +kernel
theorem eMd_wordHere_100 : decode prog_14_method_9_code 100 = .ok (.invokevirtual 156, 3) := by decide +kernel
theorem eMd_wordHere_103 : decode prog_14_method_9_code 103 = .ok (.bipush 32, 2) := by decide +kernel
theorem eMd_wordHere_105 : decode prog_14_method_9_code 105 = .ok (.if_icmp .eq 9, 3) := by decide +kernel
theorem eMd_wordHere_108 : decode prog_14_method_9_code 108 = .ok (.iinc 2 1, 3) := by decide +kernel
theorem eMd_wordHere_111 : decode prog_14_method_9_code 111 = .ok (.goto (-14), 3) := by decide +kernel
theorem eMd_wordHere_114 : decode prog_14_method_9_code 114 = .ok (.iinc 2 1, 3) := by decide +kernel
theorem eMd_wordHere_117 : decode prog_14_method_9_code 117 = .ok (.iinc 1 1, 3) := by decide +kernel
theorem eMd_wordHere_120 : decode prog_14_method_9_code 120 = .ok (.goto (-116), 3) := by decide +kernel
theorem eMd_wordHere_123 : decode prog_14_method_9_code 123 = .ok (.iconst (-1), 1) := by decide +kernel
theorem eMd_wordHere_124 : decode prog_14_method_9_code 124 = .ok (.ireturn, 1) := by decide +kernel
theorem eMd_nameHere_0 : decode prog_14_method_10_code 0 = .ok (.aload_n 0, 1) := by decide +kernel
theorem eMd_nameHere_1 : decode prog_14_method_10_code 1 = .ok (.iconst 0, 1) := by decide +kernel
theorem eMd_nameHere_2 : decode prog_14_method_10_code 2 = .ok (.putfield 136, 3) := by decide +kernel
theorem eMd_nameHere_5 : decode prog_14_method_10_code 5 = .ok (.iconst 0, 1) := by decide +kernel
theorem eMd_nameHere_6 : decode prog_14_method_10_code 6 = .ok (.istore_n 1, 1) := by decide +kernel
theorem eMd_nameHere_7 : decode prog_14_method_10_code 7 = .ok (.iload_n 1, 1) := by decide +kernel
theorem eMd_nameHere_8 : decode prog_14_method_10_code 8 = .ok (.bipush 6, 2) := by decide +kernel
theorem eMd_nameHere_10 : decode prog_14_method_10_code 10 = .ok (.if_icmp .ge 53, 3) := by decide +kernel
theorem eMd_nameHere_13 : decode prog_14_method_10_code 13 = .ok (.aload_n 0, 1) := by decide +kernel
theorem eMd_nameHere_14 : decode prog_14_method_10_code 14 = .ok (.aload_n 0, 1) := by decide +kernel
theorem eMd_nameHere_15 : decode prog_14_method_10_code 15 = .ok (.getfield 136, 3) := by decide +kernel
theorem eMd_nameHere_18 : decode prog_14_method_10_code 18 = .ok (.iconst 5, 1) := by decide +kernel
theorem eMd_nameHere_19 : decode prog_14_method_10_code 19 = .ok (.ishl, 1) := by decide +kernel
theorem eMd_nameHere_20 : decode prog_14_method_10_code 20 = .ok (.aload_n 0, 1) := by decide +kernel
theorem eMd_nameHere_21 : decode prog_14_method_10_code 21 = .ok (.getfield 123, 3) := by decide +kernel
theorem eMd_nameHere_24 : decode prog_14_method_10_code 24 = .ok (.iload_n 1, 1) := by decide +kernel
theorem eMd_nameHere_25 : decode prog_14_method_10_code 25 = .ok (.iadd, 1) := by decide +kernel
theorem eMd_nameHere_26 : decode prog_14_method_10_code 26 = .ok (.aload_n 0, 1) := by decide +kernel
theorem eMd_nameHere_27 : decode prog_14_method_10_code 27 = .ok (.getfield 113, 3) := by decide +kernel
theorem eMd_nameHere_30 : decode prog_14_method_10_code 30 = .ok (.if_icmp .ge 22, 3) := by decide +kernel
theorem eMd_nameHere_33 : decode prog_14_method_10_code 33 = .ok (.aload_n 0, 1) := by decide +kernel
theorem eMd_nameHere_34 : decode prog_14_method_10_code 34 = .ok (.getfield 7, 3) := by decide +kernel
theorem eMd_nameHere_37 : decode prog_14_method_10_code 37 = .ok (.aload_n 0, 1) := by decide +kernel
theorem eMd_nameHere_38 : decode prog_14_method_10_code 38 = .ok (.getfield 123, 3) := by decide +kernel
theorem eMd_nameHere_41 : decode prog_14_method_10_code 41 = .ok (.iload_n 1, 1) := by decide +kernel
theorem eMd_nameHere_42 : decode prog_14_method_10_code 42 = .ok (.iadd, 1) := by decide +kernel
theorem eMd_nameHere_43 : decode prog_14_method_10_code 43 = .ok (.iaload, 1) := by decide +kernel
theorem eMd_nameHere_44 : decode prog_14_method_10_code 44 = .ok (.bipush 97, 2) := by decide +kernel
theorem eMd_nameHere_46 : decode prog_14_method_10_code 46 = .ok (.isub, 1) := by decide +kernel
theorem eMd_nameHere_47 : decode prog_14_method_10_code 47 = .ok (.iconst 1, 1) := by decide +kernel
theorem eMd_nameHere_48 : decode prog_14_method_10_code 48 = .ok (.iadd, 1) := by decide +kernel
theorem eMd_nameHere_49 : decode prog_14_method_10_code 49 = .ok (.goto 4, 3) := by decide +kernel
theorem eMd_nameHere_52 : decode prog_14_method_10_code 52 = .ok (.iconst 0, 1) := by decide +kernel
theorem eMd_nameHere_53 : decode prog_14_method_10_code 53 = .ok (.ior, 1) := by decide +kernel
theorem eMd_nameHere_54 : decode prog_14_method_10_code 54 = .ok (.putfield 136, 3) := by decide +kernel
theorem eMd_nameHere_57 : decode prog_14_method_10_code 57 = .ok (.iinc 1 1, 3) := by decide +kernel
theorem eMd_nameHere_60 : decode prog_14_method_10_code 60 = .ok (.goto (-53), 3) := by decide +kernel
theorem eMd_nameHere_63 : decode prog_14_method_10_code 63 = .ok (.return_, 1) := by decide +kernel
theorem eMd_wrong_0 : decode prog_14_method_11_code 0 = .ok (.aload_n 0, 1) := by decide +kernel
theorem eMd_wrong_1 : decode prog_14_method_11_code 1 = .ok (.getfield 160, 3) := by decide +kernel
theorem eMd_wrong_4 : decode prog_14_method_11_code 4 = .ok (.ifCond .eq 4, 3) := by decide +kernel
theorem eMd_wrong_7 : decode prog_14_method_11_code 7 = .ok (.return_, 1) := by decide +kernel
theorem eMd_wrong_8 : decode prog_14_method_11_code 8 = .ok (.aload_n 0, 1) := by decide +kernel
theorem eMd_wrong_9 : decode prog_14_method_11_code 9 = .ok (.iload_n 1, 1) := by decide +kernel
theorem eMd_wrong_10 : decode prog_14_method_11_code 10 = .ok (.putfield 160, 3) := by decide +kernel
theorem eMd_wrong_13 : decode prog_14_method_11_code 13 = .ok (.aload_n 0, 1) := by decide +kernel
theorem eMd_wrong_14 : decode prog_14_method_11_code 14 = .ok (.aload_n 0, 1) := by decide +kernel
theorem eMd_wrong_15 : decode prog_14_method_11_code 15 = .ok (.getfield 123, 3) := by decide +kernel
theorem eMd_wrong_18 : decode prog_14_method_11_code 18 = .ok (.putfield 163, 3) := by decide +kernel
theorem eMd_wrong_21 : decode prog_14_method_11_code 21 = .ok (.return_, 1) := by decide +kernel
theorem eMd_goOn_0 : decode prog_14_method_12_code 0 = .ok (.aload_n 0, 1) := by decide +kernel
theorem eMd_goOn_1 : decode prog_14_method_12_code 1 = .ok (.getfield 160, 3) := by decide +kernel
theorem eMd_goOn_4 : decode prog_14_method_12_code 4 = .ok (.ifCond .ne 7, 3) := by decide +kernel
theorem eMd_goOn_7 : decode prog_14_method_12_code 7 = .ok (.aload_n 0, 1) := by decide +kernel
theorem eMd_goOn_8 : decode prog_14_method_12_code 8 = .ok (.invokevirtual 166, 3) := by decide +kernel
theorem eMd_goOn_11 : decode prog_14_method_12_code 11 = .ok (.return_, 1) := by decide +kernel
theorem eMd_numeralOf_0 : decode prog_14_method_13_code 0 = .ok (.aload_n 0, 1) := by decide +kernel
theorem eMd_numeralOf_1 : decode prog_14_method_13_code 1 = .ok (.getfield 160, 3) := by decide +kernel
theorem eMd_numeralOf_4 : decode prog_14_method_13_code 4 = .ok (.ifCond .eq 5, 3) := by decide +kernel
theorem eMd_numeralOf_7 : decode prog_14_method_13_code 7 = .ok (.iload_n 2, 1) := by decide +kernel
theorem eMd_numeralOf_8 : decode prog_14_method_13_code 8 = .ok (.ireturn, 1) := by decide +kernel
theorem eMd_numeralOf_9 : decode prog_14_method_13_code 9 = .ok (.aload_n 0, 1) := by decide +kernel
theorem eMd_numeralOf_10 : decode prog_14_method_13_code 10 = .ok (.getfield 126, 3) := by decide +kernel
theorem eMd_numeralOf_13 : decode prog_14_method_13_code 13 = .ok (.iconst 2, 1) := by decide +kernel
theorem eMd_numeralOf_14 : decode prog_14_method_13_code 14 = .ok (.if_icmp .eq 23, 3) := by decide +kernel
theorem eMd_numeralOf_17 : decode prog_14_method_13_code 17 = .ok (.iload_n 1, 1) := by decide +kernel
theorem eMd_numeralOf_18 : decode prog_14_method_13_code 18 = .ok (.ifCond .eq 11, 3) := by decide +kernel
theorem eMd_numeralOf_21 : decode prog_14_method_13_code 21 = .ok (.aload_n 0, 1) := by decide +kernel
theorem eMd_numeralOf_22 : decode prog_14_method_13_code 22 = .ok (.getfield 126, 3) := by decide +kernel
theorem eMd_numeralOf_25 : decode prog_14_method_13_code 25 = .ok (.iconst 3, 1) := by decide +kernel
theorem eMd_numeralOf_26 : decode prog_14_method_13_code 26 = .ok (.if_icmp .eq 11, 3) := by decide +kernel
theorem eMd_numeralOf_29 : decode prog_14_method_13_code 29 = .ok (.aload_n 0, 1) := by decide +kernel
theorem eMd_numeralOf_30 : decode prog_14_method_13_code 30 = .ok (.iconst 1, 1) := by decide +kernel
theorem eMd_numeralOf_31 : decode prog_14_method_13_code 31 = .ok (.invokevirtual 169, 3) := by decide +kernel
theorem eMd_numeralOf_34 : decode prog_14_method_13_code 34 = .ok (.goto 24, 3) := by decide +kernel
theorem eMd_numeralOf_37 : decode prog_14_method_13_code 37 = .ok (.aload_n 0, 1) := by decide +kernel
theorem eMd_numeralOf_38 : decode prog_14_method_13_code 38 = .ok (.getfield 136, 3) := by decide +kernel
theorem eMd_numeralOf_41 : decode prog_14_method_13_code 41 = .ok (.iload_n 2, 1) := by decide +kernel
theorem eMd_numeralOf_42 : decode prog_14_method_13_code 42 = .ok (.if_icmp .lt 11, 3) := by decide +kernel
theorem eMd_numeralOf_45 : decode prog_14_method_13_code 45 = .ok (.aload_n 0, 1) := by decide +kernel
theorem eMd_numeralOf_46 : decode prog_14_method_13_code 46 = .ok (.getfield 136, 3) := by decide +kernel
theorem eMd_numeralOf_49 : decode prog_14_method_13_code 49 = .ok (.iload_n 3, 1) := by decide +kernel
theorem eMd_numeralOf_50 : decode prog_14_method_13_code 50 = .ok (.if_icmp .le 8, 3) := by decide +kernel
theorem eMd_numeralOf_53 : decode prog_14_method_13_code 53 = .ok (.aload_n 0, 1) := by decide +kernel
theorem eMd_numeralOf_54 : decode prog_14_method_13_code 54 = .ok (.iconst 2, 1) := by decide +kernel
theorem eMd_numeralOf_55 : decode prog_14_method_13_code 55 = .ok (.invokevirtual 169, 3) := by decide +kernel
theorem eMd_numeralOf_58 : decode prog_14_method_13_code 58 = .ok (.aload_n 0, 1) := by decide +kernel
theorem eMd_numeralOf_59 : decode prog_14_method_13_code 59 = .ok (.getfield 160, 3) := by decide +kernel
theorem eMd_numeralOf_62 : decode prog_14_method_13_code 62 = .ok (.ifCond .ne 10, 3) := by decide +kernel
theorem eMd_numeralOf_65 : decode prog_14_method_13_code 65 = .ok (.aload_n 0, 1) := by decide +kernel
theorem eMd_numeralOf_66 : decode prog_14_method_13_code 66 = .ok (.getfield 136, 3) := by decide +kernel
theorem eMd_numeralOf_69 : decode prog_14_method_13_code 69 = .ok (.goto 4, 3) := by decide +kernel
theorem eMd_numeralOf_72 : decode prog_14_method_13_code 72 = .ok (.iload_n 2, 1) := by decide +kernel
theorem eMd_numeralOf_73 : decode prog_14_method_13_code 73 = .ok (.istore 4, 2) := by decide +kernel
theorem eMd_numeralOf_75 : decode prog_14_method_13_code 75 = .ok (.aload_n 0, 1) := by decide +kernel
theorem eMd_numeralOf_76 : decode prog_14_method_13_code 76 = .ok (.invokevirtual 173, 3) := by decide +kernel
theorem eMd_numeralOf_79 : decode prog_14_method_13_code 79 = .ok (.iload 4, 2) := by decide +kernel
theorem eMd_numeralOf_81 : decode prog_14_method_13_code 81 = .ok (.ireturn, 1) := by decide +kernel
theorem eMd_numeral_0 : decode prog_14_method_14_code 0 = .ok (.aload_n 0, 1) := by decide +kernel
theorem eMd_numeral_1 : decode prog_14_method_14_code 1 = .ok (.iconst 0, 1) := by decide +kernel
theorem eMd_numeral_2 : decode prog_14_method_14_code 2 = .ok (.iload_n 1, 1) := by decide +kernel
theorem eMd_numeral_3 : decode prog_14_method_14_code 3 = .ok (.iload_n 2, 1) := by decide +kernel
theorem eMd_numeral_4 : decode prog_14_method_14_code 4 = .ok (.invokevirtual 176, 3) := by decide +kernel
theorem eMd_numeral_7 : decode prog_14_method_14_code 7 = .ok (.ireturn, 1) := by decide +kernel
theorem eMd_atHand_0 : decode prog_14_method_15_code 0 = .ok (.aload_n 0, 1) := by decide +kernel
theorem eMd_atHand_1 : decode prog_14_method_15_code 1 = .ok (.getfield 160, 3) := by decide +kernel
theorem eMd_atHand_4 : decode prog_14_method_15_code 4 = .ok (.ifCond .eq 5, 3) := by decide +kernel
theorem eMd_atHand_7 : decode prog_14_method_15_code 7 = .ok (.iload_n 1, 1) := by decide +kernel
theorem eMd_atHand_8 : decode prog_14_method_15_code 8 = .ok (.ireturn, 1) := by decide +kernel
theorem eMd_atHand_9 : decode prog_14_method_15_code 9 = .ok (.aload_n 0, 1) := by decide +kernel
theorem eMd_atHand_10 : decode prog_14_method_15_code 10 = .ok (.getfield 126, 3) := by decide +kernel
theorem eMd_atHand_13 : decode prog_14_method_15_code 13 = .ok (.iconst 2, 1) := by decide +kernel
theorem eMd_atHand_14 : decode prog_14_method_15_code 14 = .ok (.if_icmp .eq 11, 3) := by decide +kernel
theorem eMd_atHand_17 : decode prog_14_method_15_code 17 = .ok (.aload_n 0, 1) := by decide +kernel
theorem eMd_atHand_18 : decode prog_14_method_15_code 18 = .ok (.iconst 1, 1) := by decide +kernel
theorem eMd_atHand_19 : decode prog_14_method_15_code 19 = .ok (.invokevirtual 169, 3) := by decide +kernel
theorem eMd_atHand_22 : decode prog_14_method_15_code 22 = .ok (.goto 24, 3) := by decide +kernel
theorem eMd_atHand_25 : decode prog_14_method_15_code 25 = .ok (.aload_n 0, 1) := by decide +kernel
theorem eMd_atHand_26 : decode prog_14_method_15_code 26 = .ok (.getfield 136, 3) := by decide +kernel
theorem eMd_atHand_29 : decode prog_14_method_15_code 29 = .ok (.iload_n 1, 1) := by decide +kernel
theorem eMd_atHand_30 : decode prog_14_method_15_code 30 = .ok (.if_icmp .lt 11, 3) := by decide +kernel
theorem eMd_atHand_33 : decode prog_14_method_15_code 33 = .ok (.aload_n 0, 1) := by decide +kernel
theorem eMd_atHand_34 : decode prog_14_method_15_code 34 = .ok (.getfield 136, 3) := by decide +kernel
theorem eMd_atHand_37 : decode prog_14_method_15_code 37 = .ok (.iload_n 2, 1) := by decide +kernel
theorem eMd_atHand_38 : decode prog_14_method_15_code 38 = .ok (.if_icmp .le 8, 3) := by decide +kernel
theorem eMd_atHand_41 : decode prog_14_method_15_code 41 = .ok (.aload_n 0, 1) := by decide +kernel
theorem eMd_atHand_42 : decode prog_14_method_15_code 42 = .ok (.iconst 2, 1) := by decide +kernel
theorem eMd_atHand_43 : decode prog_14_method_15_code 43 = .ok (.invokevirtual 169, 3) := by decide +kernel
theorem eMd_atHand_46 : decode prog_14_method_15_code 46 = .ok (.aload_n 0, 1) := by decide +kernel
theorem eMd_atHand_47 : decode prog_14_method_15_code 47 = .ok (.getfield 160, 3) := by decide +kernel
theorem eMd_atHand_50 : decode prog_14_method_15_code 50 = .ok (.ifCond .ne 10, 3) := by decide +kernel
theorem eMd_atHand_53 : decode prog_14_method_15_code 53 = .ok (.aload_n 0, 1) := by decide +kernel
theorem eMd_atHand_54 : decode prog_14_method_15_code 54 = .ok (.getfield 136, 3) := by decide +kernel
theorem eMd_atHand_57 : decode prog_14_method_15_code 57 = .ok (.goto 4, 3) := by decide +kernel
theorem eMd_atHand_60 : decode prog_14_method_15_code 60 = .ok (.iload_n 1, 1) := by decide +kernel
theorem eMd_atHand_61 : decode prog_14_method_15_code 61 = .ok (.ireturn, 1) := by decide +kernel
theorem eMd_reading_0 : decode prog_14_method_16_code 0 = .ok (.aload_n 0, 1) := by decide +kernel
theorem eMd_reading_1 : decode prog_14_method_16_code 1 = .ok (.getfield 13, 3) := by decide +kernel
theorem eMd_reading_4 : decode prog_14_method_16_code 4 = .ok (.bipush 13, 2) := by decide +kernel
theorem eMd_reading_6 : decode prog_14_method_16_code 6 = .ok (.iload_n 1, 1) := by decide +kernel
theorem eMd_reading_7 : decode prog_14_method_16_code 7 = .ok (.iadd, 1) := by decide +kernel
theorem eMd_reading_8 : decode prog_14_method_16_code 8 = .ok (.iaload, 1) := by decide +kernel
theorem eMd_reading_9 : decode prog_14_method_16_code 9 = .ok (.ireturn, 1) := by decide +kernel
theorem eMd_reads_0 : decode prog_14_method_17_code 0 = .ok (.aload_n 0, 1) := by decide +kernel
theorem eMd_reads_1 : decode prog_14_method_17_code 1 = .ok (.getfield 13, 3) := by decide +kernel
theorem eMd_reads_4 : decode prog_14_method_17_code 4 = .ok (.bipush 13, 2) := by decide +kernel
theorem eMd_reads_6 : decode prog_14_method_17_code 6 = .ok (.iload_n 1, 1) := by decide +kernel
theorem eMd_reads_7 : decode prog_14_method_17_code 7 = .ok (.iadd, 1) := by decide +kernel
theorem eMd_reads_8 : decode prog_14_method_17_code 8 = .ok (.iload_n 2, 1) := by decide +kernel
theorem eMd_reads_9 : decode prog_14_method_17_code 9 = .ok (.iastore, 1) := by decide +kernel
theorem eMd_reads_10 : decode prog_14_method_17_code 10 = .ok (.return_, 1) := by decide +kernel
theorem eMd_once_0 : decode prog_14_method_18_code 0 = .ok (.aload_n 0, 1) := by decide +kernel
theorem eMd_once_1 : decode prog_14_method_18_code 1 = .ok (.getfield 16, 3) := by decide +kernel
theorem eMd_once_4 : decode prog_14_method_18_code 4 = .ok (.iload_n 1, 1) := by decide +kernel
theorem eMd_once_5 : decode prog_14_method_18_code 5 = .ok (.baload, 1) := by decide +kernel
theorem eMd_once_6 : decode prog_14_method_18_code 6 = .ok (.ifCond .eq 8, 3) := by decide +kernel
theorem eMd_once_9 : decode prog_14_method_18_code 9 = .ok (.aload_n 0, 1) := by decide +kernel
theorem eMd_once_10 : decode prog_14_method_18_code 10 = .ok (.iconst 3, 1) := by decide +kernel
theorem eMd_once_11 : decode prog_14_method_18_code 11 = .ok (.invokevirtual 169, 3) := by decide +kernel
theorem eMd_once_14 : decode prog_14_method_18_code 14 = .ok (.aload_n 0, 1) := by decide +kernel
theorem eMd_once_15 : decode prog_14_method_18_code 15 = .ok (.getfield 16, 3) := by decide +kernel
theorem eMd_once_18 : decode prog_14_method_18_code 18 = .ok (.iload_n 1, 1) := by decide +kernel
theorem eMd_once_19 : decode prog_14_method_18_code 19 = .ok (.iconst 1, 1) := by decide +kernel
theorem eMd_once_20 : decode prog_14_method_18_code 20 = .ok (.bastore, 1) := by decide +kernel
theorem eMd_once_21 : decode prog_14_method_18_code 21 = .ok (.aload_n 0, 1) := by decide +kernel
theorem eMd_once_22 : decode prog_14_method_18_code 22 = .ok (.invokevirtual 173, 3) := by decide +kernel
theorem eMd_once_25 : decode prog_14_method_18_code 25 = .ok (.return_, 1) := by decide +kernel
theorem eMd_readAhead_0 : decode prog_14_method_19_code 0 = .ok (.aload_n 0, 1) := by decide +kernel
theorem eMd_readAhead_1 : decode prog_14_method_19_code 1 = .ok (.getfield 180, 3) := by decide +kernel
theorem eMd_readAhead_4 : decode prog_14_method_19_code 4 = .ok (.ifCond .eq 8, 3) := by decide +kernel
theorem eMd_readAhead_7 : decode prog_14_method_19_code 7 = .ok (.aload_n 0, 1) := by decide +kernel
theorem eMd_readAhead_8 : decode prog_14_method_19_code 8 = .ok (.iconst 1, 1) := by decide +kernel
theorem eMd_readAhead_9 : decode prog_14_method_19_code 9 = .ok (.invokevirtual 169, 3) := by decide +kernel
theorem eMd_readAhead_12 : decode prog_14_method_19_code 12 = .ok (.aload_n 0, 1) := by decide +kernel
theorem eMd_readAhead_13 : decode prog_14_method_19_code 13 = .ok (.iload_n 1, 1) := by decide +kernel
theorem eMd_readAhead_14 : decode prog_14_method_19_code 14 = .ok (.invokevirtual 184, 3) := by decide +kernel
theorem eMd_readAhead_17 : decode prog_14_method_19_code 17 = .ok (.aload_n 0, 1) := by decide +kernel
theorem eMd_readAhead_18 : decode prog_14_method_19_code 18 = .ok (.iload_n 2, 1) := by decide +kernel
theorem eMd_readAhead_19 : decode prog_14_method_19_code 19 = .ok (.aload_n 0, 1) := by decide +kernel
theorem eMd_readAhead_20 : decode prog_14_method_19_code 20 = .ok (.iload_n 3, 1) := by decide +kernel
theorem eMd_readAhead_21 : decode prog_14_method_19_code 21 = .ok (.iload 4, 2) := by decide +kernel
theorem eMd_readAhead_23 : decode prog_14_method_19_code 23 = .ok (.invokevirtual 187, 3) := by decide +kernel
theorem eMd_readAhead_26 : decode prog_14_method_19_code 26 = .ok (.invokevirtual 191, 3) := by decide +kernel
theorem eMd_readAhead_29 : decode prog_14_method_19_code 29 = .ok (.return_, 1) := by decide +kernel
theorem eMd_readBlock_0 : decode prog_14_method_20_code 0 = .ok (.bipush 6, 2) := by decide +kernel
theorem eMd_readBlock_2 : decode prog_14_method_20_code 2 = .ok (.aload_n 0, 1) := by decide +kernel
theorem eMd_readBlock_3 : decode prog_14_method_20_code 3 = .ok (.bipush 7, 2) := by decide +kernel
theorem eMd_readBlock_5 : decode prog_14_method_20_code 5 = .ok (.invokevirtual 195, 3) := by decide +kernel
theorem eMd_readBlock_8 : decode prog_14_method_20_code 8 = .ok (.iadd, 1) := by decide +kernel
theorem eMd_readBlock_9 : decode prog_14_method_20_code 9 = .ok (.istore_n 1, 1) := by decide +kernel
theorem eMd_readBlock_10 : decode prog_14_method_20_code 10 = .ok (.iload_n 1, 1) := by decide +kernel
theorem eMd_readBlock_11 : decode prog_14_method_20_code 11 = .ok (.bipush 12, 2) := by decide +kernel
theorem eMd_readBlock_13 : decode prog_14_method_20_code 13 = .ok (.if_icmp .ne 8, 3) := by decide +kernel
theorem eMd_readBlock_16 : decode prog_14_method_20_code 16 = .ok (.aload_n 0, 1) := by decide +kernel
theorem eMd_readBlock_17 : decode prog_14_method_20_code 17 = .ok (.iconst 2, 1) := by decide +kernel
theorem eMd_readBlock_18 : decode prog_14_method_20_code 18 = .ok (.invokevirtual 169, 3) := by decide +kernel
theorem eMd_readBlock_21 : decode prog_14_method_20_code 21 = .ok (.aload_n 0, 1) := by decide +kernel
theorem eMd_readBlock_22 : decode prog_14_method_20_code 22 = .ok (.invokevirtual 173, 3) := by decide +kernel
theorem eMd_readBlock_25 : decode prog_14_method_20_code 25 = .ok (.aload_n 0, 1) := by decide +kernel
theorem eMd_readBlock_26 : decode prog_14_method_20_code 26 = .ok (.iconst 0, 1) := by decide +kernel
theorem eMd_readBlock_27 : decode prog_14_method_20_code 27 = .ok (.aload_n 0, 1) := by decide +kernel
theorem eMd_readBlock_28 : decode prog_14_method_20_code 28 = .ok (.iconst 0, 1) := by decide +kernel
theorem eMd_readBlock_29 : decode prog_14_method_20_code 29 = .ok (.invokevirtual 195, 3) := by decide +kernel
theorem eMd_readBlock_32 : decode prog_14_method_20_code 32 = .ok (.iconst 1, 1) := by decide +kernel
theorem eMd_readBlock_33 : decode prog_14_method_20_code 33 = .ok (.isub, 1) := by decide +kernel
theorem eMd_readBlock_34 : decode prog_14_method_20_code 34 = .ok (.invokevirtual 187, 3) := by decide +kernel
theorem eMd_readBlock_37 : decode prog_14_method_20_code 37 = .ok (.istore_n 2, 1) := by decide +kernel
theorem eMd_readBlock_38 : decode prog_14_method_20_code 38 = .ok (.aload_n 0, 1) := by decide +kernel
theorem eMd_readBlock_39 : decode prog_14_method_20_code 39 = .ok (.iload_n 2, 1) := by decide +kernel
theorem eMd_readBlock_40 : decode prog_14_method_20_code 40 = .ok (.aload_n 0, 1) := by decide +kernel
theorem eMd_readBlock_41 : decode prog_14_method_20_code 41 = .ok (.iconst 0, 1) := by decide +kernel
theorem eMd_readBlock_42 : decode prog_14_method_20_code 42 = .ok (.invokevirtual 195, 3) := by decide +kernel
theorem eMd_readBlock_45 : decode prog_14_method_20_code 45 = .ok (.iconst 1, 1) := by decide +kernel
theorem eMd_readBlock_46 : decode prog_14_method_20_code 46 = .ok (.isub, 1) := by decide +kernel
theorem eMd_readBlock_47 : decode prog_14_method_20_code 47 = .ok (.invokevirtual 187, 3) := by decide +kernel
theorem eMd_readBlock_50 : decode prog_14_method_20_code 50 = .ok (.istore_n 3, 1) := by decide +kernel
theorem eMd_readBlock_51 : decode prog_14_method_20_code 51 = .ok (.aload_n 0, 1) := by decide +kernel
theorem eMd_readBlock_52 : decode prog_14_method_20_code 52 = .ok (.iconst 0, 1) := by decide +kernel
theorem eMd_readBlock_53 : decode prog_14_method_20_code 53 = .ok (.aload_n 0, 1) := by decide +kernel
theorem eMd_readBlock_54 : decode prog_14_method_20_code 54 = .ok (.iconst 1, 1) := by decide +kernel
theorem eMd_readBlock_55 : decode prog_14_method_20_code 55 = .ok (.invokevirtual 195, 3) := by decide +kernel
theorem eMd_readBlock_58 : decode prog_14_method_20_code 58 = .ok (.invokevirtual 187, 3) := by decide +kernel
theorem eMd_readBlock_61 : decode prog_14_method_20_code 61 = .ok (.istore 4, 2) := by decide +kernel
theorem eMd_readBlock_63 : decode prog_14_method_20_code 63 = .ok (.aload_n 0, 1) := by decide +kernel
theorem eMd_readBlock_64 : decode prog_14_method_20_code 64 = .ok (.getfield 160, 3) := by decide +kernel
theorem eMd_readBlock_67 : decode prog_14_method_20_code 67 = .ok (.ifCond .eq 4, 3) := by decide +kernel
theorem eMd_readBlock_70 : decode prog_14_method_20_code 70 = .ok (.return_, 1) := by decide +kernel
theorem eMd_readBlock_71 : decode prog_14_method_20_code 71 = .ok (.aload_n 0, 1) := by decide +kernel
theorem eMd_readBlock_72 : decode prog_14_method_20_code 72 = .ok (.getfield 29, 3) := by decide +kernel
theorem eMd_readBlock_75 : decode prog_14_method_20_code 75 = .ok (.iload_n 1, 1) := by decide +kernel
theorem eMd_readBlock_76 : decode prog_14_method_20_code 76 = .ok (.iload_n 2, 1) := by decide +kernel
theorem eMd_readBlock_77 : decode prog_14_method_20_code 77 = .ok (.iastore, 1) := by decide +kernel
theorem eMd_readBlock_78 : decode prog_14_method_20_code 78 = .ok (.aload_n 0, 1) := by decide +kernel
theorem eMd_readBlock_79 : decode prog_14_method_20_code 79 = .ok (.getfield 32, 3) := by decide +kernel
theorem eMd_readBlock_82 : decode prog_14_method_20_code 82 = .ok (.iload_n 1, 1) := by decide +kernel
theorem eMd_readBlock_83 : decode prog_14_method_20_code 83 = .ok (.iload_n 3, 1) := by decide +kernel
theorem eMd_readBlock_84 : decode prog_14_method_20_code 84 = .ok (.iastore, 1) := by decide +kernel
theorem eMd_readBlock_85 : decode prog_14_method_20_code 85 = .ok (.aload_n 0, 1) := by decide +kernel
theorem eMd_readBlock_86 : decode prog_14_method_20_code 86 = .ok (.getfield 35, 3) := by decide +kernel
theorem eMd_readBlock_89 : decode prog_14_method_20_code 89 = .ok (.iload_n 1, 1) := by decide +kernel
theorem eMd_readBlock_90 : decode prog_14_method_20_code 90 = .ok (.iload 4, 2) := by decide +kernel
theorem eMd_readBlock_92 : decode prog_14_method_20_code 92 = .ok (.iastore, 1) := by decide +kernel
theorem eMd_readBlock_93 : decode prog_14_method_20_code 93 = .ok (.aload_n 0, 1) := by decide +kernel
theorem eMd_readBlock_94 : decode prog_14_method_20_code 94 = .ok (.bipush 7, 2) := by decide +kernel
theorem eMd_readBlock_96 : decode prog_14_method_20_code 96 = .ok (.aload_n 0, 1) := by decide +kernel
theorem eMd_readBlock_97 : decode prog_14_method_20_code 97 = .ok (.bipush 7, 2) := by decide +kernel
theorem eMd_readBlock_99 : decode prog_14_method_20_code 99 = .ok (.invokevirtual 195, 3) := by decide +kernel
theorem eMd_readBlock_102 : decode prog_14_method_20_code 102 = .ok (.iconst 1, 1) := by decide +kernel
theorem eMd_readBlock_103 : decode prog_14_method_20_code 103 = .ok (.iadd, 1) := by decide +kernel
theorem eMd_readBlock_104 : decode prog_14_method_20_code 104 = .ok (.invokevirtual 191, 3) := by decide +kernel
theorem eMd_readBlock_107 : decode prog_14_method_20_code 107 = .ok (.return_, 1) := by decide +kernel
theorem eMd_spotAt_0 : decode prog_14_method_21_code 0 = .ok (.iconst 0, 1) := by decide +kernel
theorem eMd_spotAt_1 : decode prog_14_method_21_code 1 = .ok (.istore 4, 2) := by decide +kernel
theorem eMd_spotAt_3 : decode prog_14_method_21_code 3 = .ok (.iload 4, 2) := by decide +kernel
theorem eMd_spotAt_5 : decode prog_14_method_21_code 5 = .ok (.iload_n 2, 1) := by decide +kernel
theorem eMd_spotAt_6 : decode prog_14_method_21_code 6 = .ok (.if_icmp .ge 25, 3) := by decide +kernel
theorem eMd_spotAt_9 : decode prog_14_method_21_code 9 = .ok (.aload_n 0, 1) := by decide +kernel
theorem eMd_spotAt_10 : decode prog_14_method_21_code 10 = .ok (.getfield 20, 3) := by decide +kernel
theorem eMd_spotAt_13 : decode prog_14_method_21_code 13 = .ok (.iload_n 1, 1) := by decide +kernel
theorem eMd_spotAt_14 : decode prog_14_method_21_code 14 = .ok (.iload 4, 2) := by decide +kernel
theorem eMd_spotAt_16 : decode prog_14_method_21_code 16 = .ok (.iadd, 1) := by decide +kernel
theorem eMd_spotAt_17 : decode prog_14_method_21_code 17 = .ok (.iaload, 1) := by decide +kernel
theorem eMd_spotAt_18 : decode prog_14_method_21_code 18 = .ok (.iload_n 3, 1) := by decide +kernel
theorem eMd_spotAt_19 : decode prog_14_method_21_code 19 = .ok (.if_icmp .ne 6, 3) := by decide +kernel
theorem eMd_spotAt_22 : decode prog_14_method_21_code 22 = .ok (.iload 4, 2) := by decide +kernel
theorem eMd_spotAt_24 : decode prog_14_method_21_code 24 = .ok (.ireturn, 1) := by decide +kernel
theorem eMd_spotAt_25 : decode prog_14_method_21_code 25 = .ok (.iinc 4 1, 3) := by decide +kernel
theorem eMd_spotAt_28 : decode prog_14_method_21_code 28 = .ok (.goto (-25), 3) := by decide +kernel
theorem eMd_spotAt_31 : decode prog_14_method_21_code 31 = .ok (.iconst (-1), 1) := by decide +kernel
theorem eMd_spotAt_32 : decode prog_14_method_21_code 32 = .ok (.ireturn, 1) := by decide +kernel
theorem eMd_readSpot_0 : decode prog_14_method_22_code 0 = .ok (.bipush 6, 2) := by decide +kernel
theorem eMd_readSpot_2 : decode prog_14_method_22_code 2 = .ok (.aload_n 0, 1) := by decide +kernel
theorem eMd_readSpot_3 : decode prog_14_method_22_code 3 = .ok (.iconst 4, 1) := by decide +kernel
theorem eMd_readSpot_4 : decode prog_14_method_22_code 4 = .ok (.invokevirtual 195, 3) := by decide +kernel
theorem eMd_readSpot_7 : decode prog_14_method_22_code 7 = .ok (.iadd, 1) := by decide +kernel
theorem eMd_readSpot_8 : decode prog_14_method_22_code 8 = .ok (.istore_n 1, 1) := by decide +kernel
theorem eMd_readSpot_9 : decode prog_14_method_22_code 9 = .ok (.iload_n 1, 1) := by decide +kernel
theorem eMd_readSpot_10 : decode prog_14_method_22_code 10 = .ok (.bipush 12, 2) := by decide +kernel
theorem eMd_readSpot_12 : decode prog_14_method_22_code 12 = .ok (.if_icmp .ne 8, 3) := by decide +kernel
theorem eMd_readSpot_15 : decode prog_14_method_22_code 15 = .ok (.aload_n 0, 1) := by decide +kernel
theorem eMd_readSpot_16 : decode prog_14_method_22_code 16 = .ok (.iconst 2, 1) := by decide +kernel
theorem eMd_readSpot_17 : decode prog_14_method_22_code 17 = .ok (.invokevirtual 169, 3) := by decide +kernel
theorem eMd_readSpot_20 : decode prog_14_method_22_code 20 = .ok (.aload_n 0, 1) := by decide +kernel
theorem eMd_readSpot_21 : decode prog_14_method_22_code 21 = .ok (.invokevirtual 173, 3) := by decide +kernel
theorem eMd_readSpot_24 : decode prog_14_method_22_code 24 = .ok (.aload_n 0, 1) := by decide +kernel
theorem eMd_readSpot_25 : decode prog_14_method_22_code 25 = .ok (.getfield 160, 3) := by decide +kernel
theorem eMd_readSpot_28 : decode prog_14_method_22_code 28 = .ok (.ifCond .eq 4, 3) := by decide +kernel
theorem eMd_readSpot_31 : decode prog_14_method_22_code 31 = .ok (.return_, 1) := by decide +kernel
theorem eMd_readSpot_32 : decode prog_14_method_22_code 32 = .ok (.aload_n 0, 1) := by decide +kernel
theorem eMd_readSpot_33 : decode prog_14_method_22_code 33 = .ok (.getfield 126, 3) := by decide +kernel
theorem eMd_readSpot_36 : decode prog_14_method_22_code 36 = .ok (.iconst 1, 1) := by decide +kernel
theorem eMd_readSpot_37 : decode prog_14_method_22_code 37 = .ok (.if_icmp .eq 11, 3) := by decide +kernel
theorem eMd_readSpot_40 : decode prog_14_method_22_code 40 = .ok (.aload_n 0, 1) := by decide +kernel
theorem eMd_readSpot_41 : decode prog_14_method_22_code 41 = .ok (.iconst 1, 1) := by decide +kernel
theorem eMd_readSpot_42 : decode prog_14_method_22_code 42 = .ok (.invokevirtual 169, 3) := by decide +kernel
theorem eMd_readSpot_45 : decode prog_14_method_22_code 45 = .ok (.goto 27, 3) := by decide +kernel
theorem eMd_readSpot_48 : decode prog_14_method_22_code 48 = .ok (.aload_n 0, 1) := by decide +kernel
theorem eMd_readSpot_49 : decode prog_14_method_22_code 49 = .ok (.bipush 6, 2) := by decide +kernel
theorem eMd_readSpot_51 : decode prog_14_method_22_code 51 = .ok (.aload_n 0, 1) := by decide +kernel
theorem eMd_readSpot_52 : decode prog_14_method_22_code 52 = .ok (.iconst 4, 1) := by decide +kernel
theorem eMd_readSpot_53 : decode prog_14_method_22_code 53 = .ok (.invokevirtual 195, 3) := by decide +kernel
theorem eMd_readSpot_56 : decode prog_14_method_22_code 56 = .ok (.aload_n 0, 1) := by decide +kernel
theorem eMd_readSpot_57 : decode prog_14_method_22_code 57 = .ok (.getfield 136, 3) := by decide +kernel
theorem eMd_readSpot_60 : decode prog_14_method_22_code 60 = .ok (.invokevirtual 199, 3) := by decide +kernel
theorem eMd_readSpot_63 : decode prog_14_method_22_code 63 = .ok (.iconst (-1), 1) := by decide +kernel
theorem eMd_readSpot_64 : decode prog_14_method_22_code 64 = .ok (.if_icmp .eq 8, 3) := by decide +kernel
theorem eMd_readSpot_67 : decode prog_14_method_22_code 67 = .ok (.aload_n 0, 1) := by decide +kernel
theorem eMd_readSpot_68 : decode prog_14_method_22_code 68 = .ok (.iconst 3, 1) := by decide +kernel
theorem eMd_readSpot_69 : decode prog_14_method_22_code 69 = .ok (.invokevirtual 169, 3) := by decide +kernel
theorem eMd_readSpot_72 : decode prog_14_method_22_code 72 = .ok (.aload_n 0, 1) := by decide +kernel
theorem eMd_readSpot_73 : decode prog_14_method_22_code 73 = .ok (.getfield 160, 3) := by decide +kernel
theorem eMd_readSpot_76 : decode prog_14_method_22_code 76 = .ok (.ifCond .eq 4, 3) := by decide +kernel
theorem eMd_readSpot_79 : decode prog_14_method_22_code 79 = .ok (.return_, 1) := by decide +kernel
theorem eMd_readSpot_80 : decode prog_14_method_22_code 80 = .ok (.aload_n 0, 1) := by decide +kernel
theorem eMd_readSpot_81 : decode prog_14_method_22_code 81 = .ok (.getfield 20, 3) := by decide +kernel
theorem eMd_readSpot_84 : decode prog_14_method_22_code 84 = .ok (.iload_n 1, 1) := by decide +kernel
theorem eMd_readSpot_85 : decode prog_14_method_22_code 85 = .ok (.aload_n 0, 1) := by decide +kernel
theorem eMd_readSpot_86 : decode prog_14_method_22_code 86 = .ok (.getfield 136, 3) := by decide +kernel
theorem eMd_readSpot_89 : decode prog_14_method_22_code 89 = .ok (.iastore, 1) := by decide +kernel
theorem eMd_readSpot_90 : decode prog_14_method_22_code 90 = .ok (.aload_n 0, 1) := by decide +kernel
theorem eMd_readSpot_91 : decode prog_14_method_22_code 91 = .ok (.invokevirtual 166, 3) := by decide +kernel
theorem eMd_readSpot_94 : decode prog_14_method_22_code 94 = .ok (.aload_n 0, 1) := by decide +kernel
theorem eMd_readSpot_95 : decode prog_14_method_22_code 95 = .ok (.getfield 23, 3) := by decide +kernel
theorem eMd_readSpot_98 : decode prog_14_method_22_code 98 = .ok (.iload_n 1, 1) := by decide +kernel
theorem eMd_readSpot_99 : decode prog_14_method_22_code 99 = .ok (.aload_n 0, 1) := by decide +kernel
theorem eMd_readSpot_100 : decode prog_14_method_22_code 100 = .ok (.iconst 0, 1) := by decide +kernel
theorem eMd_readSpot_101 : decode prog_14_method_22_code 101 = .ok (.aload_n 0, 1) := by decide +kernel
theorem eMd_readSpot_102 : decode prog_14_method_22_code 102 = .ok (.iconst 0, 1) := by decide +kernel
theorem eMd_readSpot_103 : decode prog_14_method_22_code 103 = .ok (.invokevirtual 195, 3) := by decide +kernel
theorem eMd_readSpot_106 : decode prog_14_method_22_code 106 = .ok (.iconst 1, 1) := by decide +kernel
theorem eMd_readSpot_107 : decode prog_14_method_22_code 107 = .ok (.isub, 1) := by decide +kernel
theorem eMd_readSpot_108 : decode prog_14_method_22_code 108 = .ok (.invokevirtual 187, 3) := by decide +kernel
theorem eMd_readSpot_111 : decode prog_14_method_22_code 111 = .ok (.iastore, 1) := by decide +kernel
theorem eMd_readSpot_112 : decode prog_14_method_22_code 112 = .ok (.aload_n 0, 1) := by decide +kernel
theorem eMd_readSpot_113 : decode prog_14_method_22_code 113 = .ok (.getfield 26, 3) := by decide +kernel
theorem eMd_readSpot_116 : decode prog_14_method_22_code 116 = .ok (.iload_n 1, 1) := by decide +kernel
theorem eMd_readSpot_117 : decode prog_14_method_22_code 117 = .ok (.aload_n 0, 1) := by decide +kernel
theorem eMd_readSpot_118 : decode prog_14_method_22_code 118 = .ok (.iconst 1, 1) := by decide +kernel
theorem eMd_readSpot_119 : decode prog_14_method_22_code 119 = .ok (.aload_n 0, 1) := by decide +kernel
theorem eMd_readSpot_120 : decode prog_14_method_22_code 120 = .ok (.iconst 1, 1) := by decide +kernel
theorem eMd_readSpot_121 : decode prog_14_method_22_code 121 = .ok (.invokevirtual 195, 3) := by decide +kernel
theorem eMd_readSpot_124 : decode prog_14_method_22_code 124 = .ok (.invokevirtual 187, 3) := by decide +kernel
theorem eMd_readSpot_127 : decode prog_14_method_22_code 127 = .ok (.iastore, 1) := by decide +kernel
theorem eMd_readSpot_128 : decode prog_14_method_22_code 128 = .ok (.aload_n 0, 1) := by decide +kernel
theorem eMd_readSpot_129 : decode prog_14_method_22_code 129 = .ok (.iconst 4, 1) := by decide +kernel
theorem eMd_readSpot_130 : decode prog_14_method_22_code 130 = .ok (.aload_n 0, 1) := by decide +kernel
theorem eMd_readSpot_131 : decode prog_14_method_22_code 131 = .ok (.iconst 4, 1) := by decide +kernel
theorem eMd_readSpot_132 : decode prog_14_method_22_code 132 = .ok (.invokevirtual 195, 3) := by decide +kernel
theorem eMd_readSpot_135 : decode prog_14_method_22_code 135 = .ok (.iconst 1, 1) := by decide +kernel
theorem eMd_readSpot_136 : decode prog_14_method_22_code 136 = .ok (.iadd, 1) := by decide +kernel
theorem eMd_readSpot_137 : decode prog_14_method_22_code 137 = .ok (.invokevirtual 191, 3) := by decide +kernel
theorem eMd_readSpot_140 : decode prog_14_method_22_code 140 = .ok (.return_, 1) := by decide +kernel
theorem eMd_readStart_0 : decode prog_14_method_23_code 0 = .ok (.aload_n 0, 1) := by decide +kernel
theorem eMd_readStart_1 : decode prog_14_method_23_code 1 = .ok (.bipush 6, 2) := by decide +kernel
theorem eMd_readStart_3 : decode prog_14_method_23_code 3 = .ok (.invokevirtual 184, 3) := by decide +kernel
theorem eMd_readStart_6 : decode prog_14_method_23_code 6 = .ok (.aload_n 0, 1) := by decide +kernel
theorem eMd_readStart_7 : decode prog_14_method_23_code 7 = .ok (.bipush 9, 2) := by decide +kernel
theorem eMd_readStart_9 : decode prog_14_method_23_code 9 = .ok (.aload_n 0, 1) := by decide +kernel
theorem eMd_readStart_10 : decode prog_14_method_23_code 10 = .ok (.iconst 0, 1) := by decide +kernel
theorem eMd_readStart_11 : decode prog_14_method_23_code 11 = .ok (.aload_n 0, 1) := by decide +kernel
theorem eMd_readStart_12 : decode prog_14_method_23_code 12 = .ok (.iconst 0, 1) := by decide +kernel
theorem eMd_readStart_13 : decode prog_14_method_23_code 13 = .ok (.invokevirtual 195, 3) := by decide +kernel
theorem eMd_readStart_16 : decode prog_14_method_23_code 16 = .ok (.iconst 1, 1) := by decide +kernel
theorem eMd_readStart_17 : decode prog_14_method_23_code 17 = .ok (.isub, 1) := by decide +kernel
theorem eMd_readStart_18 : decode prog_14_method_23_code 18 = .ok (.invokevirtual 187, 3) := by decide +kernel
theorem eMd_readStart_21 : decode prog_14_method_23_code 21 = .ok (.invokevirtual 191, 3) := by decide +kernel
theorem eMd_readStart_24 : decode prog_14_method_23_code 24 = .ok (.aload_n 0, 1) := by decide +kernel
theorem eMd_readStart_25 : decode prog_14_method_23_code 25 = .ok (.bipush 10, 2) := by decide +kernel
theorem eMd_readStart_27 : decode prog_14_method_23_code 27 = .ok (.aload_n 0, 1) := by decide +kernel
theorem eMd_readStart_28 : decode prog_14_method_23_code 28 = .ok (.iconst 1, 1) := by decide +kernel
theorem eMd_readStart_29 : decode prog_14_method_23_code 29 = .ok (.aload_n 0, 1) := by decide +kernel
theorem eMd_readStart_30 : decode prog_14_method_23_code 30 = .ok (.iconst 1, 1) := by decide +kernel
theorem eMd_readStart_31 : decode prog_14_method_23_code 31 = .ok (.invokevirtual 195, 3) := by decide +kernel
theorem eMd_readStart_34 : decode prog_14_method_23_code 34 = .ok (.invokevirtual 187, 3) := by decide +kernel
theorem eMd_readStart_37 : decode prog_14_method_23_code 37 = .ok (.invokevirtual 191, 3) := by decide +kernel
theorem eMd_readStart_40 : decode prog_14_method_23_code 40 = .ok (.return_, 1) := by decide +kernel
theorem eMd_readWind_0 : decode prog_14_method_24_code 0 = .ok (.bipush 8, 2) := by decide +kernel
theorem eMd_readWind_2 : decode prog_14_method_24_code 2 = .ok (.aload_n 0, 1) := by decide +kernel
theorem eMd_readWind_3 : decode prog_14_method_24_code 3 = .ok (.bipush 6, 2) := by decide +kernel
theorem eMd_readWind_5 : decode prog_14_method_24_code 5 = .ok (.invokevirtual 195, 3) := by decide +kernel
theorem eMd_readWind_8 : decode prog_14_method_24_code 8 = .ok (.iadd, 1) := by decide +kernel
theorem eMd_readWind_9 : decode prog_14_method_24_code 9 = .ok (.istore_n 1, 1) := by decide +kernel
theorem eMd_readWind_10 : decode prog_14_method_24_code 10 = .ok (.iload_n 1, 1) := by decide +kernel
theorem eMd_readWind_11 : decode prog_14_method_24_code 11 = .ok (.bipush 16, 2) := by decide +kernel
theorem eMd_readWind_13 : decode prog_14_method_24_code 13 = .ok (.if_icmp .ne 8, 3) := by decide +kernel
theorem eMd_readWind_16 : decode prog_14_method_24_code 16 = .ok (.aload_n 0, 1) := by decide +kernel
theorem eMd_readWind_17 : decode prog_14_method_24_code 17 = .ok (.iconst 2, 1) := by decide +kernel
theorem eMd_readWind_18 : decode prog_14_method_24_code 18 = .ok (.invokevirtual 169, 3) := by decide +kernel
theorem eMd_readWind_21 : decode prog_14_method_24_code 21 = .ok (.aload_n 0, 1) := by decide +kernel
theorem eMd_readWind_22 : decode prog_14_method_24_code 22 = .ok (.invokevirtual 173, 3) := by decide +kernel
theorem eMd_readWind_25 : decode prog_14_method_24_code 25 = .ok (.aload_n 0, 1) := by decide +kernel
theorem eMd_readWind_26 : decode prog_14_method_24_code 26 = .ok (.getfield 160, 3) := by decide +kernel
theorem eMd_readWind_29 : decode prog_14_method_24_code 29 = .ok (.ifCond .ne 12, 3) := by decide +kernel
theorem eMd_readWind_32 : decode prog_14_method_24_code 32 = .ok (.aload_n 0, 1) := by decide +kernel
theorem eMd_readWind_33 : decode prog_14_method_24_code 33 = .ok (.bipush 6, 2) := by decide +kernel
theorem eMd_readWind_35 : decode prog_14_method_24_code 35 = .ok (.invokevirtual 195, 3) := by decide +kernel
theorem eMd_readWind_38 : decode prog_14_method_24_code 38 = .ok (.ifCond .ne 7, 3) := by decide +kernel
theorem eMd_readWind_41 : decode prog_14_method_24_code 41 = .ok (.iconst 0, 1) := by decide +kernel
theorem eMd_readWind_42 : decode prog_14_method_24_code 42 = .ok (.goto 13, 3) := by decide +kernel
theorem eMd_readWind_45 : decode prog_14_method_24_code 45 = .ok (.aload_n 0, 1) := by decide +kernel
theorem eMd_readWind_46 : decode prog_14_method_24_code 46 = .ok (.getfield 38, 3) := by decide +kernel
theorem eMd_readWind_49 : decode prog_14_method_24_code 49 = .ok (.iload_n 1, 1) := by decide +kernel
theorem eMd_readWind_50 : decode prog_14_method_24_code 50 = .ok (.iconst 1, 1) := by decide +kernel
theorem eMd_readWind_51 : decode prog_14_method_24_code 51 = .ok (.isub, 1) := by decide +kernel
theorem eMd_readWind_52 : decode prog_14_method_24_code 52 = .ok (.iaload, 1) := by decide +kernel
theorem eMd_readWind_53 : decode prog_14_method_24_code 53 = .ok (.iconst 1, 1) := by decide +kernel
theorem eMd_readWind_54 : decode prog_14_method_24_code 54 = .ok (.iadd, 1) := by decide +kernel
theorem eMd_readWind_55 : decode prog_14_method_24_code 55 = .ok (.istore_n 2, 1) := by decide +kernel
theorem eMd_readWind_56 : decode prog_14_method_24_code 56 = .ok (.aload_n 0, 1) := by decide +kernel
theorem eMd_readWind_57 : decode prog_14_method_24_code 57 = .ok (.iload_n 2, 1) := by decide +kernel
theorem eMd_readWind_58 : decode prog_14_method_24_code 58 = .ok (.sipush 999, 3) := by decide +kernel
theorem eMd_readWind_61 : decode prog_14_method_24_code 61 = .ok (.invokevirtual 187, 3) := by decide +kernel
theorem eMd_readWind_64 : decode prog_14_method_24_code 64 = .ok (.istore_n 3, 1) := by decide +kernel
theorem eMd_readWind_65 : decode prog_14_method_24_code 65 = .ok (.aload_n 0, 1) := by decide +kernel
theorem eMd_readWind_66 : decode prog_14_method_24_code 66 = .ok (.iconst 1, 1) := by decide +kernel
theorem eMd_readWind_67 : decode prog_14_method_24_code 67 = .ok (.bipush (-4), 2) := by decide +kernel
theorem eMd_readWind_69 : decode prog_14_method_24_code 69 = .ok (.iconst 4, 1) := by decide +kernel
theorem eMd_readWind_70 : decode prog_14_method_24_code 70 = .ok (.invokevirtual 176, 3) := by decide +kernel
theorem eMd_readWind_73 : decode prog_14_method_24_code 73 = .ok (.istore 4, 2) := by decide +kernel
theorem eMd_readWind_75 : decode prog_14_method_24_code 75 = .ok (.aload_n 0, 1) := by decide +kernel
theorem eMd_readWind_76 : decode prog_14_method_24_code 76 = .ok (.getfield 160, 3) := by decide +kernel
theorem eMd_readWind_79 : decode prog_14_method_24_code 79 = .ok (.ifCond .eq 4, 3) := by decide +kernel
theorem eMd_readWind_82 : decode prog_14_method_24_code 82 = .ok (.return_, 1) := by decide +kernel
theorem eMd_readWind_83 : decode prog_14_method_24_code 83 = .ok (.aload_n 0, 1) := by decide +kernel
theorem eMd_readWind_84 : decode prog_14_method_24_code 84 = .ok (.getfield 38, 3) := by decide +kernel
theorem eMd_readWind_87 : decode prog_14_method_24_code 87 = .ok (.iload_n 1, 1) := by decide +kernel
theorem eMd_readWind_88 : decode prog_14_method_24_code 88 = .ok (.iload_n 3, 1) := by decide +kernel
theorem eMd_readWind_89 : decode prog_14_method_24_code 89 = .ok (.iastore, 1) := by decide +kernel
theorem eMd_readWind_90 : decode prog_14_method_24_code 90 = .ok (.aload_n 0, 1) := by decide +kernel
theorem eMd_readWind_91 : decode prog_14_method_24_code 91 = .ok (.getfield 41, 3) := by decide +kernel
theorem eMd_readWind_94 : decode prog_14_method_24_code 94 = .ok (.iload_n 1, 1) := by decide +kernel
theorem eMd_readWind_95 : decode prog_14_method_24_code 95 = .ok (.iload 4, 2) := by decide +kernel
theorem eMd_readWind_97 : decode prog_14_method_24_code 97 = .ok (.iastore, 1) := by decide +kernel
theorem eMd_readWind_98 : decode prog_14_method_24_code 98 = .ok (.aload_n 0, 1) := by decide +kernel
theorem eMd_readWind_99 : decode prog_14_method_24_code 99 = .ok (.bipush 6, 2) := by decide +kernel
theorem eMd_readWind_101 : decode prog_14_method_24_code 101 = .ok (.aload_n 0, 1) := by decide +kernel
theorem eMd_readWind_102 : decode prog_14_method_24_code 102 = .ok (.bipush 6, 2) := by decide +kernel
theorem eMd_readWind_104 : decode prog_14_method_24_code 104 = .ok (.invokevirtual 195, 3) := by decide +kernel
theorem eMd_readWind_107 : decode prog_14_method_24_code 107 = .ok (.iconst 1, 1) := by decide +kernel
theorem eMd_readWind_108 : decode prog_14_method_24_code 108 = .ok (.iadd, 1) := by decide +kernel
theorem eMd_readWind_109 : decode prog_14_method_24_code 109 = .ok (.invokevirtual 191, 3) := by decide +kernel
theorem eMd_readWind_112 : decode prog_14_method_24_code 112 = .ok (.return_, 1) := by decide +kernel
theorem eMd_readPile_0 : decode prog_14_method_25_code 0 = .ok (.aload_n 0, 1) := by decide +kernel
theorem eMd_readPile_1 : decode prog_14_method_25_code 1 = .ok (.bipush 12, 2) := by decide +kernel
theorem eMd_readPile_3 : decode prog_14_method_25_code 3 = .ok (.invokevirtual 195, 3) := by decide +kernel
theorem eMd_readPile_6 : decode prog_14_method_25_code 6 = .ok (.bipush 8, 2) := by decide +kernel
theorem eMd_readPile_8 : decode prog_14_method_25_code 8 = .ok (.if_icmp .ne 8, 3) := by decide +kernel
theorem eMd_readPile_11 : decode prog_14_method_25_code 11 = .ok (.aload_n 0, 1) := by decide +kernel
theorem eMd_readPile_12 : decode prog_14_method_25_code 12 = .ok (.iconst 2, 1) := by decide +kernel
theorem eMd_readPile_13 : decode prog_14_method_25_code 13 = .ok (.invokevirtual 169, 3) := by decide +kernel
theorem eMd_readPile_16 : decode prog_14_method_25_code 16 = .ok (.aload_n 0, 1) := by decide +kernel
theorem eMd_readPile_17 : decode prog_14_method_25_code 17 = .ok (.invokevirtual 173, 3) := by decide +kernel
theorem eMd_readPile_20 : decode prog_14_method_25_code 20 = .ok (.aload_n 0, 1) := by decide +kernel
theorem eMd_readPile_21 : decode prog_14_method_25_code 21 = .ok (.iconst 0, 1) := by decide +kernel
theorem eMd_readPile_22 : decode prog_14_method_25_code 22 = .ok (.aload_n 0, 1) := by decide +kernel
theorem eMd_readPile_23 : decode prog_14_method_25_code 23 = .ok (.iconst 0, 1) := by decide +kernel
theorem eMd_readPile_24 : decode prog_14_method_25_code 24 = .ok (.invokevirtual 195, 3) := by decide +kernel
theorem eMd_readPile_27 : decode prog_14_method_25_code 27 = .ok (.iconst 1, 1) := by decide +kernel
theorem eMd_readPile_28 : decode prog_14_method_25_code 28 = .ok (.isub, 1) := by decide +kernel
theorem eMd_readPile_29 : decode prog_14_method_25_code 29 = .ok (.invokevirtual 203, 3) := by decide +kernel
theorem eMd_readPile_32 : decode prog_14_method_25_code 32 = .ok (.istore_n 1, 1) := by decide +kernel
theorem eMd_readPile_33 : decode prog_14_method_25_code 33 = .ok (.aload_n 0, 1) := by decide +kernel
theorem eMd_readPile_34 : decode prog_14_method_25_code 34 = .ok (.getfield 160, 3) := by decide +kernel
theorem eMd_readPile_37 : decode prog_14_method_25_code 37 = .ok (.ifCond .ne 20, 3) := by decide +kernel
theorem eMd_readPile_40 : decode prog_14_method_25_code 40 = .ok (.aload_n 0, 1) := by decide +kernel
theorem eMd_readPile_41 : decode prog_14_method_25_code 41 = .ok (.getfield 56, 3) := by decide +kernel
theorem eMd_readPile_44 : decode prog_14_method_25_code 44 = .ok (.bipush 16, 2) := by decide +kernel
theorem eMd_readPile_46 : decode prog_14_method_25_code 46 = .ok (.iload_n 1, 1) := by decide +kernel
theorem eMd_readPile_47 : decode prog_14_method_25_code 47 = .ok (.iadd, 1) := by decide +kernel
theorem eMd_readPile_48 : decode prog_14_method_25_code 48 = .ok (.iaload, 1) := by decide +kernel
theorem eMd_readPile_49 : decode prog_14_method_25_code 49 = .ok (.ifCond .le 8, 3) := by decide +kernel
theorem eMd_readPile_52 : decode prog_14_method_25_code 52 = .ok (.aload_n 0, 1) := by decide +kernel
theorem eMd_readPile_53 : decode prog_14_method_25_code 53 = .ok (.iconst 3, 1) := by decide +kernel
theorem eMd_readPile_54 : decode prog_14_method_25_code 54 = .ok (.invokevirtual 169, 3) := by decide +kernel
theorem eMd_readPile_57 : decode prog_14_method_25_code 57 = .ok (.aload_n 0, 1) := by decide +kernel
theorem eMd_readPile_58 : decode prog_14_method_25_code 58 = .ok (.invokevirtual 173, 3) := by decide +kernel
theorem eMd_readPile_61 : decode prog_14_method_25_code 61 = .ok (.aload_n 0, 1) := by decide +kernel
theorem eMd_readPile_62 : decode prog_14_method_25_code 62 = .ok (.iconst 1, 1) := by decide +kernel
theorem eMd_readPile_63 : decode prog_14_method_25_code 63 = .ok (.aload_n 0, 1) := by decide +kernel
theorem eMd_readPile_64 : decode prog_14_method_25_code 64 = .ok (.iconst 1, 1) := by decide +kernel
theorem eMd_readPile_65 : decode prog_14_method_25_code 65 = .ok (.invokevirtual 195, 3) := by decide +kernel
theorem eMd_readPile_68 : decode prog_14_method_25_code 68 = .ok (.invokevirtual 187, 3) := by decide +kernel
theorem eMd_readPile_71 : decode prog_14_method_25_code 71 = .ok (.istore_n 2, 1) := by decide +kernel
theorem eMd_readPile_72 : decode prog_14_method_25_code 72 = .ok (.aload_n 0, 1) := by decide +kernel
theorem eMd_readPile_73 : decode prog_14_method_25_code 73 = .ok (.getfield 160, 3) := by decide +kernel
theorem eMd_readPile_76 : decode prog_14_method_25_code 76 = .ok (.ifCond .eq 4, 3) := by decide +kernel
theorem eMd_readPile_79 : decode prog_14_method_25_code 79 = .ok (.return_, 1) := by decide +kernel
theorem eMd_readPile_80 : decode prog_14_method_25_code 80 = .ok (.aload_n 0, 1) := by decide +kernel
theorem eMd_readPile_81 : decode prog_14_method_25_code 81 = .ok (.getfield 56, 3) := by decide +kernel
theorem eMd_readPile_84 : decode prog_14_method_25_code 84 = .ok (.bipush 16, 2) := by decide +kernel
theorem eMd_readPile_86 : decode prog_14_method_25_code 86 = .ok (.iload_n 1, 1) := by decide +kernel
theorem eMd_readPile_87 : decode prog_14_method_25_code 87 = .ok (.iadd, 1) := by decide +kernel
theorem eMd_readPile_88 : decode prog_14_method_25_code 88 = .ok (.iload_n 2, 1) := by decide +kernel
theorem eMd_readPile_89 : decode prog_14_method_25_code 89 = .ok (.iastore, 1) := by decide +kernel
theorem eMd_readPile_90 : decode prog_14_method_25_code 90 = .ok (.aload_n 0, 1) := by decide +kernel
theorem eMd_readPile_91 : decode prog_14_method_25_code 91 = .ok (.bipush 12, 2) := by decide +kernel
theorem eMd_readPile_93 : decode prog_14_method_25_code 93 = .ok (.aload_n 0, 1) := by decide +kernel
theorem eMd_readPile_94 : decode prog_14_method_25_code 94 = .ok (.bipush 12, 2) := by decide +kernel
theorem eMd_readPile_96 : decode prog_14_method_25_code 96 = .ok (.invokevirtual 195, 3) := by decide +kernel
theorem eMd_readPile_99 : decode prog_14_method_25_code 99 = .ok (.iconst 1, 1) := by decide +kernel
theorem eMd_readPile_100 : decode prog_14_method_25_code 100 = .ok (.iadd, 1) := by decide +kernel
theorem eMd_readPile_101 : decode prog_14_method_25_code 101 = .ok (.invokevirtual 191, 3) := by decide +kernel
theorem eMd_readPile_104 : decode prog_14_method_25_code 104 = .ok (.return_, 1) := by decide +kernel
theorem eMd_readJob_0 : decode prog_14_method_26_code 0 = .ok (.iconst 3, 1) := by decide +kernel
theorem eMd_readJob_1 : decode prog_14_method_26_code 1 = .ok (.aload_n 0, 1) := by decide +kernel
theorem eMd_readJob_2 : decode prog_14_method_26_code 2 = .ok (.bipush 11, 2) := by decide +kernel
theorem eMd_readJob_4 : decode prog_14_method_26_code 4 = .ok (.invokevirtual 195, 3) := by decide +kernel
theorem eMd_readJob_7 : decode prog_14_method_26_code 7 = .ok (.iadd, 1) := by decide +kernel
theorem eMd_readJob_8 : decode prog_14_method_26_code 8 = .ok (.istore_n 1, 1) := by decide +kernel
theorem eMd_readJob_9 : decode prog_14_method_26_code 9 = .ok (.iload_n 1, 1) := by decide +kernel
theorem eMd_readJob_10 : decode prog_14_method_26_code 10 = .ok (.bipush 6, 2) := by decide +kernel
theorem eMd_readJob_12 : decode prog_14_method_26_code 12 = .ok (.if_icmp .ne 8, 3) := by decide +kernel
theorem eMd_readJob_15 : decode prog_14_method_26_code 15 = .ok (.aload_n 0, 1) := by decide +kernel
theorem eMd_readJob_16 : decode prog_14_method_26_code 16 = .ok (.iconst 2, 1) := by decide +kernel
theorem eMd_readJob_17 : decode prog_14_method_26_code 17 = .ok (.invokevirtual 169, 3) := by decide +kernel
theorem eMd_readJob_20 : decode prog_14_method_26_code 20 = .ok (.aload_n 0, 1) := by decide +kernel
theorem eMd_readJob_21 : decode prog_14_method_26_code 21 = .ok (.invokevirtual 173, 3) := by decide +kernel
theorem eMd_readJob_24 : decode prog_14_method_26_code 24 = .ok (.aload_n 0, 1) := by decide +kernel
theorem eMd_readJob_25 : decode prog_14_method_26_code 25 = .ok (.iconst 0, 1) := by decide +kernel
theorem eMd_readJob_26 : decode prog_14_method_26_code 26 = .ok (.aload_n 0, 1) := by decide +kernel
theorem eMd_readJob_27 : decode prog_14_method_26_code 27 = .ok (.iconst 0, 1) := by decide +kernel
theorem eMd_readJob_28 : decode prog_14_method_26_code 28 = .ok (.invokevirtual 195, 3) := by decide +kernel
theorem eMd_readJob_31 : decode prog_14_method_26_code 31 = .ok (.iconst 1, 1) := by decide +kernel
theorem eMd_readJob_32 : decode prog_14_method_26_code 32 = .ok (.isub, 1) := by decide +kernel
theorem eMd_readJob_33 : decode prog_14_method_26_code 33 = .ok (.invokevirtual 187, 3) := by decide +kernel
theorem eMd_readJob_36 : decode prog_14_method_26_code 36 = .ok (.istore_n 2, 1) := by decide +kernel
theorem eMd_readJob_37 : decode prog_14_method_26_code 37 = .ok (.aload_n 0, 1) := by decide +kernel
theorem eMd_readJob_38 : decode prog_14_method_26_code 38 = .ok (.iconst 0, 1) := by decide +kernel
theorem eMd_readJob_39 : decode prog_14_method_26_code 39 = .ok (.aload_n 0, 1) := by decide +kernel
theorem eMd_readJob_40 : decode prog_14_method_26_code 40 = .ok (.iconst 0, 1) := by decide +kernel
theorem eMd_readJob_41 : decode prog_14_method_26_code 41 = .ok (.invokevirtual 195, 3) := by decide +kernel
theorem eMd_readJob_44 : decode prog_14_method_26_code 44 = .ok (.iconst 1, 1) := by decide +kernel
theorem eMd_readJob_45 : decode prog_14_method_26_code 45 = .ok (.isub, 1) := by decide +kernel
theorem eMd_readJob_46 : decode prog_14_method_26_code 46 = .ok (.invokevirtual 203, 3) := by decide +kernel
theorem eMd_readJob_49 : decode prog_14_method_26_code 49 = .ok (.istore_n 3, 1) := by decide +kernel
theorem eMd_readJob_50 : decode prog_14_method_26_code 50 = .ok (.aload_n 0, 1) := by decide +kernel
theorem eMd_readJob_51 : decode prog_14_method_26_code 51 = .ok (.getfield 160, 3) := by decide +kernel
theorem eMd_readJob_54 : decode prog_14_method_26_code 54 = .ok (.ifCond .ne 13, 3) := by decide +kernel
theorem eMd_readJob_57 : decode prog_14_method_26_code 57 = .ok (.iload_n 2, 1) := by decide +kernel
theorem eMd_readJob_58 : decode prog_14_method_26_code 58 = .ok (.iload_n 3, 1) := by decide +kernel
theorem eMd_readJob_59 : decode prog_14_method_26_code 59 = .ok (.if_icmp .ne 8, 3) := by decide +kernel
theorem eMd_readJob_62 : decode prog_14_method_26_code 62 = .ok (.aload_n 0, 1) := by decide +kernel
theorem eMd_readJob_63 : decode prog_14_method_26_code 63 = .ok (.iconst 2, 1) := by decide +kernel
theorem eMd_readJob_64 : decode prog_14_method_26_code 64 = .ok (.invokevirtual 169, 3) := by decide +kernel
theorem eMd_readJob_67 : decode prog_14_method_26_code 67 = .ok (.aload_n 0, 1) := by decide +kernel
theorem eMd_readJob_68 : decode prog_14_method_26_code 68 = .ok (.invokevirtual 173, 3) := by decide +kernel
theorem eMd_readJob_71 : decode prog_14_method_26_code 71 = .ok (.aload_n 0, 1) := by decide +kernel
theorem eMd_readJob_72 : decode prog_14_method_26_code 72 = .ok (.getfield 160, 3) := by decide +kernel
theorem eMd_readJob_75 : decode prog_14_method_26_code 75 = .ok (.ifCond .eq 4, 3) := by decide +kernel
theorem eMd_readJob_78 : decode prog_14_method_26_code 78 = .ok (.return_, 1) := by decide +kernel
theorem eMd_readJob_79 : decode prog_14_method_26_code 79 = .ok (.aload_n 0, 1) := by decide +kernel
theorem eMd_readJob_80 : decode prog_14_method_26_code 80 = .ok (.getfield 50, 3) := by decide +kernel
theorem eMd_readJob_83 : decode prog_14_method_26_code 83 = .ok (.iload_n 1, 1) := by decide +kernel
theorem eMd_readJob_84 : decode prog_14_method_26_code 84 = .ok (.iload_n 2, 1) := by decide +kernel
theorem eMd_readJob_85 : decode prog_14_method_26_code 85 = .ok (.iastore, 1) := by decide +kernel
theorem eMd_readJob_86 : decode prog_14_method_26_code 86 = .ok (.aload_n 0, 1) := by decide +kernel
theorem eMd_readJob_87 : decode prog_14_method_26_code 87 = .ok (.getfield 53, 3) := by decide +kernel
theorem eMd_readJob_90 : decode prog_14_method_26_code 90 = .ok (.iload_n 1, 1) := by decide +kernel
theorem eMd_readJob_91 : decode prog_14_method_26_code 91 = .ok (.iload_n 3, 1) := by decide +kernel
theorem eMd_readJob_92 : decode prog_14_method_26_code 92 = .ok (.iastore, 1) := by decide +kernel
theorem eMd_readJob_93 : decode prog_14_method_26_code 93 = .ok (.aload_n 0, 1) := by decide +kernel
theorem eMd_readJob_94 : decode prog_14_method_26_code 94 = .ok (.bipush 11, 2) := by decide +kernel
theorem eMd_readJob_96 : decode prog_14_method_26_code 96 = .ok (.aload_n 0, 1) := by decide +kernel
theorem eMd_readJob_97 : decode prog_14_method_26_code 97 = .ok (.bipush 11, 2) := by decide +kernel
theorem eMd_readJob_99 : decode prog_14_method_26_code 99 = .ok (.invokevirtual 195, 3) := by decide +kernel
theorem eMd_readJob_102 : decode prog_14_method_26_code 102 = .ok (.iconst 1, 1) := by decide +kernel
theorem eMd_readJob_103 : decode prog_14_method_26_code 103 = .ok (.iadd, 1) := by decide +kernel
theorem eMd_readJob_104 : decode prog_14_method_26_code 104 = .ok (.invokevirtual 191, 3) := by decide +kernel
theorem eMd_readJob_107 : decode prog_14_method_26_code 107 = .ok (.return_, 1) := by decide +kernel
theorem eMd_readDo_0 : decode prog_14_method_27_code 0 = .ok (.bipush 16, 2) := by decide +kernel
theorem eMd_readDo_2 : decode prog_14_method_27_code 2 = .ok (.aload_n 0, 1) := by decide +kernel
theorem eMd_readDo_3 : decode prog_14_method_27_code 3 = .ok (.iconst 5, 1) := by decide +kernel
theorem eMd_readDo_4 : decode prog_14_method_27_code 4 = .ok (.invokevirtual 195, 3) := by decide +kernel
theorem eMd_readDo_7 : decode prog_14_method_27_code 7 = .ok (.iadd, 1) := by decide +kernel
theorem eMd_readDo_8 : decode prog_14_method_27_code 8 = .ok (.istore_n 1, 1) := by decide +kernel
theorem eMd_readDo_9 : decode prog_14_method_27_code 9 = .ok (.iload_n 1, 1) := by decide +kernel
theorem eMd_readDo_10 : decode prog_14_method_27_code 10 = .ok (.bipush 32, 2) := by decide +kernel
theorem eMd_readDo_12 : decode prog_14_method_27_code 12 = .ok (.if_icmp .ne 8, 3) := by decide +kernel
theorem eMd_readDo_15 : decode prog_14_method_27_code 15 = .ok (.aload_n 0, 1) := by decide +kernel
theorem eMd_readDo_16 : decode prog_14_method_27_code 16 = .ok (.iconst 2, 1) := by decide +kernel
theorem eMd_readDo_17 : decode prog_14_method_27_code 17 = .ok (.invokevirtual 169, 3) := by decide +kernel
theorem eMd_readDo_20 : decode prog_14_method_27_code 20 = .ok (.aload_n 0, 1) := by decide +kernel
theorem eMd_readDo_21 : decode prog_14_method_27_code 21 = .ok (.invokevirtual 173, 3) := by decide +kernel
theorem eMd_readDo_24 : decode prog_14_method_27_code 24 = .ok (.aload_n 0, 1) := by decide +kernel
theorem eMd_readDo_25 : decode prog_14_method_27_code 25 = .ok (.getfield 160, 3) := by decide +kernel
theorem eMd_readDo_28 : decode prog_14_method_27_code 28 = .ok (.ifCond .ne 24, 3) := by decide +kernel
theorem eMd_readDo_31 : decode prog_14_method_27_code 31 = .ok (.aload_n 0, 1) := by decide +kernel
theorem eMd_readDo_32 : decode prog_14_method_27_code 32 = .ok (.getfield 126, 3) := by decide +kernel
theorem eMd_readDo_35 : decode prog_14_method_27_code 35 = .ok (.ifCond .ne 12, 3) := by decide +kernel
theorem eMd_readDo_38 : decode prog_14_method_27_code 38 = .ok (.aload_n 0, 1) := by decide +kernel
theorem eMd_readDo_39 : decode prog_14_method_27_code 39 = .ok (.getfield 136, 3) := by decide +kernel
theorem eMd_readDo_42 : decode prog_14_method_27_code 42 = .ok (.bipush 12, 2) := by decide +kernel
theorem eMd_readDo_44 : decode prog_14_method_27_code 44 = .ok (.if_icmp .ge 8, 3) := by decide +kernel
theorem eMd_readDo_47 : decode prog_14_method_27_code 47 = .ok (.aload_n 0, 1) := by decide +kernel
theorem eMd_readDo_48 : decode prog_14_method_27_code 48 = .ok (.iconst 1, 1) := by decide +kernel
theorem eMd_readDo_49 : decode prog_14_method_27_code 49 = .ok (.invokevirtual 169, 3) := by decide +kernel
theorem eMd_readDo_52 : decode prog_14_method_27_code 52 = .ok (.aload_n 0, 1) := by decide +kernel
theorem eMd_readDo_53 : decode prog_14_method_27_code 53 = .ok (.getfield 136, 3) := by decide +kernel
theorem eMd_readDo_56 : decode prog_14_method_27_code 56 = .ok (.istore_n 2, 1) := by decide +kernel
theorem eMd_readDo_57 : decode prog_14_method_27_code 57 = .ok (.aload_n 0, 1) := by decide +kernel
theorem eMd_readDo_58 : decode prog_14_method_27_code 58 = .ok (.invokevirtual 173, 3) := by decide +kernel
theorem eMd_readDo_61 : decode prog_14_method_27_code 61 = .ok (.aload_n 0, 1) := by decide +kernel
theorem eMd_readDo_62 : decode prog_14_method_27_code 62 = .ok (.iconst 1, 1) := by decide +kernel
theorem eMd_readDo_63 : decode prog_14_method_27_code 63 = .ok (.bipush 30, 2) := by decide +kernel
theorem eMd_readDo_65 : decode prog_14_method_27_code 65 = .ok (.invokevirtual 187, 3) := by decide +kernel
theorem eMd_readDo_68 : decode prog_14_method_27_code 68 = .ok (.istore_n 3, 1) := by decide +kernel
theorem eMd_readDo_69 : decode prog_14_method_27_code 69 = .ok (.aload_n 0, 1) := by decide +kernel
theorem eMd_readDo_70 : decode prog_14_method_27_code 70 = .ok (.getfield 160, 3) := by decide +kernel
theorem eMd_readDo_73 : decode prog_14_method_27_code 73 = .ok (.ifCond .eq 4, 3) := by decide +kernel
theorem eMd_readDo_76 : decode prog_14_method_27_code 76 = .ok (.return_, 1) := by decide +kernel
theorem eMd_readDo_77 : decode prog_14_method_27_code 77 = .ok (.aload_n 0, 1) := by decide +kernel
theorem eMd_readDo_78 : decode prog_14_method_27_code 78 = .ok (.getfield 44, 3) := by decide +kernel
theorem eMd_readDo_81 : decode prog_14_method_27_code 81 = .ok (.iload_n 1, 1) := by decide +kernel
theorem eMd_readDo_82 : decode prog_14_method_27_code 82 = .ok (.iload_n 2, 1) := by decide +kernel
theorem eMd_readDo_83 : decode prog_14_method_27_code 83 = .ok (.iastore, 1) := by decide +kernel
theorem eMd_readDo_84 : decode prog_14_method_27_code 84 = .ok (.aload_n 0, 1) := by decide +kernel
theorem eMd_readDo_85 : decode prog_14_method_27_code 85 = .ok (.getfield 47, 3) := by decide +kernel
theorem eMd_readDo_88 : decode prog_14_method_27_code 88 = .ok (.iload_n 1, 1) := by decide +kernel
theorem eMd_readDo_89 : decode prog_14_method_27_code 89 = .ok (.iload_n 3, 1) := by decide +kernel
theorem eMd_readDo_90 : decode prog_14_method_27_code 90 = .ok (.iastore, 1) := by decide +kernel
theorem eMd_readDo_91 : decode prog_14_method_27_code 91 = .ok (.aload_n 0, 1) := by decide +kernel
theorem eMd_readDo_92 : decode prog_14_method_27_code 92 = .ok (.iconst 5, 1) := by decide +kernel
theorem eMd_readDo_93 : decode prog_14_method_27_code 93 = .ok (.aload_n 0, 1) := by decide +kernel
theorem eMd_readDo_94 : decode prog_14_method_27_code 94 = .ok (.iconst 5, 1) := by decide +kernel
theorem eMd_readDo_95 : decode prog_14_method_27_code 95 = .ok (.invokevirtual 195, 3) := by decide +kernel
theorem eMd_readDo_98 : decode prog_14_method_27_code 98 = .ok (.iconst 1, 1) := by decide +kernel
theorem eMd_readDo_99 : decode prog_14_method_27_code 99 = .ok (.iadd, 1) := by decide +kernel
theorem eMd_readDo_100 : decode prog_14_method_27_code 100 = .ok (.invokevirtual 191, 3) := by decide +kernel
theorem eMd_readDo_103 : decode prog_14_method_27_code 103 = .ok (.return_, 1) := by decide +kernel
theorem eMd_readLine_0 : decode prog_14_method_28_code 0 = .ok (.aload_n 0, 1) := by decide +kernel
theorem eMd_readLine_1 : decode prog_14_method_28_code 1 = .ok (.getfield 126, 3) := by decide +kernel
theorem eMd_readLine_4 : decode prog_14_method_28_code 4 = .ok (.ifCond .ne 10, 3) := by decide +kernel
theorem eMd_readLine_7 : decode prog_14_method_28_code 7 = .ok (.aload_n 0, 1) := by decide +kernel
theorem eMd_readLine_8 : decode prog_14_method_28_code 8 = .ok (.getfield 136, 3) := by decide +kernel
theorem eMd_readLine_11 : decode prog_14_method_28_code 11 = .ok (.goto 5, 3) := by decide +kernel
theorem eMd_readLine_14 : decode prog_14_method_28_code 14 = .ok (.bipush 12, 2) := by decide +kernel
theorem eMd_readLine_16 : decode prog_14_method_28_code 16 = .ok (.istore_n 1, 1) := by decide +kernel
theorem eMd_readLine_17 : decode prog_14_method_28_code 17 = .ok (.iload_n 1, 1) := by decide +kernel
theorem eMd_readLine_18 : decode prog_14_method_28_code 18 = .ok (.ifCond .ne 15, 3) := by decide +kernel
theorem eMd_readLine_21 : decode prog_14_method_28_code 21 = .ok (.aload_n 0, 1) := by decide +kernel
theorem eMd_readLine_22 : decode prog_14_method_28_code 22 = .ok (.iconst 0, 1) := by decide +kernel
theorem eMd_readLine_23 : decode prog_14_method_28_code 23 = .ok (.iconst 0, 1) := by decide +kernel
theorem eMd_readLine_24 : decode prog_14_method_28_code 24 = .ok (.iconst 4, 1) := by decide +kernel
theorem eMd_readLine_25 : decode prog_14_method_28_code 25 = .ok (.bipush 16, 2) := by decide +kernel
theorem eMd_readLine_27 : decode prog_14_method_28_code 27 = .ok (.invokevirtual 206, 3) := by decide +kernel
theorem eMd_readLine_30 : decode prog_14_method_28_code 30 = .ok (.goto 159, 3) := by decide +kernel
theorem eMd_readLine_33 : decode prog_14_method_28_code 33 = .ok (.iload_n 1, 1) := by decide +kernel
theorem eMd_readLine_34 : decode prog_14_method_28_code 34 = .ok (.iconst 1, 1) := by decide +kernel
theorem eMd_readLine_35 : decode prog_14_method_28_code 35 = .ok (.if_icmp .ne 15, 3) := by decide +kernel
theorem eMd_readLine_38 : decode prog_14_method_28_code 38 = .ok (.aload_n 0, 1) := by decide +kernel
theorem eMd_readLine_39 : decode prog_14_method_28_code 39 = .ok (.iconst 1, 1) := by decide +kernel
theorem eMd_readLine_40 : decode prog_14_method_28_code 40 = .ok (.iconst 1, 1) := by decide +kernel
theorem eMd_readLine_41 : decode prog_14_method_28_code 41 = .ok (.iconst 2, 1) := by decide +kernel
theorem eMd_readLine_42 : decode prog_14_method_28_code 42 = .ok (.bipush 6, 2) := by decide +kernel
theorem eMd_readLine_44 : decode prog_14_method_28_code 44 = .ok (.invokevirtual 206, 3) := by decide +kernel
theorem eMd_readLine_47 : decode prog_14_method_28_code 47 = .ok (.goto 142, 3) := by decide +kernel
theorem eMd_readLine_50 : decode prog_14_method_28_code 50 = .ok (.iload_n 1, 1) := by decide +kernel
theorem eMd_readLine_51 : decode prog_14_method_28_code 51 = .ok (.iconst 2, 1) := by decide +kernel
theorem eMd_readLine_52 : decode prog_14_method_28_code 52 = .ok (.if_icmp .ne 14, 3) := by decide +kernel
theorem eMd_readLine_55 : decode prog_14_method_28_code 55 = .ok (.aload_n 0, 1) := by decide +kernel
theorem eMd_readLine_56 : decode prog_14_method_28_code 56 = .ok (.iconst 2, 1) := by decide +kernel
theorem eMd_readLine_57 : decode prog_14_method_28_code 57 = .ok (.iconst 2, 1) := by decide +kernel
theorem eMd_readLine_58 : decode prog_14_method_28_code 58 = .ok (.iconst 1, 1) := by decide +kernel
theorem eMd_readLine_59 : decode prog_14_method_28_code 59 = .ok (.iconst 2, 1) := by decide +kernel
theorem eMd_readLine_60 : decode prog_14_method_28_code 60 = .ok (.invokevirtual 206, 3) := by decide +kernel
theorem eMd_readLine_63 : decode prog_14_method_28_code 63 = .ok (.goto 126, 3) := by decide +kernel
theorem eMd_readLine_66 : decode prog_14_method_28_code 66 = .ok (.iload_n 1, 1) := by decide +kernel
theorem eMd_readLine_67 : decode prog_14_method_28_code 67 = .ok (.iconst 3, 1) := by decide +kernel
theorem eMd_readLine_68 : decode prog_14_method_28_code 68 = .ok (.if_icmp .ne 14, 3) := by decide +kernel
theorem eMd_readLine_71 : decode prog_14_method_28_code 71 = .ok (.aload_n 0, 1) := by decide +kernel
theorem eMd_readLine_72 : decode prog_14_method_28_code 72 = .ok (.iconst 3, 1) := by decide +kernel
theorem eMd_readLine_73 : decode prog_14_method_28_code 73 = .ok (.iconst 3, 1) := by decide +kernel
theorem eMd_readLine_74 : decode prog_14_method_28_code 74 = .ok (.iconst 1, 1) := by decide +kernel
theorem eMd_readLine_75 : decode prog_14_method_28_code 75 = .ok (.iconst 4, 1) := by decide +kernel
theorem eMd_readLine_76 : decode prog_14_method_28_code 76 = .ok (.invokevirtual 206, 3) := by decide +kernel
theorem eMd_readLine_79 : decode prog_14_method_28_code 79 = .ok (.goto 110, 3) := by decide +kernel
theorem eMd_readLine_82 : decode prog_14_method_28_code 82 = .ok (.iload_n 1, 1) := by decide +kernel
theorem eMd_readLine_83 : decode prog_14_method_28_code 83 = .ok (.iconst 4, 1) := by decide +kernel
theorem eMd_readLine_84 : decode prog_14_method_28_code 84 = .ok (.if_icmp .ne 10, 3) := by decide +kernel
theorem eMd_readLine_87 : decode prog_14_method_28_code 87 = .ok (.aload_n 0, 1) := by decide +kernel
theorem eMd_readLine_88 : decode prog_14_method_28_code 88 = .ok (.invokevirtual 210, 3) := by decide +kernel
theorem eMd_readLine_91 : decode prog_14_method_28_code 91 = .ok (.goto 98, 3) := by decide +kernel
theorem eMd_readLine_94 : decode prog_14_method_28_code 94 = .ok (.iload_n 1, 1) := by decide +kernel
theorem eMd_readLine_95 : decode prog_14_method_28_code 95 = .ok (.iconst 5, 1) := by decide +kernel
theorem eMd_readLine_96 : decode prog_14_method_28_code 96 = .ok (.if_icmp .ne 10, 3) := by decide +kernel
theorem eMd_readLine_99 : decode prog_14_method_28_code 99 = .ok (.aload_n 0, 1) := by decide +kernel
theorem eMd_readLine_100 : decode prog_14_method_28_code 100 = .ok (.invokevirtual 213, 3) := by decide +kernel
theorem eMd_readLine_103 : decode prog_14_method_28_code 103 = .ok (.goto 86, 3) := by decide +kernel
theorem eMd_readLine_106 : decode prog_14_method_28_code 106 = .ok (.iload_n 1, 1) := by decide +kernel
theorem eMd_readLine_107 : decode prog_14_method_28_code 107 = .ok (.bipush 6, 2) := by decide +kernel
theorem eMd_readLine_109 : decode prog_14_method_28_code 109 = .ok (.if_icmp .ne 10, 3) := by decide +kernel
theorem eMd_readLine_112 : decode prog_14_method_28_code 112 = .ok (.aload_n 0, 1) := by decide +kernel
theorem eMd_readLine_113 : decode prog_14_method_28_code 113 = .ok (.invokevirtual 216, 3) := by decide +kernel
theorem eMd_readLine_116 : decode prog_14_method_28_code 116 = .ok (.goto 73, 3) := by decide +kernel
theorem eMd_readLine_119 : decode prog_14_method_28_code 119 = .ok (.iload_n 1, 1) := by decide +kernel
theorem eMd_readLine_120 : decode prog_14_method_28_code 120 = .ok (.bipush 7, 2) := by decide +kernel
theorem eMd_readLine_122 : decode prog_14_method_28_code 122 = .ok (.if_icmp .ne 10, 3) := by decide +kernel
theorem eMd_readLine_125 : decode prog_14_method_28_code 125 = .ok (.aload_n 0, 1) := by decide +kernel
theorem eMd_readLine_126 : decode prog_14_method_28_code 126 = .ok (.invokevirtual 219, 3) := by decide +kernel
theorem eMd_readLine_129 : decode prog_14_method_28_code 129 = .ok (.goto 60, 3) := by decide +kernel
theorem eMd_readLine_132 : decode prog_14_method_28_code 132 = .ok (.iload_n 1, 1) := by decide +kernel
theorem eMd_readLine_133 : decode prog_14_method_28_code 133 = .ok (.bipush 8, 2) := by decide +kernel
theorem eMd_readLine_135 : decode prog_14_method_28_code 135 = .ok (.if_icmp .ne 10, 3) := by decide +kernel
theorem eMd_readLine_138 : decode prog_14_method_28_code 138 = .ok (.aload_n 0, 1) := by decide +kernel
theorem eMd_readLine_139 : decode prog_14_method_28_code 139 = .ok (.invokevirtual 222, 3) := by decide +kernel
theorem eMd_readLine_142 : decode prog_14_method_28_code 142 = .ok (.goto 47, 3) := by decide +kernel
theorem eMd_readLine_145 : decode prog_14_method_28_code 145 = .ok (.iload_n 1, 1) := by decide +kernel
theorem eMd_readLine_146 : decode prog_14_method_28_code 146 = .ok (.bipush 9, 2) := by decide +kernel
theorem eMd_readLine_148 : decode prog_14_method_28_code 148 = .ok (.if_icmp .ne 10, 3) := by decide +kernel
theorem eMd_readLine_151 : decode prog_14_method_28_code 151 = .ok (.aload_n 0, 1) := by decide +kernel
theorem eMd_readLine_152 : decode prog_14_method_28_code 152 = .ok (.invokevirtual 225, 3) := by decide +kernel
theorem eMd_readLine_155 : decode prog_14_method_28_code 155 = .ok (.goto 34, 3) := by decide +kernel
theorem eMd_readLine_158 : decode prog_14_method_28_code 158 = .ok (.iload_n 1, 1) := by decide +kernel
theorem eMd_readLine_159 : decode prog_14_method_28_code 159 = .ok (.bipush 10, 2) := by decide +kernel
theorem eMd_readLine_161 : decode prog_14_method_28_code 161 = .ok (.if_icmp .ne 10, 3) := by decide +kernel
theorem eMd_readLine_164 : decode prog_14_method_28_code 164 = .ok (.aload_n 0, 1) := by decide +kernel
theorem eMd_readLine_165 : decode prog_14_method_28_code 165 = .ok (.invokevirtual 228, 3) := by decide +kernel
theorem eMd_readLine_168 : decode prog_14_method_28_code 168 = .ok (.goto 21, 3) := by decide +kernel
theorem eMd_readLine_171 : decode prog_14_method_28_code 171 = .ok (.iload_n 1, 1) := by decide +kernel
theorem eMd_readLine_172 : decode prog_14_method_28_code 172 = .ok (.bipush 11, 2) := by decide +kernel
theorem eMd_readLine_174 : decode prog_14_method_28_code 174 = .ok (.if_icmp .ne 10, 3) := by decide +kernel
theorem eMd_readLine_177 : decode prog_14_method_28_code 177 = .ok (.aload_n 0, 1) := by decide +kernel
theorem eMd_readLine_178 : decode prog_14_method_28_code 178 = .ok (.invokevirtual 231, 3) := by decide +kernel
theorem eMd_readLine_181 : decode prog_14_method_28_code 181 = .ok (.goto 8, 3) := by decide +kernel
theorem eMd_readLine_184 : decode prog_14_method_28_code 184 = .ok (.aload_n 0, 1) := by decide +kernel
theorem eMd_readLine_185 : decode prog_14_method_28_code 185 = .ok (.iconst 1, 1) := by decide +kernel
theorem eMd_readLine_186 : decode prog_14_method_28_code 186 = .ok (.invokevirtual 169, 3) := by decide +kernel
theorem eMd_readLine_189 : decode prog_14_method_28_code 189 = .ok (.iload_n 1, 1) := by decide +kernel
theorem eMd_readLine_190 : decode prog_14_method_28_code 190 = .ok (.iconst 4, 1) := by decide +kernel
theorem eMd_readLine_191 : decode prog_14_method_28_code 191 = .ok (.if_icmp .lt 14, 3) := by decide +kernel
theorem eMd_readLine_194 : decode prog_14_method_28_code 194 = .ok (.iload_n 1, 1) := by decide +kernel
theorem eMd_readLine_195 : decode prog_14_method_28_code 195 = .ok (.bipush 10, 2) := by decide +kernel
theorem eMd_readLine_197 : decode prog_14_method_28_code 197 = .ok (.if_icmp .gt 8, 3) := by decide +kernel
theorem eMd_readLine_200 : decode prog_14_method_28_code 200 = .ok (.aload_n 0, 1) := by decide +kernel
theorem eMd_readLine_201 : decode prog_14_method_28_code 201 = .ok (.iconst 1, 1) := by decide +kernel
theorem eMd_readLine_202 : decode prog_14_method_28_code 202 = .ok (.putfield 180, 3) := by decide +kernel
theorem eMd_readLine_205 : decode prog_14_method_28_code 205 = .ok (.aload_n 0, 1) := by decide +kernel
theorem eMd_readLine_206 : decode prog_14_method_28_code 206 = .ok (.getfield 160, 3) := by decide +kernel
theorem eMd_readLine_209 : decode prog_14_method_28_code 209 = .ok (.ifCond .ne 16, 3) := by decide +kernel
theorem eMd_readLine_212 : decode prog_14_method_28_code 212 = .ok (.aload_n 0, 1) := by decide +kernel
theorem eMd_readLine_213 : decode prog_14_method_28_code 213 = .ok (.getfield 126, 3) := by decide +kernel
theorem eMd_readLine_216 : decode prog_14_method_28_code 216 = .ok (.iconst 4, 1) := by decide +kernel
theorem eMd_readLine_217 : decode prog_14_method_28_code 217 = .ok (.if_icmp .eq 8, 3) := by decide +kernel
theorem eMd_readLine_220 : decode prog_14_method_28_code 220 = .ok (.aload_n 0, 1) := by decide +kernel
theorem eMd_readLine_221 : decode prog_14_method_28_code 221 = .ok (.iconst 1, 1) := by decide +kernel
theorem eMd_readLine_222 : decode prog_14_method_28_code 222 = .ok (.invokevirtual 169, 3) := by decide +kernel
theorem eMd_readLine_225 : decode prog_14_method_28_code 225 = .ok (.aload_n 0, 1) := by decide +kernel
theorem eMd_readLine_226 : decode prog_14_method_28_code 226 = .ok (.invokevirtual 173, 3) := by decide +kernel
theorem eMd_readLine_229 : decode prog_14_method_28_code 229 = .ok (.aload_n 0, 1) := by decide +kernel
theorem eMd_readLine_230 : decode prog_14_method_28_code 230 = .ok (.dup, 1) := by decide +kernel
theorem eMd_readLine_231 : decode prog_14_method_28_code 231 = .ok (.getfield 234, 3) := by decide +kernel
theorem eMd_readLine_234 : decode prog_14_method_28_code 234 = .ok (.iconst 1, 1) := by decide +kernel
theorem eMd_readLine_235 : decode prog_14_method_28_code 235 = .ok (.iadd, 1) := by decide +kernel
theorem eMd_readLine_236 : decode prog_14_method_28_code 236 = .ok (.putfield 234, 3) := by decide +kernel
theorem eMd_readLine_239 : decode prog_14_method_28_code 239 = .ok (.return_, 1) := by decide +kernel
theorem eMd_readSeed_0 : decode prog_14_method_29_code 0 = .ok (.aload_n 0, 1) := by decide +kernel
theorem eMd_readSeed_1 : decode prog_14_method_29_code 1 = .ok (.bipush 11, 2) := by decide +kernel
theorem eMd_readSeed_3 : decode prog_14_method_29_code 3 = .ok (.invokevirtual 184, 3) := by decide +kernel
theorem eMd_readSeed_6 : decode prog_14_method_29_code 6 = .ok (.aload_n 0, 1) := by decide +kernel
theorem eMd_readSeed_7 : decode prog_14_method_29_code 7 = .ok (.bipush 8, 2) := by decide +kernel
theorem eMd_readSeed_9 : decode prog_14_method_29_code 9 = .ok (.aload_n 0, 1) := by decide +kernel
theorem eMd_readSeed_10 : decode prog_14_method_29_code 10 = .ok (.iconst 0, 1) := by decide +kernel
theorem eMd_readSeed_11 : decode prog_14_method_29_code 11 = .ok (.ldc 148, 2) := by decide +kernel
theorem eMd_readSeed_13 : decode prog_14_method_29_code 13 = .ok (.invokevirtual 187, 3) := by decide +kernel
theorem eMd_readSeed_16 : decode prog_14_method_29_code 16 = .ok (.invokevirtual 191, 3) := by decide +kernel
theorem eMd_readSeed_19 : decode prog_14_method_29_code 19 = .ok (.return_, 1) := by decide +kernel
theorem eMd_freshText_0 : decode prog_14_method_30_code 0 = .ok (.iconst 0, 1) := by decide +kernel
theorem eMd_freshText_1 : decode prog_14_method_30_code 1 = .ok (.istore_n 1, 1) := by decide +kernel
theorem eMd_freshText_2 : decode prog_14_method_30_code 2 = .ok (.iload_n 1, 1) := by decide +kernel
theorem eMd_freshText_3 : decode prog_14_method_30_code 3 = .ok (.bipush 13, 2) := by decide +kernel
theorem eMd_freshText_5 : decode prog_14_method_30_code 5 = .ok (.if_icmp .ge 15, 3) := by decide +kernel
theorem eMd_freshText_8 : decode prog_14_method_30_code 8 = .ok (.aload_n 0, 1) := by decide +kernel
theorem eMd_freshText_9 : decode prog_14_method_30_code 9 = .ok (.iload_n 1, 1) := by decide +kernel
theorem eMd_freshText_10 : decode prog_14_method_30_code 10 = .ok (.iconst 0, 1) := by decide +kernel
theorem eMd_freshText_11 : decode prog_14_method_30_code 11 = .ok (.invokevirtual 191, 3) := by decide +kernel
theorem eMd_freshText_14 : decode prog_14_method_30_code 14 = .ok (.iinc 1 1, 3) := by decide +kernel
theorem eMd_freshText_17 : decode prog_14_method_30_code 17 = .ok (.goto (-15), 3) := by decide +kernel
theorem eMd_freshText_20 : decode prog_14_method_30_code 20 = .ok (.aload_n 0, 1) := by decide +kernel
theorem eMd_freshText_21 : decode prog_14_method_30_code 21 = .ok (.iconst 0, 1) := by decide +kernel
theorem eMd_freshText_22 : decode prog_14_method_30_code 22 = .ok (.bipush 16, 2) := by decide +kernel
theorem eMd_freshText_24 : decode prog_14_method_30_code 24 = .ok (.invokevirtual 191, 3) := by decide +kernel
theorem eMd_freshText_27 : decode prog_14_method_30_code 27 = .ok (.aload_n 0, 1) := by decide +kernel
theorem eMd_freshText_28 : decode prog_14_method_30_code 28 = .ok (.iconst 1, 1) := by decide +kernel
theorem eMd_freshText_29 : decode prog_14_method_30_code 29 = .ok (.bipush 6, 2) := by decide +kernel
theorem eMd_freshText_31 : decode prog_14_method_30_code 31 = .ok (.invokevirtual 191, 3) := by decide +kernel
theorem eMd_freshText_34 : decode prog_14_method_30_code 34 = .ok (.aload_n 0, 1) := by decide +kernel
theorem eMd_freshText_35 : decode prog_14_method_30_code 35 = .ok (.iconst 2, 1) := by decide +kernel
theorem eMd_freshText_36 : decode prog_14_method_30_code 36 = .ok (.iconst 2, 1) := by decide +kernel
theorem eMd_freshText_37 : decode prog_14_method_30_code 37 = .ok (.invokevirtual 191, 3) := by decide +kernel
theorem eMd_freshText_40 : decode prog_14_method_30_code 40 = .ok (.aload_n 0, 1) := by decide +kernel
theorem eMd_freshText_41 : decode prog_14_method_30_code 41 = .ok (.iconst 3, 1) := by decide +kernel
theorem eMd_freshText_42 : decode prog_14_method_30_code 42 = .ok (.iconst 4, 1) := by decide +kernel
theorem eMd_freshText_43 : decode prog_14_method_30_code 43 = .ok (.invokevirtual 191, 3) := by decide +kernel
theorem eMd_freshText_46 : decode prog_14_method_30_code 46 = .ok (.aload_n 0, 1) := by decide +kernel
theorem eMd_freshText_47 : decode prog_14_method_30_code 47 = .ok (.bipush 10, 2) := by decide +kernel
theorem eMd_freshText_49 : decode prog_14_method_30_code 49 = .ok (.iconst 1, 1) := by decide +kernel
theorem eMd_freshText_50 : decode prog_14_method_30_code 50 = .ok (.invokevirtual 191, 3) := by decide +kernel
theorem eMd_freshText_53 : decode prog_14_method_30_code 53 = .ok (.iconst 0, 1) := by decide +kernel
theorem eMd_freshText_54 : decode prog_14_method_30_code 54 = .ok (.istore_n 1, 1) := by decide +kernel
theorem eMd_freshText_55 : decode prog_14_method_30_code 55 = .ok (.iload_n 1, 1) := by decide +kernel
theorem eMd_freshText_56 : decode prog_14_method_30_code 56 = .ok (.bipush 18, 2) := by decide +kernel
theorem eMd_freshText_58 : decode prog_14_method_30_code 58 = .ok (.if_icmp .ge 16, 3) := by decide +kernel
theorem eMd_freshText_61 : decode prog_14_method_30_code 61 = .ok (.aload_n 0, 1) := by decide +kernel
theorem eMd_freshText_62 : decode prog_14_method_30_code 62 = .ok (.getfield 16, 3) := by decide +kernel
theorem eMd_freshText_65 : decode prog_14_method_30_code 65 = .ok (.iload_n 1, 1) := by decide +kernel
theorem eMd_freshText_66 : decode prog_14_method_30_code 66 = .ok (.iconst 0, 1) := by decide +kernel
theorem eMd_freshText_67 : decode prog_14_method_30_code 67 = .ok (.bastore, 1) := by decide +kernel
theorem eMd_freshText_68 : decode prog_14_method_30_code 68 = .ok (.iinc 1 1, 3) := by decide +kernel
theorem eMd_freshText_71 : decode prog_14_method_30_code 71 = .ok (.goto (-16), 3) := by decide +kernel
theorem eMd_freshText_74 : decode prog_14_method_30_code 74 = .ok (.iconst 0, 1) := by decide +kernel
theorem eMd_freshText_75 : decode prog_14_method_30_code 75 = .ok (.istore_n 1, 1) := by decide +kernel
theorem eMd_freshText_76 : decode prog_14_method_30_code 76 = .ok (.iload_n 1, 1) := by decide +kernel
theorem eMd_freshText_77 : decode prog_14_method_30_code 77 = .ok (.bipush 16, 2) := by decide +kernel
theorem eMd_freshText_79 : decode prog_14_method_30_code 79 = .ok (.if_icmp .ge 19, 3) := by decide +kernel
theorem eMd_freshText_82 : decode prog_14_method_30_code 82 = .ok (.aload_n 0, 1) := by decide +kernel
theorem eMd_freshText_83 : decode prog_14_method_30_code 83 = .ok (.getfield 56, 3) := by decide +kernel
theorem eMd_freshText_86 : decode prog_14_method_30_code 86 = .ok (.bipush 16, 2) := by decide +kernel
theorem eMd_freshText_88 : decode prog_14_method_30_code 88 = .ok (.iload_n 1, 1) := by decide +kernel
theorem eMd_freshText_89 : decode prog_14_method_30_code 89 = .ok (.iadd, 1) := by decide +kernel
theorem eMd_freshText_90 : decode prog_14_method_30_code 90 = .ok (.iconst 0, 1) := by decide +kernel
theorem eMd_freshText_91 : decode prog_14_method_30_code 91 = .ok (.iastore, 1) := by decide +kernel
theorem eMd_freshText_92 : decode prog_14_method_30_code 92 = .ok (.iinc 1 1, 3) := by decide +kernel
theorem eMd_freshText_95 : decode prog_14_method_30_code 95 = .ok (.goto (-19), 3) := by decide +kernel
theorem eMd_freshText_98 : decode prog_14_method_30_code 98 = .ok (.aload_n 0, 1) := by decide +kernel
theorem eMd_freshText_99 : decode prog_14_method_30_code 99 = .ok (.iconst 0, 1) := by decide +kernel
theorem eMd_freshText_100 : decode prog_14_method_30_code 100 = .ok (.putfield 180, 3) := by decide +kernel
theorem eMd_freshText_103 : decode prog_14_method_30_code 103 = .ok (.return_, 1) := by decide +kernel
theorem eMd_readText_0 : decode prog_14_method_31_code 0 = .ok (.aload_n 0, 1) := by decide +kernel
theorem eMd_readText_1 : decode prog_14_method_31_code 1 = .ok (.iload_n 1, 1) := by decide +kernel
theorem eMd_readText_2 : decode prog_14_method_31_code 2 = .ok (.putfield 116, 3) := by decide +kernel
theorem eMd_readText_5 : decode prog_14_method_31_code 5 = .ok (.aload_n 0, 1) := by decide +kernel
theorem eMd_readText_6 : decode prog_14_method_31_code 6 = .ok (.iconst 0, 1) := by decide +kernel
theorem eMd_readText_7 : decode prog_14_method_31_code 7 = .ok (.putfield 113, 3) := by decide +kernel
theorem eMd_readText_10 : decode prog_14_method_31_code 10 = .ok (.aload_n 0, 1) := by decide +kernel
theorem eMd_readText_11 : decode prog_14_method_31_code 11 = .ok (.iconst 0, 1) := by decide +kernel
theorem eMd_readText_12 : decode prog_14_method_31_code 12 = .ok (.putfield 160, 3) := by decide +kernel
theorem eMd_readText_15 : decode prog_14_method_31_code 15 = .ok (.aload_n 0, 1) := by decide +kernel
theorem eMd_readText_16 : decode prog_14_method_31_code 16 = .ok (.iconst 0, 1) := by decide +kernel
theorem eMd_readText_17 : decode prog_14_method_31_code 17 = .ok (.putfield 234, 3) := by decide +kernel
theorem eMd_readText_20 : decode prog_14_method_31_code 20 = .ok (.aload_n 0, 1) := by decide +kernel
theorem eMd_readText_21 : decode prog_14_method_31_code 21 = .ok (.invokevirtual 98, 3) := by decide +kernel
theorem eMd_readText_24 : decode prog_14_method_31_code 24 = .ok (.aload_n 0, 1) := by decide +kernel
theorem eMd_readText_25 : decode prog_14_method_31_code 25 = .ok (.invokevirtual 166, 3) := by decide +kernel
theorem eMd_readText_28 : decode prog_14_method_31_code 28 = .ok (.aload_n 0, 1) := by decide +kernel
theorem eMd_readText_29 : decode prog_14_method_31_code 29 = .ok (.getfield 160, 3) := by decide +kernel
theorem eMd_readText_32 : decode prog_14_method_31_code 32 = .ok (.ifCond .ne 18, 3) := by decide +kernel
theorem eMd_readText_35 : decode prog_14_method_31_code 35 = .ok (.aload_n 0, 1) := by decide +kernel
theorem eMd_readText_36 : decode prog_14_method_31_code 36 = .ok (.getfield 126, 3) := by decide +kernel
theorem eMd_readText_39 : decode prog_14_method_31_code 39 = .ok (.iconst 5, 1) := by decide +kernel
theorem eMd_readText_40 : decode prog_14_method_31_code 40 = .ok (.if_icmp .eq 10, 3) := by decide +kernel
theorem eMd_readText_43 : decode prog_14_method_31_code 43 = .ok (.aload_n 0, 1) := by decide +kernel
theorem eMd_readText_44 : decode prog_14_method_31_code 44 = .ok (.invokevirtual 237, 3) := by decide +kernel
theorem eMd_readText_47 : decode prog_14_method_31_code 47 = .ok (.goto (-19), 3) := by decide +kernel
theorem eMd_readText_50 : decode prog_14_method_31_code 50 = .ok (.return_, 1) := by decide +kernel
theorem eMd_takeText_0 : decode prog_14_method_32_code 0 = .ok (.iconst 0, 1) := by decide +kernel
theorem eMd_takeText_1 : decode prog_14_method_32_code 1 = .ok (.istore_n 1, 1) := by decide +kernel
theorem eMd_takeText_2 : decode prog_14_method_32_code 2 = .ok (.iload_n 1, 1) := by decide +kernel
theorem eMd_takeText_3 : decode prog_14_method_32_code 3 = .ok (.bipush 13, 2) := by decide +kernel
theorem eMd_takeText_5 : decode prog_14_method_32_code 5 = .ok (.if_icmp .ge 20, 3) := by decide +kernel
theorem eMd_takeText_8 : decode prog_14_method_32_code 8 = .ok (.aload_n 0, 1) := by decide +kernel
theorem eMd_takeText_9 : decode prog_14_method_32_code 9 = .ok (.getfield 13, 3) := by decide +kernel
theorem eMd_takeText_12 : decode prog_14_method_32_code 12 = .ok (.iload_n 1, 1) := by decide +kernel
theorem eMd_takeText_13 : decode prog_14_method_32_code 13 = .ok (.aload_n 0, 1) := by decide +kernel
theorem eMd_takeText_14 : decode prog_14_method_32_code 14 = .ok (.iload_n 1, 1) := by decide +kernel
theorem eMd_takeText_15 : decode prog_14_method_32_code 15 = .ok (.invokevirtual 195, 3) := by decide +kernel
theorem eMd_takeText_18 : decode prog_14_method_32_code 18 = .ok (.iastore, 1) := by decide +kernel
theorem eMd_takeText_19 : decode prog_14_method_32_code 19 = .ok (.iinc 1 1, 3) := by decide +kernel
theorem eMd_takeText_22 : decode prog_14_method_32_code 22 = .ok (.goto (-20), 3) := by decide +kernel
theorem eMd_takeText_25 : decode prog_14_method_32_code 25 = .ok (.iconst 0, 1) := by decide +kernel
theorem eMd_takeText_26 : decode prog_14_method_32_code 26 = .ok (.istore_n 1, 1) := by decide +kernel
theorem eMd_takeText_27 : decode prog_14_method_32_code 27 = .ok (.iload_n 1, 1) := by decide +kernel
theorem eMd_takeText_28 : decode prog_14_method_32_code 28 = .ok (.bipush 6, 2) := by decide +kernel
theorem eMd_takeText_30 : decode prog_14_method_32_code 30 = .ok (.if_icmp .ge 99, 3) := by decide +kernel
theorem eMd_takeText_33 : decode prog_14_method_32_code 33 = .ok (.aload_n 0, 1) := by decide +kernel
theorem eMd_takeText_34 : decode prog_14_method_32_code 34 = .ok (.getfield 20, 3) := by decide +kernel
theorem eMd_takeText_37 : decode prog_14_method_32_code 37 = .ok (.iload_n 1, 1) := by decide +kernel
theorem eMd_takeText_38 : decode prog_14_method_32_code 38 = .ok (.aload_n 0, 1) := by decide +kernel
theorem eMd_takeText_39 : decode prog_14_method_32_code 39 = .ok (.getfield 20, 3) := by decide +kernel
theorem eMd_takeText_42 : decode prog_14_method_32_code 42 = .ok (.bipush 6, 2) := by decide +kernel
theorem eMd_takeText_44 : decode prog_14_method_32_code 44 = .ok (.iload_n 1, 1) := by decide +kernel
theorem eMd_takeText_45 : decode prog_14_method_32_code 45 = .ok (.iadd, 1) := by decide +kernel
theorem eMd_takeText_46 : decode prog_14_method_32_code 46 = .ok (.iaload, 1) := by decide +kernel
theorem eMd_takeText_47 : decode prog_14_method_32_code 47 = .ok (.iastore, 1) := by decide +kernel
theorem eMd_takeText_48 : decode prog_14_method_32_code 48 = .ok (.aload_n 0, 1) := by decide +kernel
theorem eMd_takeText_49 : decode prog_14_method_32_code 49 = .ok (.getfield 23, 3) := by decide +kernel
theorem eMd_takeText_52 : decode prog_14_method_32_code 52 = .ok (.iload_n 1, 1) := by decide +kernel
theorem eMd_takeText_53 : decode prog_14_method_32_code 53 = .ok (.aload_n 0, 1) := by decide +kernel
theorem eMd_takeText_54 : decode prog_14_method_32_code 54 = .ok (.getfield 23, 3) := by decide +kernel
theorem eMd_takeText_57 : decode prog_14_method_32_code 57 = .ok (.bipush 6, 2) := by decide +kernel
theorem eMd_takeText_59 : decode prog_14_method_32_code 59 = .ok (.iload_n 1, 1) := by decide +kernel
theorem eMd_takeText_60 : decode prog_14_method_32_code 60 = .ok (.iadd, 1) := by decide +kernel
theorem eMd_takeText_61 : decode prog_14_method_32_code 61 = .ok (.iaload, 1) := by decide +kernel
theorem eMd_takeText_62 : decode prog_14_method_32_code 62 = .ok (.iastore, 1) := by decide +kernel
theorem eMd_takeText_63 : decode prog_14_method_32_code 63 = .ok (.aload_n 0, 1) := by decide +kernel
theorem eMd_takeText_64 : decode prog_14_method_32_code 64 = .ok (.getfield 26, 3) := by decide +kernel
theorem eMd_takeText_67 : decode prog_14_method_32_code 67 = .ok (.iload_n 1, 1) := by decide +kernel
theorem eMd_takeText_68 : decode prog_14_method_32_code 68 = .ok (.aload_n 0, 1) := by decide +kernel
theorem eMd_takeText_69 : decode prog_14_method_32_code 69 = .ok (.getfield 26, 3) := by decide +kernel
theorem eMd_takeText_72 : decode prog_14_method_32_code 72 = .ok (.bipush 6, 2) := by decide +kernel
theorem eMd_takeText_74 : decode prog_14_method_32_code 74 = .ok (.iload_n 1, 1) := by decide +kernel
theorem eMd_takeText_75 : decode prog_14_method_32_code 75 = .ok (.iadd, 1) := by decide +kernel
theorem eMd_takeText_76 : decode prog_14_method_32_code 76 = .ok (.iaload, 1) := by decide +kernel
theorem eMd_takeText_77 : decode prog_14_method_32_code 77 = .ok (.iastore, 1) := by decide +kernel
theorem eMd_takeText_78 : decode prog_14_method_32_code 78 = .ok (.aload_n 0, 1) := by decide +kernel
theorem eMd_takeText_79 : decode prog_14_method_32_code 79 = .ok (.getfield 29, 3) := by decide +kernel
theorem eMd_takeText_82 : decode prog_14_method_32_code 82 = .ok (.iload_n 1, 1) := by decide +kernel
theorem eMd_takeText_83 : decode prog_14_method_32_code 83 = .ok (.aload_n 0, 1) := by decide +kernel
theorem eMd_takeText_84 : decode prog_14_method_32_code 84 = .ok (.getfield 29, 3) := by decide +kernel
theorem eMd_takeText_87 : decode prog_14_method_32_code 87 = .ok (.bipush 6, 2) := by decide +kernel
theorem eMd_takeText_89 : decode prog_14_method_32_code 89 = .ok (.iload_n 1, 1) := by decide +kernel
theorem eMd_takeText_90 : decode prog_14_method_32_code 90 = .ok (.iadd, 1) := by decide +kernel
theorem eMd_takeText_91 : decode prog_14_method_32_code 91 = .ok (.iaload, 1) := by decide +kernel
theorem eMd_takeText_92 : decode prog_14_method_32_code 92 = .ok (.iastore, 1) := by decide +kernel
theorem eMd_takeText_93 : decode prog_14_method_32_code 93 = .ok (.aload_n 0, 1) := by decide +kernel
theorem eMd_takeText_94 : decode prog_14_method_32_code 94 = .ok (.getfield 32, 3) := by decide +kernel
theorem eMd_takeText_97 : decode prog_14_method_32_code 97 = .ok (.iload_n 1, 1) := by decide +kernel
theorem eMd_takeText_98 : decode prog_14_method_32_code 98 = .ok (.aload_n 0, 1) := by decide +kernel
theorem eMd_takeText_99 : decode prog_14_method_32_code 99 = .ok (.getfield 32, 3) := by decide +kernel
theorem eMd_takeText_102 : decode prog_14_method_32_code 102 = .ok (.bipush 6, 2) := by decide +kernel
theorem eMd_takeText_104 : decode prog_14_method_32_code 104 = .ok (.iload_n 1, 1) := by decide +kernel
theorem eMd_takeText_105 : decode prog_14_method_32_code 105 = .ok (.iadd, 1) := by decide +kernel
theorem eMd_takeText_106 : decode prog_14_method_32_code 106 = .ok (.iaload, 1) := by decide +kernel
theorem eMd_takeText_107 : decode prog_14_method_32_code 107 = .ok (.iastore, 1) := by decide +kernel
theorem eMd_takeText_108 : decode prog_14_method_32_code 108 = .ok (.aload_n 0, 1) := by decide +kernel
theorem eMd_takeText_109 : decode prog_14_method_32_code 109 = .ok (.getfield 35, 3) := by decide +kernel
theorem eMd_takeText_112 : decode prog_14_method_32_code 112 = .ok (.iload_n 1, 1) := by decide +kernel
theorem eMd_takeText_113 : decode prog_14_method_32_code 113 = .ok (.aload_n 0, 1) := by decide +kernel
theorem eMd_takeText_114 : decode prog_14_method_32_code 114 = .ok (.getfield 35, 3) := by decide +kernel
theorem eMd_takeText_117 : decode prog_14_method_32_code 117 = .ok (.bipush 6, 2) := by decide +kernel
theorem eMd_takeText_119 : decode prog_14_method_32_code 119 = .ok (.iload_n 1, 1) := by decide +kernel
theorem eMd_takeText_120 : decode prog_14_method_32_code 120 = .ok (.iadd, 1) := by decide +kernel
theorem eMd_takeText_121 : decode prog_14_method_32_code 121 = .ok (.iaload, 1) := by decide +kernel
theorem eMd_takeText_122 : decode prog_14_method_32_code 122 = .ok (.iastore, 1) := by decide +kernel
theorem eMd_takeText_123 : decode prog_14_method_32_code 123 = .ok (.iinc 1 1, 3) := by decide +kernel
theorem eMd_takeText_126 : decode prog_14_method_32_code 126 = .ok (.goto (-99), 3) := by decide +kernel
theorem eMd_takeText_129 : decode prog_14_method_32_code 129 = .ok (.iconst 0, 1) := by decide +kernel
theorem eMd_takeText_130 : decode prog_14_method_32_code 130 = .ok (.istore_n 1, 1) := by decide +kernel
theorem eMd_takeText_131 : decode prog_14_method_32_code 131 = .ok (.iload_n 1, 1) := by decide +kernel
theorem eMd_takeText_132 : decode prog_14_method_32_code 132 = .ok (.bipush 8, 2) := by decide +kernel
theorem eMd_takeText_134 : decode prog_14_method_32_code 134 = .ok (.if_icmp .ge 39, 3) := by decide +kernel
theorem eMd_takeText_137 : decode prog_14_method_32_code 137 = .ok (.aload_n 0, 1) := by decide +kernel
theorem eMd_takeText_138 : decode prog_14_method_32_code 138 = .ok (.getfield 38, 3) := by decide +kernel
theorem eMd_takeText_141 : decode prog_14_method_32_code 141 = .ok (.iload_n 1, 1) := by decide +kernel
theorem eMd_takeText_142 : decode prog_14_method_32_code 142 = .ok (.aload_n 0, 1) := by decide +kernel
theorem eMd_takeText_143 : decode prog_14_method_32_code 143 = .ok (.getfield 38, 3) := by decide +kernel
theorem eMd_takeText_146 : decode prog_14_method_32_code 146 = .ok (.bipush 8, 2) := by decide +kernel
theorem eMd_takeText_148 : decode prog_14_method_32_code 148 = .ok (.iload_n 1, 1) := by decide +kernel
theorem eMd_takeText_149 : decode prog_14_method_32_code 149 = .ok (.iadd, 1) := by decide +kernel
theorem eMd_takeText_150 : decode prog_14_method_32_code 150 = .ok (.iaload, 1) := by decide +kernel
theorem eMd_takeText_151 : decode prog_14_method_32_code 151 = .ok (.iastore, 1) := by decide +kernel
theorem eMd_takeText_152 : decode prog_14_method_32_code 152 = .ok (.aload_n 0, 1) := by decide +kernel
theorem eMd_takeText_153 : decode prog_14_method_32_code 153 = .ok (.getfield 41, 3) := by decide +kernel
theorem eMd_takeText_156 : decode prog_14_method_32_code 156 = .ok (.iload_n 1, 1) := by decide +kernel
theorem eMd_takeText_157 : decode prog_14_method_32_code 157 = .ok (.aload_n 0, 1) := by decide +kernel
theorem eMd_takeText_158 : decode prog_14_method_32_code 158 = .ok (.getfield 41, 3) := by decide +kernel
theorem eMd_takeText_161 : decode prog_14_method_32_code 161 = .ok (.bipush 8, 2) := by decide +kernel
theorem eMd_takeText_163 : decode prog_14_method_32_code 163 = .ok (.iload_n 1, 1) := by decide +kernel
theorem eMd_takeText_164 : decode prog_14_method_32_code 164 = .ok (.iadd, 1) := by decide +kernel
theorem eMd_takeText_165 : decode prog_14_method_32_code 165 = .ok (.iaload, 1) := by decide +kernel
theorem eMd_takeText_166 : decode prog_14_method_32_code 166 = .ok (.iastore, 1) := by decide +kernel
theorem eMd_takeText_167 : decode prog_14_method_32_code 167 = .ok (.iinc 1 1, 3) := by decide +kernel
theorem eMd_takeText_170 : decode prog_14_method_32_code 170 = .ok (.goto (-39), 3) := by decide +kernel
theorem eMd_takeText_173 : decode prog_14_method_32_code 173 = .ok (.iconst 0, 1) := by decide +kernel
theorem eMd_takeText_174 : decode prog_14_method_32_code 174 = .ok (.istore_n 1, 1) := by decide +kernel
theorem eMd_takeText_175 : decode prog_14_method_32_code 175 = .ok (.iload_n 1, 1) := by decide +kernel
theorem eMd_takeText_176 : decode prog_14_method_32_code 176 = .ok (.bipush 16, 2) := by decide +kernel
theorem eMd_takeText_178 : decode prog_14_method_32_code 178 = .ok (.if_icmp .ge 39, 3) := by decide +kernel
theorem eMd_takeText_181 : decode prog_14_method_32_code 181 = .ok (.aload_n 0, 1) := by decide +kernel
theorem eMd_takeText_182 : decode prog_14_method_32_code 182 = .ok (.getfield 44, 3) := by decide +kernel
theorem eMd_takeText_185 : decode prog_14_method_32_code 185 = .ok (.iload_n 1, 1) := by decide +kernel
theorem eMd_takeText_186 : decode prog_14_method_32_code 186 = .ok (.aload_n 0, 1) := by decide +kernel
theorem eMd_takeText_187 : decode prog_14_method_32_code 187 = .ok (.getfield 44, 3) := by decide +kernel
theorem eMd_takeText_190 : decode prog_14_method_32_code 190 = .ok (.bipush 16, 2) := by decide +kernel
theorem eMd_takeText_192 : decode prog_14_method_32_code 192 = .ok (.iload_n 1, 1) := by decide +kernel
theorem eMd_takeText_193 : decode prog_14_method_32_code 193 = .ok (.iadd, 1) := by decide +kernel
theorem eMd_takeText_194 : decode prog_14_method_32_code 194 = .ok (.iaload, 1) := by decide +kernel
theorem eMd_takeText_195 : decode prog_14_method_32_code 195 = .ok (.iastore, 1) := by decide +kernel
theorem eMd_takeText_196 : decode prog_14_method_32_code 196 = .ok (.aload_n 0, 1) := by decide +kernel
theorem eMd_takeText_197 : decode prog_14_method_32_code 197 = .ok (.getfield 47, 3) := by decide +kernel
theorem eMd_takeText_200 : decode prog_14_method_32_code 200 = .ok (.iload_n 1, 1) := by decide +kernel
theorem eMd_takeText_201 : decode prog_14_method_32_code 201 = .ok (.aload_n 0, 1) := by decide +kernel
theorem eMd_takeText_202 : decode prog_14_method_32_code 202 = .ok (.getfield 47, 3) := by decide +kernel
theorem eMd_takeText_205 : decode prog_14_method_32_code 205 = .ok (.bipush 16, 2) := by decide +kernel
theorem eMd_takeText_207 : decode prog_14_method_32_code 207 = .ok (.iload_n 1, 1) := by decide +kernel
theorem eMd_takeText_208 : decode prog_14_method_32_code 208 = .ok (.iadd, 1) := by decide +kernel
theorem eMd_takeText_209 : decode prog_14_method_32_code 209 = .ok (.iaload, 1) := by decide +kernel
theorem eMd_takeText_210 : decode prog_14_method_32_code 210 = .ok (.iastore, 1) := by decide +kernel
theorem eMd_takeText_211 : decode prog_14_method_32_code 211 = .ok (.iinc 1 1, 3) := by decide +kernel
theorem eMd_takeText_214 : decode prog_14_method_32_code 214 = .ok (.goto (-39), 3) := by decide +kernel
theorem eMd_takeText_217 : decode prog_14_method_32_code 217 = .ok (.iconst 0, 1) := by decide +kernel
theorem eMd_takeText_218 : decode prog_14_method_32_code 218 = .ok (.istore_n 1, 1) := by decide +kernel
theorem eMd_takeText_219 : decode prog_14_method_32_code 219 = .ok (.iload_n 1, 1) := by decide +kernel
theorem eMd_takeText_220 : decode prog_14_method_32_code 220 = .ok (.iconst 3, 1) := by decide +kernel
theorem eMd_takeText_221 : decode prog_14_method_32_code 221 = .ok (.if_icmp .ge 37, 3) := by decide +kernel
theorem eMd_takeText_224 : decode prog_14_method_32_code 224 = .ok (.aload_n 0, 1) := by decide +kernel
theorem eMd_takeText_225 : decode prog_14_method_32_code 225 = .ok (.getfield 50, 3) := by decide +kernel
theorem eMd_takeText_228 : decode prog_14_method_32_code 228 = .ok (.iload_n 1, 1) := by decide +kernel
theorem eMd_takeText_229 : decode prog_14_method_32_code 229 = .ok (.aload_n 0, 1) := by decide +kernel
theorem eMd_takeText_230 : decode prog_14_method_32_code 230 = .ok (.getfield 50, 3) := by decide +kernel
theorem eMd_takeText_233 : decode prog_14_method_32_code 233 = .ok (.iconst 3, 1) := by decide +kernel
theorem eMd_takeText_234 : decode prog_14_method_32_code 234 = .ok (.iload_n 1, 1) := by decide +kernel
theorem eMd_takeText_235 : decode prog_14_method_32_code 235 = .ok (.iadd, 1) := by decide +kernel
theorem eMd_takeText_236 : decode prog_14_method_32_code 236 = .ok (.iaload, 1) := by decide +kernel
theorem eMd_takeText_237 : decode prog_14_method_32_code 237 = .ok (.iastore, 1) := by decide +kernel
theorem eMd_takeText_238 : decode prog_14_method_32_code 238 = .ok (.aload_n 0, 1) := by decide +kernel
theorem eMd_takeText_239 : decode prog_14_method_32_code 239 = .ok (.getfield 53, 3) := by decide +kernel
theorem eMd_takeText_242 : decode prog_14_method_32_code 242 = .ok (.iload_n 1, 1) := by decide +kernel
theorem eMd_takeText_243 : decode prog_14_method_32_code 243 = .ok (.aload_n 0, 1) := by decide +kernel
theorem eMd_takeText_244 : decode prog_14_method_32_code 244 = .ok (.getfield 53, 3) := by decide +kernel
theorem eMd_takeText_247 : decode prog_14_method_32_code 247 = .ok (.iconst 3, 1) := by decide +kernel
theorem eMd_takeText_248 : decode prog_14_method_32_code 248 = .ok (.iload_n 1, 1) := by decide +kernel
theorem eMd_takeText_249 : decode prog_14_method_32_code 249 = .ok (.iadd, 1) := by decide +kernel
theorem eMd_takeText_250 : decode prog_14_method_32_code 250 = .ok (.iaload, 1) := by decide +kernel
theorem eMd_takeText_251 : decode prog_14_method_32_code 251 = .ok (.iastore, 1) := by decide +kernel
theorem eMd_takeText_252 : decode prog_14_method_32_code 252 = .ok (.iinc 1 1, 3) := by decide +kernel
theorem eMd_takeText_255 : decode prog_14_method_32_code 255 = .ok (.goto (-36), 3) := by decide +kernel
theorem eMd_takeText_258 : decode prog_14_method_32_code 258 = .ok (.iconst 0, 1) := by decide +kernel
theorem eMd_takeText_259 : decode prog_14_method_32_code 259 = .ok (.istore_n 1, 1) := by decide +kernel
theorem eMd_takeText_260 : decode prog_14_method_32_code 260 = .ok (.iload_n 1, 1) := by decide +kernel
theorem eMd_takeText_261 : decode prog_14_method_32_code 261 = .ok (.bipush 16, 2) := by decide +kernel
theorem eMd_takeText_263 : decode prog_14_method_32_code 263 = .ok (.if_icmp .ge 102, 3) := by decide +kernel
theorem eMd_takeText_266 : decode prog_14_method_32_code 266 = .ok (.aload_n 0, 1) := by decide +kernel
theorem eMd_takeText_267 : decode prog_14_method_32_code 267 = .ok (.getfield 56, 3) := by decide +kernel
theorem eMd_takeText_270 : decode prog_14_method_32_code 270 = .ok (.iload_n 1, 1) := by decide +kernel
theorem eMd_takeText_271 : decode prog_14_method_32_code 271 = .ok (.aload_n 0, 1) := by decide +kernel
theorem eMd_takeText_272 : decode prog_14_method_32_code 272 = .ok (.getfield 56, 3) := by decide +kernel
theorem eMd_takeText_275 : decode prog_14_method_32_code 275 = .ok (.bipush 16, 2) := by decide +kernel
theorem eMd_takeText_277 : decode prog_14_method_32_code 277 = .ok (.iload_n 1, 1) := by decide +kernel
theorem eMd_takeText_278 : decode prog_14_method_32_code 278 = .ok (.iadd, 1) := by decide +kernel
theorem eMd_takeText_279 : decode prog_14_method_32_code 279 = .ok (.iaload, 1) := by decide +kernel
theorem eMd_takeText_280 : decode prog_14_method_32_code 280 = .ok (.iastore, 1) := by decide +kernel
theorem eMd_takeText_281 : decode prog_14_method_32_code 281 = .ok (.aload_n 0, 1) := by decide +kernel
theorem eMd_takeText_282 : decode prog_14_method_32_code 282 = .ok (.getfield 63, 3) := by decide +kernel
theorem eMd_takeText_285 : decode prog_14_method_32_code 285 = .ok (.iload_n 1, 1) := by decide +kernel
theorem eMd_takeText_286 : decode prog_14_method_32_code 286 = .ok (.aload_n 0, 1) := by decide +kernel
theorem eMd_takeText_287 : decode prog_14_method_32_code 287 = .ok (.getfield 13, 3) := by decide +kernel
theorem eMd_takeText_290 : decode prog_14_method_32_code 290 = .ok (.iconst 1, 1) := by decide +kernel
theorem eMd_takeText_291 : decode prog_14_method_32_code 291 = .ok (.iaload, 1) := by decide +kernel
theorem eMd_takeText_292 : decode prog_14_method_32_code 292 = .ok (.iastore, 1) := by decide +kernel
theorem eMd_takeText_293 : decode prog_14_method_32_code 293 = .ok (.iconst 0, 1) := by decide +kernel
theorem eMd_takeText_294 : decode prog_14_method_32_code 294 = .ok (.istore_n 2, 1) := by decide +kernel
theorem eMd_takeText_295 : decode prog_14_method_32_code 295 = .ok (.iload_n 2, 1) := by decide +kernel
theorem eMd_takeText_296 : decode prog_14_method_32_code 296 = .ok (.aload_n 0, 1) := by decide +kernel
theorem eMd_takeText_297 : decode prog_14_method_32_code 297 = .ok (.getfield 13, 3) := by decide +kernel
theorem eMd_takeText_300 : decode prog_14_method_32_code 300 = .ok (.bipush 7, 2) := by decide +kernel
theorem eMd_takeText_302 : decode prog_14_method_32_code 302 = .ok (.iaload, 1) := by decide +kernel
theorem eMd_takeText_303 : decode prog_14_method_32_code 303 = .ok (.if_icmp .ge 56, 3) := by decide +kernel
theorem eMd_takeText_306 : decode prog_14_method_32_code 306 = .ok (.iload_n 1, 1) := by decide +kernel
theorem eMd_takeText_307 : decode prog_14_method_32_code 307 = .ok (.aload_n 0, 1) := by decide +kernel
theorem eMd_takeText_308 : decode prog_14_method_32_code 308 = .ok (.getfield 29, 3) := by decide +kernel
theorem eMd_takeText_311 : decode prog_14_method_32_code 311 = .ok (.iload_n 2, 1) := by decide +kernel
theorem eMd_takeText_312 : decode prog_14_method_32_code 312 = .ok (.iaload, 1) := by decide +kernel
theorem eMd_takeText_313 : decode prog_14_method_32_code 313 = .ok (.if_icmp .lt 40, 3) := by decide +kernel
theorem eMd_takeText_316 : decode prog_14_method_32_code 316 = .ok (.iload_n 1, 1) := by decide +kernel
theorem eMd_takeText_317 : decode prog_14_method_32_code 317 = .ok (.aload_n 0, 1) := by decide +kernel
theorem eMd_takeText_318 : decode prog_14_method_32_code 318 = .ok (.getfield 32, 3) := by decide +kernel
theorem eMd_takeText_321 : decode prog_14_method_32_code 321 = .ok (.iload_n 2, 1) := by decide +kernel
theorem eMd_takeText_322 : decode prog_14_method_32_code 322 = .ok (.iaload, 1) := by decide +kernel
theorem eMd_takeText_323 : decode prog_14_method_32_code 323 = .ok (.if_icmp .gt 30, 3) := by decide +kernel
theorem eMd_takeText_326 : decode prog_14_method_32_code 326 = .ok (.aload_n 0, 1) := by decide +kernel
theorem eMd_takeText_327 : decode prog_14_method_32_code 327 = .ok (.getfield 35, 3) := by decide +kernel
theorem eMd_takeText_330 : decode prog_14_method_32_code 330 = .ok (.iload_n 2, 1) := by decide +kernel
theorem eMd_takeText_331 : decode prog_14_method_32_code 331 = .ok (.iaload, 1) := by decide +kernel
theorem eMd_takeText_332 : decode prog_14_method_32_code 332 = .ok (.aload_n 0, 1) := by decide +kernel
theorem eMd_takeText_333 : decode prog_14_method_32_code 333 = .ok (.getfield 63, 3) := by decide +kernel
theorem eMd_takeText_336 : decode prog_14_method_32_code 336 = .ok (.iload_n 1, 1) := by decide +kernel
theorem eMd_takeText_337 : decode prog_14_method_32_code 337 = .ok (.iaload, 1) := by decide +kernel
theorem eMd_takeText_338 : decode prog_14_method_32_code 338 = .ok (.if_icmp .ge 15, 3) := by decide +kernel
theorem eMd_takeText_341 : decode prog_14_method_32_code 341 = .ok (.aload_n 0, 1) := by decide +kernel
theorem eMd_takeText_342 : decode prog_14_method_32_code 342 = .ok (.getfield 63, 3) := by decide +kernel
theorem eMd_takeText_345 : decode prog_14_method_32_code 345 = .ok (.iload_n 1, 1) := by decide +kernel
theorem eMd_takeText_346 : decode prog_14_method_32_code 346 = .ok (.aload_n 0, 1) := by decide +kernel
theorem eMd_takeText_347 : decode prog_14_method_32_code 347 = .ok (.getfield 35, 3) := by decide +kernel
theorem eMd_takeText_350 : decode prog_14_method_32_code 350 = .ok (.iload_n 2, 1) := by decide +kernel
theorem eMd_takeText_351 : decode prog_14_method_32_code 351 = .ok (.iaload, 1) := by decide +kernel
theorem eMd_takeText_352 : decode prog_14_method_32_code 352 = .ok (.iastore, 1) := by decide +kernel
theorem eMd_takeText_353 : decode prog_14_method_32_code 353 = .ok (.iinc 2 1, 3) := by decide +kernel
theorem eMd_takeText_356 : decode prog_14_method_32_code 356 = .ok (.goto (-61), 3) := by decide +kernel
theorem eMd_takeText_359 : decode prog_14_method_32_code 359 = .ok (.iinc 1 1, 3) := by decide +kernel
theorem eMd_takeText_362 : decode prog_14_method_32_code 362 = .ok (.goto (-102), 3) := by decide +kernel
theorem eMd_takeText_365 : decode prog_14_method_32_code 365 = .ok (.return_, 1) := by decide +kernel
theorem eMd_text_0 : decode prog_14_method_33_code 0 = .ok (.aload_n 0, 1) := by decide +kernel
theorem eMd_text_1 : decode prog_14_method_33_code 1 = .ok (.iconst 0, 1) := by decide +kernel
theorem eMd_text_2 : decode prog_14_method_33_code 2 = .ok (.putfield 107, 3) := by decide +kernel
theorem eMd_text_5 : decode prog_14_method_33_code 5 = .ok (.iload_n 1, 1) := by decide +kernel
theorem eMd_text_6 : decode prog_14_method_33_code 6 = .ok (.ifCond .lt 11, 3) := by decide +kernel
theorem eMd_text_9 : decode prog_14_method_33_code 9 = .ok (.iload_n 1, 1) := by decide +kernel
theorem eMd_text_10 : decode prog_14_method_33_code 10 = .ok (.aload_n 0, 1) := by decide +kernel
theorem eMd_text_11 : decode prog_14_method_33_code 11 = .ok (.getfield 110, 3) := by decide +kernel
theorem eMd_text_14 : decode prog_14_method_33_code 14 = .ok (.if_icmp .le 6, 3) := by decide +kernel
theorem eMd_text_17 : decode prog_14_method_33_code 17 = .ok (.bipush (-2), 2) := by decide +kernel
theorem eMd_text_19 : decode prog_14_method_33_code 19 = .ok (.ireturn, 1) := by decide +kernel
theorem eMd_text_20 : decode prog_14_method_33_code 20 = .ok (.aload_n 0, 1) := by decide +kernel
theorem eMd_text_21 : decode prog_14_method_33_code 21 = .ok (.iload_n 1, 1) := by decide +kernel
theorem eMd_text_22 : decode prog_14_method_33_code 22 = .ok (.invokevirtual 240, 3) := by decide +kernel
theorem eMd_text_25 : decode prog_14_method_33_code 25 = .ok (.aload_n 0, 1) := by decide +kernel
theorem eMd_text_26 : decode prog_14_method_33_code 26 = .ok (.iconst 0, 1) := by decide +kernel
theorem eMd_text_27 : decode prog_14_method_33_code 27 = .ok (.putfield 110, 3) := by decide +kernel
theorem eMd_text_30 : decode prog_14_method_33_code 30 = .ok (.aload_n 0, 1) := by decide +kernel
theorem eMd_text_31 : decode prog_14_method_33_code 31 = .ok (.aload_n 0, 1) := by decide +kernel
theorem eMd_text_32 : decode prog_14_method_33_code 32 = .ok (.getfield 160, 3) := by decide +kernel
theorem eMd_text_35 : decode prog_14_method_33_code 35 = .ok (.putfield 243, 3) := by decide +kernel
theorem eMd_text_38 : decode prog_14_method_33_code 38 = .ok (.aload_n 0, 1) := by decide +kernel
theorem eMd_text_39 : decode prog_14_method_33_code 39 = .ok (.aload_n 0, 1) := by decide +kernel
theorem eMd_text_40 : decode prog_14_method_33_code 40 = .ok (.getfield 160, 3) := by decide +kernel
theorem eMd_text_43 : decode prog_14_method_33_code 43 = .ok (.ifCond .ne 7, 3) := by decide +kernel
theorem eMd_text_46 : decode prog_14_method_33_code 46 = .ok (.iconst (-1), 1) := by decide +kernel
theorem eMd_text_47 : decode prog_14_method_33_code 47 = .ok (.goto 7, 3) := by decide +kernel
theorem eMd_text_50 : decode prog_14_method_33_code 50 = .ok (.aload_n 0, 1) := by decide +kernel
theorem eMd_text_51 : decode prog_14_method_33_code 51 = .ok (.getfield 163, 3) := by decide +kernel
theorem eMd_text_54 : decode prog_14_method_33_code 54 = .ok (.putfield 59, 3) := by decide +kernel
theorem eMd_text_57 : decode prog_14_method_33_code 57 = .ok (.aload_n 0, 1) := by decide +kernel
theorem eMd_text_58 : decode prog_14_method_33_code 58 = .ok (.getfield 160, 3) := by decide +kernel
theorem eMd_text_61 : decode prog_14_method_33_code 61 = .ok (.ifCond .eq 5, 3) := by decide +kernel
theorem eMd_text_64 : decode prog_14_method_33_code 64 = .ok (.iconst (-1), 1) := by decide +kernel
theorem eMd_text_65 : decode prog_14_method_33_code 65 = .ok (.ireturn, 1) := by decide +kernel
theorem eMd_text_66 : decode prog_14_method_33_code 66 = .ok (.aload_n 0, 1) := by decide +kernel
theorem eMd_text_67 : decode prog_14_method_33_code 67 = .ok (.invokevirtual 101, 3) := by decide +kernel
theorem eMd_text_70 : decode prog_14_method_33_code 70 = .ok (.aload_n 0, 1) := by decide +kernel
theorem eMd_text_71 : decode prog_14_method_33_code 71 = .ok (.invokevirtual 104, 3) := by decide +kernel
theorem eMd_text_74 : decode prog_14_method_33_code 74 = .ok (.aload_n 0, 1) := by decide +kernel
theorem eMd_text_75 : decode prog_14_method_33_code 75 = .ok (.getfield 234, 3) := by decide +kernel
theorem eMd_text_78 : decode prog_14_method_33_code 78 = .ok (.ireturn, 1) := by decide +kernel
theorem eMd_fault_0 : decode prog_14_method_34_code 0 = .ok (.aload_n 0, 1) := by decide +kernel
theorem eMd_fault_1 : decode prog_14_method_34_code 1 = .ok (.iconst 0, 1) := by decide +kernel
theorem eMd_fault_2 : decode prog_14_method_34_code 2 = .ok (.putfield 107, 3) := by decide +kernel
theorem eMd_fault_5 : decode prog_14_method_34_code 5 = .ok (.iload_n 1, 1) := by decide +kernel
theorem eMd_fault_6 : decode prog_14_method_34_code 6 = .ok (.ifCond .ne 10, 3) := by decide +kernel
theorem eMd_fault_9 : decode prog_14_method_34_code 9 = .ok (.aload_n 0, 1) := by decide +kernel
theorem eMd_fault_10 : decode prog_14_method_34_code 10 = .ok (.getfield 243, 3) := by decide +kernel
theorem eMd_fault_13 : decode prog_14_method_34_code 13 = .ok (.goto 16, 3) := by decide +kernel
theorem eMd_fault_16 : decode prog_14_method_34_code 16 = .ok (.iload_n 1, 1) := by decide +kernel
theorem eMd_fault_17 : decode prog_14_method_34_code 17 = .ok (.iconst 1, 1) := by decide +kernel
theorem eMd_fault_18 : decode prog_14_method_34_code 18 = .ok (.if_icmp .ne 10, 3) := by decide +kernel
theorem eMd_fault_21 : decode prog_14_method_34_code 21 = .ok (.aload_n 0, 1) := by decide +kernel
theorem eMd_fault_22 : decode prog_14_method_34_code 22 = .ok (.getfield 59, 3) := by decide +kernel
theorem eMd_fault_25 : decode prog_14_method_34_code 25 = .ok (.goto 4, 3) := by decide +kernel
theorem eMd_fault_28 : decode prog_14_method_34_code 28 = .ok (.iconst (-1), 1) := by decide +kernel
theorem eMd_fault_29 : decode prog_14_method_34_code 29 = .ok (.ireturn, 1) := by decide +kernel
theorem eMd_named_0 : decode prog_14_method_35_code 0 = .ok (.aload_n 0, 1) := by decide +kernel
theorem eMd_named_1 : decode prog_14_method_35_code 1 = .ok (.iconst 0, 1) := by decide +kernel
theorem eMd_named_2 : decode prog_14_method_35_code 2 = .ok (.putfield 107, 3) := by decide +kernel
theorem eMd_named_5 : decode prog_14_method_35_code 5 = .ok (.aload_n 0, 1) := by decide +kernel
theorem eMd_named_6 : decode prog_14_method_35_code 6 = .ok (.iconst 0, 1) := by decide +kernel
theorem eMd_named_7 : decode prog_14_method_35_code 7 = .ok (.aload_n 0, 1) := by decide +kernel
theorem eMd_named_8 : decode prog_14_method_35_code 8 = .ok (.getfield 13, 3) := by decide +kernel
theorem eMd_named_11 : decode prog_14_method_35_code 11 = .ok (.iconst 4, 1) := by decide +kernel
theorem eMd_named_12 : decode prog_14_method_35_code 12 = .ok (.iaload, 1) := by decide +kernel
theorem eMd_named_13 : decode prog_14_method_35_code 13 = .ok (.iload_n 1, 1) := by decide +kernel
theorem eMd_named_14 : decode prog_14_method_35_code 14 = .ok (.invokevirtual 199, 3) := by decide +kernel
theorem eMd_named_17 : decode prog_14_method_35_code 17 = .ok (.ireturn, 1) := by decide +kernel
theorem eMd_piles_0 : decode prog_14_method_36_code 0 = .ok (.iconst 0, 1) := by decide +kernel
theorem eMd_piles_1 : decode prog_14_method_36_code 1 = .ok (.istore_n 1, 1) := by decide +kernel
theorem eMd_piles_2 : decode prog_14_method_36_code 2 = .ok (.iload_n 1, 1) := by decide +kernel
theorem eMd_piles_3 : decode prog_14_method_36_code 3 = .ok (.bipush 16, 2) := by decide +kernel
theorem eMd_piles_5 : decode prog_14_method_36_code 5 = .ok (.if_icmp .ge 47, 3) := by decide +kernel
theorem eMd_piles_8 : decode prog_14_method_36_code 8 = .ok (.aload_n 0, 1) := by decide +kernel
theorem eMd_piles_9 : decode prog_14_method_36_code 9 = .ok (.getfield 69, 3) := by decide +kernel
theorem eMd_piles_12 : decode prog_14_method_36_code 12 = .ok (.iload_n 1, 1) := by decide +kernel
theorem eMd_piles_13 : decode prog_14_method_36_code 13 = .ok (.aload_n 0, 1) := by decide +kernel
theorem eMd_piles_14 : decode prog_14_method_36_code 14 = .ok (.getfield 63, 3) := by decide +kernel
theorem eMd_piles_17 : decode prog_14_method_36_code 17 = .ok (.iload_n 1, 1) := by decide +kernel
theorem eMd_piles_18 : decode prog_14_method_36_code 18 = .ok (.iaload, 1) := by decide +kernel
theorem eMd_piles_19 : decode prog_14_method_36_code 19 = .ok (.aload_n 0, 1) := by decide +kernel
theorem eMd_piles_20 : decode prog_14_method_36_code 20 = .ok (.getfield 66, 3) := by decide +kernel
theorem eMd_piles_23 : decode prog_14_method_36_code 23 = .ok (.iload_n 1, 1) := by decide +kernel
theorem eMd_piles_24 : decode prog_14_method_36_code 24 = .ok (.iaload, 1) := by decide +kernel
theorem eMd_piles_25 : decode prog_14_method_36_code 25 = .ok (.if_icmp .le 19, 3) := by decide +kernel
theorem eMd_piles_28 : decode prog_14_method_36_code 28 = .ok (.aload_n 0, 1) := by decide +kernel
theorem eMd_piles_29 : decode prog_14_method_36_code 29 = .ok (.getfield 63, 3) := by decide +kernel
theorem eMd_piles_32 : decode prog_14_method_36_code 32 = .ok (.iload_n 1, 1) := by decide +kernel
theorem eMd_piles_33 : decode prog_14_method_36_code 33 = .ok (.iaload, 1) := by decide +kernel
theorem eMd_piles_34 : decode prog_14_method_36_code 34 = .ok (.aload_n 0, 1) := by decide +kernel
theorem eMd_piles_35 : decode prog_14_method_36_code 35 = .ok (.getfield 66, 3) := by decide +kernel
theorem eMd_piles_38 : decode prog_14_method_36_code 38 = .ok (.iload_n 1, 1) := by decide +kernel
theorem eMd_piles_39 : decode prog_14_method_36_code 39 = .ok (.iaload, 1) := by decide +kernel
theorem eMd_piles_40 : decode prog_14_method_36_code 40 = .ok (.isub, 1) := by decide +kernel
theorem eMd_piles_41 : decode prog_14_method_36_code 41 = .ok (.goto 4, 3) := by decide +kernel
theorem eMd_piles_44 : decode prog_14_method_36_code 44 = .ok (.iconst 0, 1) := by decide +kernel
theorem eMd_piles_45 : decode prog_14_method_36_code 45 = .ok (.iastore, 1) := by decide +kernel
theorem eMd_piles_46 : decode prog_14_method_36_code 46 = .ok (.iinc 1 1, 3) := by decide +kernel
theorem eMd_piles_49 : decode prog_14_method_36_code 49 = .ok (.goto (-47), 3) := by decide +kernel
theorem eMd_piles_52 : decode prog_14_method_36_code 52 = .ok (.aload_n 0, 1) := by decide +kernel
theorem eMd_piles_53 : decode prog_14_method_36_code 53 = .ok (.bipush (-2), 2) := by decide +kernel
theorem eMd_piles_55 : decode prog_14_method_36_code 55 = .ok (.putfield 80, 3) := by decide +kernel
theorem eMd_piles_58 : decode prog_14_method_36_code 58 = .ok (.return_, 1) := by decide +kernel
theorem eMd_without_0 : decode prog_14_method_37_code 0 = .ok (.iload_n 0, 1) := by decide +kernel
theorem eMd_without_1 : decode prog_14_method_37_code 1 = .ok (.ifCond .ge 8, 3) := by decide +kernel
theorem eMd_without_4 : decode prog_14_method_37_code 4 = .ok (.iload_n 0, 1) := by decide +kernel
theorem eMd_without_5 : decode prog_14_method_37_code 5 = .ok (.ineg, 1) := by decide +kernel
theorem eMd_without_6 : decode prog_14_method_37_code 6 = .ok (.goto 4, 3) := by decide +kernel
theorem eMd_without_9 : decode prog_14_method_37_code 9 = .ok (.iload_n 0, 1) := by decide +kernel
theorem eMd_without_10 : decode prog_14_method_37_code 10 = .ok (.ireturn, 1) := by decide +kernel
theorem eMd_growth_0 : decode prog_14_method_38_code 0 = .ok (.iload_n 0, 1) := by decide +kernel
theorem eMd_growth_1 : decode prog_14_method_38_code 1 = .ok (.iconst 3, 1) := by decide +kernel
theorem eMd_growth_2 : decode prog_14_method_38_code 2 = .ok (.if_icmp .ge 7, 3) := by decide +kernel
theorem eMd_growth_5 : decode prog_14_method_38_code 5 = .ok (.iconst (-1), 1) := by decide +kernel
theorem eMd_growth_6 : decode prog_14_method_38_code 6 = .ok (.goto 13, 3) := by decide +kernel
theorem eMd_growth_9 : decode prog_14_method_38_code 9 = .ok (.iload_n 0, 1) := by decide +kernel
theorem eMd_growth_10 : decode prog_14_method_38_code 10 = .ok (.iconst 5, 1) := by decide +kernel
theorem eMd_growth_11 : decode prog_14_method_38_code 11 = .ok (.if_icmp .ge 7, 3) := by decide +kernel
theorem eMd_growth_14 : decode prog_14_method_38_code 14 = .ok (.iconst 0, 1) := by decide +kernel
theorem eMd_growth_15 : decode prog_14_method_38_code 15 = .ok (.goto 4, 3) := by decide +kernel
theorem eMd_growth_18 : decode prog_14_method_38_code 18 = .ok (.iconst 1, 1) := by decide +kernel
theorem eMd_growth_19 : decode prog_14_method_38_code 19 = .ok (.ireturn, 1) := by decide +kernel
theorem eMd_numberOf_0 : decode prog_14_method_39_code 0 = .ok (.iload_n 0, 1) := by decide +kernel
theorem eMd_numberOf_1 : decode prog_14_method_39_code 1 = .ok (.iconst 5, 1) := by decide +kernel
theorem eMd_numberOf_2 : decode prog_14_method_39_code 2 = .ok (.imul, 1) := by decide +kernel
theorem eMd_numberOf_3 : decode prog_14_method_39_code 3 = .ok (.iload_n 1, 1) := by decide +kernel
theorem eMd_numberOf_4 : decode prog_14_method_39_code 4 = .ok (.iadd, 1) := by decide +kernel
theorem eMd_numberOf_5 : decode prog_14_method_39_code 5 = .ok (.iconst 2, 1) := by decide +kernel
theorem eMd_numberOf_6 : decode prog_14_method_39_code 6 = .ok (.iadd, 1) := by decide +kernel
theorem eMd_numberOf_7 : decode prog_14_method_39_code 7 = .ok (.bipush 9, 2) := by decide +kernel
theorem eMd_numberOf_9 : decode prog_14_method_39_code 9 = .ok (.imul, 1) := by decide +kernel
theorem eMd_numberOf_10 : decode prog_14_method_39_code 10 = .ok (.iload_n 2, 1) := by decide +kernel
theorem eMd_numberOf_11 : decode prog_14_method_39_code 11 = .ok (.iadd, 1) := by decide +kernel
theorem eMd_numberOf_12 : decode prog_14_method_39_code 12 = .ok (.iconst 4, 1) := by decide +kernel
theorem eMd_numberOf_13 : decode prog_14_method_39_code 13 = .ok (.iadd, 1) := by decide +kernel
theorem eMd_numberOf_14 : decode prog_14_method_39_code 14 = .ok (.bipush 9, 2) := by decide +kernel
theorem eMd_numberOf_16 : decode prog_14_method_39_code 16 = .ok (.imul, 1) := by decide +kernel
theorem eMd_numberOf_17 : decode prog_14_method_39_code 17 = .ok (.iload_n 3, 1) := by decide +kernel
theorem eMd_numberOf_18 : decode prog_14_method_39_code 18 = .ok (.iadd, 1) := by decide +kernel
theorem eMd_numberOf_19 : decode prog_14_method_39_code 19 = .ok (.iconst 4, 1) := by decide +kernel
theorem eMd_numberOf_20 : decode prog_14_method_39_code 20 = .ok (.iadd, 1) := by decide +kernel
theorem eMd_numberOf_21 : decode prog_14_method_39_code 21 = .ok (.bipush 6, 2) := by decide +kernel
theorem eMd_numberOf_23 : decode prog_14_method_39_code 23 = .ok (.imul, 1) := by decide +kernel
theorem eMd_numberOf_24 : decode prog_14_method_39_code 24 = .ok (.iload 4, 2) := by decide +kernel
theorem eMd_numberOf_26 : decode prog_14_method_39_code 26 = .ok (.iadd, 1) := by decide +kernel
theorem eMd_numberOf_27 : decode prog_14_method_39_code 27 = .ok (.iconst 1, 1) := by decide +kernel
theorem eMd_numberOf_28 : decode prog_14_method_39_code 28 = .ok (.isub, 1) := by decide +kernel
theorem eMd_numberOf_29 : decode prog_14_method_39_code 29 = .ok (.ireturn, 1) := by decide +kernel
theorem eMd_lays_0 : decode prog_14_method_40_code 0 = .ok (.aload_n 0, 1) := by decide +kernel
theorem eMd_lays_1 : decode prog_14_method_40_code 1 = .ok (.iload_n 1, 1) := by decide +kernel
theorem eMd_lays_2 : decode prog_14_method_40_code 2 = .ok (.bipush 6, 2) := by decide +kernel
theorem eMd_lays_4 : decode prog_14_method_40_code 4 = .ok (.irem, 1) := by decide +kernel
theorem eMd_lays_5 : decode prog_14_method_40_code 5 = .ok (.iconst 1, 1) := by decide +kernel
theorem eMd_lays_6 : decode prog_14_method_40_code 6 = .ok (.iadd, 1) := by decide +kernel
theorem eMd_lays_7 : decode prog_14_method_40_code 7 = .ok (.putfield 246, 3) := by decide +kernel
theorem eMd_lays_10 : decode prog_14_method_40_code 10 = .ok (.aload_n 0, 1) := by decide +kernel
theorem eMd_lays_11 : decode prog_14_method_40_code 11 = .ok (.iload_n 1, 1) := by decide +kernel
theorem eMd_lays_12 : decode prog_14_method_40_code 12 = .ok (.bipush 6, 2) := by decide +kernel
theorem eMd_lays_14 : decode prog_14_method_40_code 14 = .ok (.idiv, 1) := by decide +kernel
theorem eMd_lays_15 : decode prog_14_method_40_code 15 = .ok (.bipush 9, 2) := by decide +kernel
theorem eMd_lays_17 : decode prog_14_method_40_code 17 = .ok (.irem, 1) := by decide +kernel
theorem eMd_lays_18 : decode prog_14_method_40_code 18 = .ok (.iconst 4, 1) := by decide +kernel
theorem eMd_lays_19 : decode prog_14_method_40_code 19 = .ok (.isub, 1) := by decide +kernel
theorem eMd_lays_20 : decode prog_14_method_40_code 20 = .ok (.putfield 249, 3) := by decide +kernel
theorem eMd_lays_23 : decode prog_14_method_40_code 23 = .ok (.aload_n 0, 1) := by decide +kernel
theorem eMd_lays_24 : decode prog_14_method_40_code 24 = .ok (.iload_n 1, 1) := by decide +kernel
theorem eMd_lays_25 : decode prog_14_method_40_code 25 = .ok (.bipush 54, 2) := by decide +kernel
theorem eMd_lays_27 : decode prog_14_method_40_code 27 = .ok (.idiv, 1) := by decide +kernel
theorem eMd_lays_28 : decode prog_14_method_40_code 28 = .ok (.bipush 9, 2) := by decide +kernel
theorem eMd_lays_30 : decode prog_14_method_40_code 30 = .ok (.irem, 1) := by decide +kernel
theorem eMd_lays_31 : decode prog_14_method_40_code 31 = .ok (.iconst 4, 1) := by decide +kernel
theorem eMd_lays_32 : decode prog_14_method_40_code 32 = .ok (.isub, 1) := by decide +kernel
theorem eMd_lays_33 : decode prog_14_method_40_code 33 = .ok (.putfield 252, 3) := by decide +kernel
theorem eMd_lays_36 : decode prog_14_method_40_code 36 = .ok (.aload_n 0, 1) := by decide +kernel
theorem eMd_lays_37 : decode prog_14_method_40_code 37 = .ok (.iload_n 1, 1) := by decide +kernel
theorem eMd_lays_38 : decode prog_14_method_40_code 38 = .ok (.sipush 486, 3) := by decide +kernel
theorem eMd_lays_41 : decode prog_14_method_40_code 41 = .ok (.idiv, 1) := by decide +kernel
theorem eMd_lays_42 : decode prog_14_method_40_code 42 = .ok (.iconst 5, 1) := by decide +kernel
theorem eMd_lays_43 : decode prog_14_method_40_code 43 = .ok (.irem, 1) := by decide +kernel
theorem eMd_lays_44 : decode prog_14_method_40_code 44 = .ok (.iconst 2, 1) := by decide +kernel
theorem eMd_lays_45 : decode prog_14_method_40_code 45 = .ok (.isub, 1) := by decide +kernel
theorem eMd_lays_46 : decode prog_14_method_40_code 46 = .ok (.putfield 255, 3) := by decide +kernel
theorem eMd_lays_49 : decode prog_14_method_40_code 49 = .ok (.aload_n 0, 1) := by decide +kernel
theorem eMd_lays_50 : decode prog_14_method_40_code 50 = .ok (.iload_n 1, 1) := by decide +kernel
theorem eMd_lays_51 : decode prog_14_method_40_code 51 = .ok (.sipush 2430, 3) := by decide +kernel
theorem eMd_lays_54 : decode prog_14_method_40_code 54 = .ok (.idiv, 1) := by decide +kernel
theorem eMd_lays_55 : decode prog_14_method_40_code 55 = .ok (.putfield 258, 3) := by decide +kernel
theorem eMd_lays_58 : decode prog_14_method_40_code 58 = .ok (.return_, 1) := by decide +kernel
theorem eMd_isThere_0 : decode prog_14_method_41_code 0 = .ok (.iload_n 1, 1) := by decide +kernel
theorem eMd_isThere_1 : decode prog_14_method_41_code 1 = .ok (.ifCond .lt 17, 3) := by decide +kernel
theorem eMd_isThere_4 : decode prog_14_method_41_code 4 = .ok (.iload_n 1, 1) := by decide +kernel
theorem eMd_isThere_5 : decode prog_14_method_41_code 5 = .ok (.aload_n 0, 1) := by decide +kernel
theorem eMd_isThere_6 : decode prog_14_method_41_code 6 = .ok (.getfield 13, 3) := by decide +kernel
theorem eMd_isThere_9 : decode prog_14_method_41_code 9 = .ok (.iconst 0, 1) := by decide +kernel
theorem eMd_isThere_10 : decode prog_14_method_41_code 10 = .ok (.iaload, 1) := by decide +kernel
theorem eMd_isThere_11 : decode prog_14_method_41_code 11 = .ok (.if_icmp .ge 7, 3) := by decide +kernel
theorem eMd_isThere_14 : decode prog_14_method_41_code 14 = .ok (.iconst 1, 1) := by decide +kernel
theorem eMd_isThere_15 : decode prog_14_method_41_code 15 = .ok (.goto 4, 3) := by decide +kernel
theorem eMd_isThere_18 : decode prog_14_method_41_code 18 = .ok (.iconst 0, 1) := by decide +kernel
theorem eMd_isThere_19 : decode prog_14_method_41_code 19 = .ok (.ireturn, 1) := by decide +kernel
theorem eMd_isClear_0 : decode prog_14_method_42_code 0 = .ok (.aload_n 0, 1) := by decide +kernel
theorem eMd_isClear_1 : decode prog_14_method_42_code 1 = .ok (.getfield 252, 3) := by decide +kernel
theorem eMd_isClear_4 : decode prog_14_method_42_code 4 = .ok (.invokestatic 261, 3) := by decide +kernel
theorem eMd_isClear_7 : decode prog_14_method_42_code 7 = .ok (.istore_n 1, 1) := by decide +kernel
theorem eMd_isClear_8 : decode prog_14_method_42_code 8 = .ok (.aload_n 0, 1) := by decide +kernel
theorem eMd_isClear_9 : decode prog_14_method_42_code 9 = .ok (.getfield 264, 3) := by decide +kernel
theorem eMd_isClear_12 : decode prog_14_method_42_code 12 = .ok (.ifCond .eq 7, 3) := by decide +kernel
theorem eMd_isClear_15 : decode prog_14_method_42_code 15 = .ok (.iconst 1, 1) := by decide +kernel
theorem eMd_isClear_16 : decode prog_14_method_42_code 16 = .ok (.goto 4, 3) := by decide +kernel
theorem eMd_isClear_19 : decode prog_14_method_42_code 19 = .ok (.iconst 0, 1) := by decide +kernel
theorem eMd_isClear_20 : decode prog_14_method_42_code 20 = .ok (.istore_n 2, 1) := by decide +kernel
theorem eMd_isClear_21 : decode prog_14_method_42_code 21 = .ok (.iload_n 1, 1) := by decide +kernel
theorem eMd_isClear_22 : decode prog_14_method_42_code 22 = .ok (.ifCond .ne 27, 3) := by decide +kernel
theorem eMd_isClear_25 : decode prog_14_method_42_code 25 = .ok (.aload_n 0, 1) := by decide +kernel
theorem eMd_isClear_26 : decode prog_14_method_42_code 26 = .ok (.getfield 246, 3) := by decide +kernel
theorem eMd_isClear_29 : decode prog_14_method_42_code 29 = .ok (.iload_n 2, 1) := by decide +kernel
theorem eMd_isClear_30 : decode prog_14_method_42_code 30 = .ok (.iadd, 1) := by decide +kernel
theorem eMd_isClear_31 : decode prog_14_method_42_code 31 = .ok (.aload_n 0, 1) := by decide +kernel
theorem eMd_isClear_32 : decode prog_14_method_42_code 32 = .ok (.getfield 69, 3) := by decide +kernel
theorem eMd_isClear_35 : decode prog_14_method_42_code 35 = .ok (.aload_n 0, 1) := by decide +kernel
theorem eMd_isClear_36 : decode prog_14_method_42_code 36 = .ok (.getfield 258, 3) := by decide +kernel
theorem eMd_isClear_39 : decode prog_14_method_42_code 39 = .ok (.iaload, 1) := by decide +kernel
theorem eMd_isClear_40 : decode prog_14_method_42_code 40 = .ok (.if_icmp .gt 7, 3) := by decide +kernel
theorem eMd_isClear_43 : decode prog_14_method_42_code 43 = .ok (.iconst 1, 1) := by decide +kernel
theorem eMd_isClear_44 : decode prog_14_method_42_code 44 = .ok (.goto 4, 3) := by decide +kernel
theorem eMd_isClear_47 : decode prog_14_method_42_code 47 = .ok (.iconst 0, 1) := by decide +kernel
theorem eMd_isClear_48 : decode prog_14_method_42_code 48 = .ok (.ireturn, 1) := by decide +kernel
theorem eMd_isClear_49 : decode prog_14_method_42_code 49 = .ok (.iconst 0, 1) := by decide +kernel
theorem eMd_isClear_50 : decode prog_14_method_42_code 50 = .ok (.istore_n 3, 1) := by decide +kernel
theorem eMd_isClear_51 : decode prog_14_method_42_code 51 = .ok (.iload_n 3, 1) := by decide +kernel
theorem eMd_isClear_52 : decode prog_14_method_42_code 52 = .ok (.iload_n 1, 1) := by decide +kernel
theorem eMd_isClear_53 : decode prog_14_method_42_code 53 = .ok (.if_icmp .ge 57, 3) := by decide +kernel
theorem eMd_isClear_56 : decode prog_14_method_42_code 56 = .ok (.aload_n 0, 1) := by decide +kernel
theorem eMd_isClear_57 : decode prog_14_method_42_code 57 = .ok (.getfield 252, 3) := by decide +kernel
theorem eMd_isClear_60 : decode prog_14_method_42_code 60 = .ok (.ifCond .le 12, 3) := by decide +kernel
theorem eMd_isClear_63 : decode prog_14_method_42_code 63 = .ok (.aload_n 0, 1) := by decide +kernel
theorem eMd_isClear_64 : decode prog_14_method_42_code 64 = .ok (.getfield 258, 3) := by decide +kernel
theorem eMd_isClear_67 : decode prog_14_method_42_code 67 = .ok (.iload_n 3, 1) := by decide +kernel
theorem eMd_isClear_68 : decode prog_14_method_42_code 68 = .ok (.iadd, 1) := by decide +kernel
theorem eMd_isClear_69 : decode prog_14_method_42_code 69 = .ok (.goto 9, 3) := by decide +kernel
theorem eMd_isClear_72 : decode prog_14_method_42_code 72 = .ok (.aload_n 0, 1) := by decide +kernel
theorem eMd_isClear_73 : decode prog_14_method_42_code 73 = .ok (.getfield 258, 3) := by decide +kernel
theorem eMd_isClear_76 : decode prog_14_method_42_code 76 = .ok (.iload_n 3, 1) := by decide +kernel
theorem eMd_isClear_77 : decode prog_14_method_42_code 77 = .ok (.isub, 1) := by decide +kernel
theorem eMd_isClear_78 : decode prog_14_method_42_code 78 = .ok (.istore 4, 2) := by decide +kernel
theorem eMd_isClear_80 : decode prog_14_method_42_code 80 = .ok (.aload_n 0, 1) := by decide +kernel
theorem eMd_isClear_81 : decode prog_14_method_42_code 81 = .ok (.getfield 246, 3) := by decide +kernel
theorem eMd_isClear_84 : decode prog_14_method_42_code 84 = .ok (.iload_n 3, 1) := by decide +kernel
theorem eMd_isClear_85 : decode prog_14_method_42_code 85 = .ok (.imul, 1) := by decide +kernel
theorem eMd_isClear_86 : decode prog_14_method_42_code 86 = .ok (.iload_n 1, 1) := by decide +kernel
theorem eMd_isClear_87 : decode prog_14_method_42_code 87 = .ok (.iadd, 1) := by decide +kernel
theorem eMd_isClear_88 : decode prog_14_method_42_code 88 = .ok (.iconst 1, 1) := by decide +kernel
theorem eMd_isClear_89 : decode prog_14_method_42_code 89 = .ok (.isub, 1) := by decide +kernel
theorem eMd_isClear_90 : decode prog_14_method_42_code 90 = .ok (.iload_n 1, 1) := by decide +kernel
theorem eMd_isClear_91 : decode prog_14_method_42_code 91 = .ok (.idiv, 1) := by decide +kernel
theorem eMd_isClear_92 : decode prog_14_method_42_code 92 = .ok (.aload_n 0, 1) := by decide +kernel
theorem eMd_isClear_93 : decode prog_14_method_42_code 93 = .ok (.getfield 69, 3) := by decide +kernel
theorem eMd_isClear_96 : decode prog_14_method_42_code 96 = .ok (.iload 4, 2) := by decide +kernel
theorem eMd_isClear_98 : decode prog_14_method_42_code 98 = .ok (.iaload, 1) := by decide +kernel
theorem eMd_isClear_99 : decode prog_14_method_42_code 99 = .ok (.if_icmp .le 5, 3) := by decide +kernel
theorem eMd_isClear_102 : decode prog_14_method_42_code 102 = .ok (.iconst 0, 1) := by decide +kernel
theorem eMd_isClear_103 : decode prog_14_method_42_code 103 = .ok (.ireturn, 1) := by decide +kernel
theorem eMd_isClear_104 : decode prog_14_method_42_code 104 = .ok (.iinc 3 1, 3) := by decide +kernel
theorem eMd_isClear_107 : decode prog_14_method_42_code 107 = .ok (.goto (-56), 3) := by decide +kernel
theorem eMd_isClear_110 : decode prog_14_method_42_code 110 = .ok (.aload_n 0, 1) := by decide +kernel
theorem eMd_isClear_111 : decode prog_14_method_42_code 111 = .ok (.getfield 246, 3) := by decide +kernel
theorem eMd_isClear_114 : decode prog_14_method_42_code 114 = .ok (.iload_n 2, 1) := by decide +kernel
theorem eMd_isClear_115 : decode prog_14_method_42_code 115 = .ok (.iadd, 1) := by decide +kernel
theorem eMd_isClear_116 : decode prog_14_method_42_code 116 = .ok (.aload_n 0, 1) := by decide +kernel
theorem eMd_isClear_117 : decode prog_14_method_42_code 117 = .ok (.getfield 69, 3) := by decide +kernel
theorem eMd_isClear_120 : decode prog_14_method_42_code 120 = .ok (.aload_n 0, 1) := by decide +kernel
theorem eMd_isClear_121 : decode prog_14_method_42_code 121 = .ok (.getfield 258, 3) := by decide +kernel
theorem eMd_isClear_124 : decode prog_14_method_42_code 124 = .ok (.aload_n 0, 1) := by decide +kernel
theorem eMd_isClear_125 : decode prog_14_method_42_code 125 = .ok (.getfield 252, 3) := by decide +kernel
theorem eMd_isClear_128 : decode prog_14_method_42_code 128 = .ok (.iadd, 1) := by decide +kernel
theorem eMd_isClear_129 : decode prog_14_method_42_code 129 = .ok (.iaload, 1) := by decide +kernel
theorem eMd_isClear_130 : decode prog_14_method_42_code 130 = .ok (.if_icmp .gt 7, 3) := by decide +kernel
theorem eMd_isClear_133 : decode prog_14_method_42_code 133 = .ok (.iconst 1, 1) := by decide +kernel
theorem eMd_isClear_134 : decode prog_14_method_42_code 134 = .ok (.goto 4, 3) := by decide +kernel
theorem eMd_isClear_137 : decode prog_14_method_42_code 137 = .ok (.iconst 0, 1) := by decide +kernel
theorem eMd_isClear_138 : decode prog_14_method_42_code 138 = .ok (.ireturn, 1) := by decide +kernel
theorem eMd_whyNot_0 : decode prog_14_method_43_code 0 = .ok (.aload_n 0, 1) := by decide +kernel
theorem eMd_whyNot_1 : decode prog_14_method_43_code 1 = .ok (.aload_n 0, 1) := by decide +kernel
theorem eMd_whyNot_2 : decode prog_14_method_43_code 2 = .ok (.getfield 258, 3) := by decide +kernel
theorem eMd_whyNot_5 : decode prog_14_method_43_code 5 = .ok (.invokevirtual 267, 3) := by decide +kernel
theorem eMd_whyNot_8 : decode prog_14_method_43_code 8 = .ok (.ifCond .ne 5, 3) := by decide +kernel
theorem eMd_whyNot_11 : decode prog_14_method_43_code 11 = .ok (.iconst 1, 1) := by decide +kernel
theorem eMd_whyNot_12 : decode prog_14_method_43_code 12 = .ok (.ireturn, 1) := by decide +kernel
theorem eMd_whyNot_13 : decode prog_14_method_43_code 13 = .ok (.aload_n 0, 1) := by decide +kernel
theorem eMd_whyNot_14 : decode prog_14_method_43_code 14 = .ok (.getfield 255, 3) := by decide +kernel
theorem eMd_whyNot_17 : decode prog_14_method_43_code 17 = .ok (.invokestatic 261, 3) := by decide +kernel
theorem eMd_whyNot_20 : decode prog_14_method_43_code 20 = .ok (.aload_n 0, 1) := by decide +kernel
theorem eMd_whyNot_21 : decode prog_14_method_43_code 21 = .ok (.getfield 13, 3) := by decide +kernel
theorem eMd_whyNot_24 : decode prog_14_method_43_code 24 = .ok (.iconst 2, 1) := by decide +kernel
theorem eMd_whyNot_25 : decode prog_14_method_43_code 25 = .ok (.iaload, 1) := by decide +kernel
theorem eMd_whyNot_26 : decode prog_14_method_43_code 26 = .ok (.if_icmp .le 5, 3) := by decide +kernel
theorem eMd_whyNot_29 : decode prog_14_method_43_code 29 = .ok (.iconst 2, 1) := by decide +kernel
theorem eMd_whyNot_30 : decode prog_14_method_43_code 30 = .ok (.ireturn, 1) := by decide +kernel
theorem eMd_whyNot_31 : decode prog_14_method_43_code 31 = .ok (.aload_n 0, 1) := by decide +kernel
theorem eMd_whyNot_32 : decode prog_14_method_43_code 32 = .ok (.getfield 246, 3) := by decide +kernel
theorem eMd_whyNot_35 : decode prog_14_method_43_code 35 = .ok (.iconst 1, 1) := by decide +kernel
theorem eMd_whyNot_36 : decode prog_14_method_43_code 36 = .ok (.if_icmp .lt 16, 3) := by decide +kernel
theorem eMd_whyNot_39 : decode prog_14_method_43_code 39 = .ok (.aload_n 0, 1) := by decide +kernel
theorem eMd_whyNot_40 : decode prog_14_method_43_code 40 = .ok (.getfield 246, 3) := by decide +kernel
theorem eMd_whyNot_43 : decode prog_14_method_43_code 43 = .ok (.aload_n 0, 1) := by decide +kernel
theorem eMd_whyNot_44 : decode prog_14_method_43_code 44 = .ok (.getfield 13, 3) := by decide +kernel
theorem eMd_whyNot_47 : decode prog_14_method_43_code 47 = .ok (.iconst 1, 1) := by decide +kernel
theorem eMd_whyNot_48 : decode prog_14_method_43_code 48 = .ok (.iaload, 1) := by decide +kernel
theorem eMd_whyNot_49 : decode prog_14_method_43_code 49 = .ok (.if_icmp .le 5, 3) := by decide +kernel
theorem eMd_whyNot_52 : decode prog_14_method_43_code 52 = .ok (.iconst 3, 1) := by decide +kernel
