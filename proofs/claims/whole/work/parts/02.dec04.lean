theorem eMd_isWithin_76 : decode prog_14_method_114_code 76 = .ok (.iconst 0, 1) := by decide +kernel
theorem eMd_isWithin_77 : decode prog_14_method_114_code 77 = .ok (.ireturn, 1) := by decide +kernel
theorem eMd_safe_0 : decode prog_14_method_115_code 0 = .ok (.aload_n 0, 1) := by decide +kernel
theorem eMd_safe_1 : decode prog_14_method_115_code 1 = .ok (.iconst 0, 1) := by decide +kernel
theorem eMd_safe_2 : decode prog_14_method_115_code 2 = .ok (.putfield 107, 3) := by decide +kernel
theorem eMd_safe_5 : decode prog_14_method_115_code 5 = .ok (.iload_n 1, 1) := by decide +kernel
theorem eMd_safe_6 : decode prog_14_method_115_code 6 = .ok (.ifCond .lt 8, 3) := by decide +kernel
theorem eMd_safe_9 : decode prog_14_method_115_code 9 = .ok (.iload_n 1, 1) := by decide +kernel
theorem eMd_safe_10 : decode prog_14_method_115_code 10 = .ok (.iconst 1, 1) := by decide +kernel
theorem eMd_safe_11 : decode prog_14_method_115_code 11 = .ok (.if_icmp .le 5, 3) := by decide +kernel
theorem eMd_safe_14 : decode prog_14_method_115_code 14 = .ok (.iconst (-1), 1) := by decide +kernel
theorem eMd_safe_15 : decode prog_14_method_115_code 15 = .ok (.ireturn, 1) := by decide +kernel
theorem eMd_safe_16 : decode prog_14_method_115_code 16 = .ok (.aload_n 0, 1) := by decide +kernel
theorem eMd_safe_17 : decode prog_14_method_115_code 17 = .ok (.iconst (-1), 1) := by decide +kernel
theorem eMd_safe_18 : decode prog_14_method_115_code 18 = .ok (.iconst 0, 1) := by decide +kernel
theorem eMd_safe_19 : decode prog_14_method_115_code 19 = .ok (.invokevirtual 351, 3) := by decide +kernel
theorem eMd_safe_22 : decode prog_14_method_115_code 22 = .ok (.iconst 0, 1) := by decide +kernel
theorem eMd_safe_23 : decode prog_14_method_115_code 23 = .ok (.istore_n 2, 1) := by decide +kernel
theorem eMd_safe_24 : decode prog_14_method_115_code 24 = .ok (.iconst 0, 1) := by decide +kernel
theorem eMd_safe_25 : decode prog_14_method_115_code 25 = .ok (.istore_n 3, 1) := by decide +kernel
theorem eMd_safe_26 : decode prog_14_method_115_code 26 = .ok (.iconst 0, 1) := by decide +kernel
theorem eMd_safe_27 : decode prog_14_method_115_code 27 = .ok (.istore 4, 2) := by decide +kernel
theorem eMd_safe_29 : decode prog_14_method_115_code 29 = .ok (.iload 4, 2) := by decide +kernel
theorem eMd_safe_31 : decode prog_14_method_115_code 31 = .ok (.ldc 72, 2) := by decide +kernel
theorem eMd_safe_33 : decode prog_14_method_115_code 33 = .ok (.if_icmp .ge 54, 3) := by decide +kernel
theorem eMd_safe_36 : decode prog_14_method_115_code 36 = .ok (.aload_n 0, 1) := by decide +kernel
theorem eMd_safe_37 : decode prog_14_method_115_code 37 = .ok (.iload 4, 2) := by decide +kernel
theorem eMd_safe_39 : decode prog_14_method_115_code 39 = .ok (.invokevirtual 287, 3) := by decide +kernel
theorem eMd_safe_42 : decode prog_14_method_115_code 42 = .ok (.aload_n 0, 1) := by decide +kernel
theorem eMd_safe_43 : decode prog_14_method_115_code 43 = .ok (.invokevirtual 428, 3) := by decide +kernel
theorem eMd_safe_46 : decode prog_14_method_115_code 46 = .ok (.ifCond .eq 35, 3) := by decide +kernel
theorem eMd_safe_49 : decode prog_14_method_115_code 49 = .ok (.aload_n 0, 1) := by decide +kernel
theorem eMd_safe_50 : decode prog_14_method_115_code 50 = .ok (.invokevirtual 277, 3) := by decide +kernel
theorem eMd_safe_53 : decode prog_14_method_115_code 53 = .ok (.ifCond .eq 6, 3) := by decide +kernel
theorem eMd_safe_56 : decode prog_14_method_115_code 56 = .ok (.goto 25, 3) := by decide +kernel
theorem eMd_safe_59 : decode prog_14_method_115_code 59 = .ok (.aload_n 0, 1) := by decide +kernel
theorem eMd_safe_60 : decode prog_14_method_115_code 60 = .ok (.getfield 73, 3) := by decide +kernel
theorem eMd_safe_63 : decode prog_14_method_115_code 63 = .ok (.iload 4, 2) := by decide +kernel
theorem eMd_safe_65 : decode prog_14_method_115_code 65 = .ok (.saload, 1) := by decide +kernel
theorem eMd_safe_66 : decode prog_14_method_115_code 66 = .ok (.sipush 30000, 3) := by decide +kernel
theorem eMd_safe_69 : decode prog_14_method_115_code 69 = .ok (.if_icmp .ne 9, 3) := by decide +kernel
theorem eMd_safe_72 : decode prog_14_method_115_code 72 = .ok (.iinc 3 1, 3) := by decide +kernel
theorem eMd_safe_75 : decode prog_14_method_115_code 75 = .ok (.goto 6, 3) := by decide +kernel
theorem eMd_safe_78 : decode prog_14_method_115_code 78 = .ok (.iinc 2 1, 3) := by decide +kernel
theorem eMd_safe_81 : decode prog_14_method_115_code 81 = .ok (.iinc 4 1, 3) := by decide +kernel
theorem eMd_safe_84 : decode prog_14_method_115_code 84 = .ok (.goto (-55), 3) := by decide +kernel
theorem eMd_safe_87 : decode prog_14_method_115_code 87 = .ok (.iload_n 1, 1) := by decide +kernel
theorem eMd_safe_88 : decode prog_14_method_115_code 88 = .ok (.ifCond .ne 7, 3) := by decide +kernel
theorem eMd_safe_91 : decode prog_14_method_115_code 91 = .ok (.iload_n 2, 1) := by decide +kernel
theorem eMd_safe_92 : decode prog_14_method_115_code 92 = .ok (.goto 4, 3) := by decide +kernel
theorem eMd_safe_95 : decode prog_14_method_115_code 95 = .ok (.iload_n 3, 1) := by decide +kernel
theorem eMd_safe_96 : decode prog_14_method_115_code 96 = .ok (.ireturn, 1) := by decide +kernel
theorem eMd_bears_0 : decode prog_14_method_116_code 0 = .ok (.aload_n 0, 1) := by decide +kernel
theorem eMd_bears_1 : decode prog_14_method_116_code 1 = .ok (.iconst 0, 1) := by decide +kernel
theorem eMd_bears_2 : decode prog_14_method_116_code 2 = .ok (.putfield 107, 3) := by decide +kernel
theorem eMd_bears_5 : decode prog_14_method_116_code 5 = .ok (.aload_n 0, 1) := by decide +kernel
theorem eMd_bears_6 : decode prog_14_method_116_code 6 = .ok (.invokevirtual 364, 3) := by decide +kernel
theorem eMd_bears_9 : decode prog_14_method_116_code 9 = .ok (.ifCond .eq 6, 3) := by decide +kernel
theorem eMd_bears_12 : decode prog_14_method_116_code 12 = .ok (.bipush (-2), 2) := by decide +kernel
theorem eMd_bears_14 : decode prog_14_method_116_code 14 = .ok (.ireturn, 1) := by decide +kernel
theorem eMd_bears_15 : decode prog_14_method_116_code 15 = .ok (.aload_n 0, 1) := by decide +kernel
theorem eMd_bears_16 : decode prog_14_method_116_code 16 = .ok (.iconst (-1), 1) := by decide +kernel
theorem eMd_bears_17 : decode prog_14_method_116_code 17 = .ok (.iconst 0, 1) := by decide +kernel
theorem eMd_bears_18 : decode prog_14_method_116_code 18 = .ok (.invokevirtual 351, 3) := by decide +kernel
theorem eMd_bears_21 : decode prog_14_method_116_code 21 = .ok (.iconst 0, 1) := by decide +kernel
theorem eMd_bears_22 : decode prog_14_method_116_code 22 = .ok (.istore_n 1, 1) := by decide +kernel
theorem eMd_bears_23 : decode prog_14_method_116_code 23 = .ok (.iload_n 1, 1) := by decide +kernel
theorem eMd_bears_24 : decode prog_14_method_116_code 24 = .ok (.bipush 8, 2) := by decide +kernel
theorem eMd_bears_26 : decode prog_14_method_116_code 26 = .ok (.if_icmp .gt 39, 3) := by decide +kernel
theorem eMd_bears_29 : decode prog_14_method_116_code 29 = .ok (.aload_n 0, 1) := by decide +kernel
theorem eMd_bears_30 : decode prog_14_method_116_code 30 = .ok (.iload_n 1, 1) := by decide +kernel
theorem eMd_bears_31 : decode prog_14_method_116_code 31 = .ok (.invokevirtual 431, 3) := by decide +kernel
theorem eMd_bears_34 : decode prog_14_method_116_code 34 = .ok (.ifCond .eq 12, 3) := by decide +kernel
theorem eMd_bears_37 : decode prog_14_method_116_code 37 = .ok (.aload_n 0, 1) := by decide +kernel
theorem eMd_bears_38 : decode prog_14_method_116_code 38 = .ok (.iload_n 1, 1) := by decide +kernel
theorem eMd_bears_39 : decode prog_14_method_116_code 39 = .ok (.ineg, 1) := by decide +kernel
theorem eMd_bears_40 : decode prog_14_method_116_code 40 = .ok (.invokevirtual 431, 3) := by decide +kernel
theorem eMd_bears_43 : decode prog_14_method_116_code 43 = .ok (.ifCond .ne 16, 3) := by decide +kernel
theorem eMd_bears_46 : decode prog_14_method_116_code 46 = .ok (.iload_n 1, 1) := by decide +kernel
theorem eMd_bears_47 : decode prog_14_method_116_code 47 = .ok (.ifCond .ne 8, 3) := by decide +kernel
theorem eMd_bears_50 : decode prog_14_method_116_code 50 = .ok (.bipush (-2), 2) := by decide +kernel
theorem eMd_bears_52 : decode prog_14_method_116_code 52 = .ok (.goto 6, 3) := by decide +kernel
theorem eMd_bears_55 : decode prog_14_method_116_code 55 = .ok (.iload_n 1, 1) := by decide +kernel
theorem eMd_bears_56 : decode prog_14_method_116_code 56 = .ok (.iconst 1, 1) := by decide +kernel
theorem eMd_bears_57 : decode prog_14_method_116_code 57 = .ok (.isub, 1) := by decide +kernel
theorem eMd_bears_58 : decode prog_14_method_116_code 58 = .ok (.ireturn, 1) := by decide +kernel
theorem eMd_bears_59 : decode prog_14_method_116_code 59 = .ok (.iinc 1 1, 3) := by decide +kernel
theorem eMd_bears_62 : decode prog_14_method_116_code 62 = .ok (.goto (-39), 3) := by decide +kernel
theorem eMd_bears_65 : decode prog_14_method_116_code 65 = .ok (.bipush 8, 2) := by decide +kernel
theorem eMd_bears_67 : decode prog_14_method_116_code 67 = .ok (.ireturn, 1) := by decide +kernel
theorem eMd_bearsBy_0 : decode prog_14_method_117_code 0 = .ok (.aload_n 0, 1) := by decide +kernel
theorem eMd_bearsBy_1 : decode prog_14_method_117_code 1 = .ok (.aload_n 0, 1) := by decide +kernel
theorem eMd_bearsBy_2 : decode prog_14_method_117_code 2 = .ok (.getfield 83, 3) := by decide +kernel
theorem eMd_bearsBy_5 : decode prog_14_method_117_code 5 = .ok (.iconst 0, 1) := by decide +kernel
theorem eMd_bearsBy_6 : decode prog_14_method_117_code 6 = .ok (.iaload, 1) := by decide +kernel
theorem eMd_bearsBy_7 : decode prog_14_method_117_code 7 = .ok (.iconst 4, 1) := by decide +kernel
theorem eMd_bearsBy_8 : decode prog_14_method_117_code 8 = .ok (.iload_n 1, 1) := by decide +kernel
theorem eMd_bearsBy_9 : decode prog_14_method_117_code 9 = .ok (.invokevirtual 338, 3) := by decide +kernel
theorem eMd_bearsBy_12 : decode prog_14_method_117_code 12 = .ok (.ifCond .eq 22, 3) := by decide +kernel
theorem eMd_bearsBy_15 : decode prog_14_method_117_code 15 = .ok (.aload_n 0, 1) := by decide +kernel
theorem eMd_bearsBy_16 : decode prog_14_method_117_code 16 = .ok (.getfield 73, 3) := by decide +kernel
theorem eMd_bearsBy_19 : decode prog_14_method_117_code 19 = .ok (.aload_n 0, 1) := by decide +kernel
theorem eMd_bearsBy_20 : decode prog_14_method_117_code 20 = .ok (.invokevirtual 312, 3) := by decide +kernel
theorem eMd_bearsBy_23 : decode prog_14_method_117_code 23 = .ok (.saload, 1) := by decide +kernel
theorem eMd_bearsBy_24 : decode prog_14_method_117_code 24 = .ok (.sipush 30000, 3) := by decide +kernel
theorem eMd_bearsBy_27 : decode prog_14_method_117_code 27 = .ok (.if_icmp .eq 7, 3) := by decide +kernel
theorem eMd_bearsBy_30 : decode prog_14_method_117_code 30 = .ok (.iconst 1, 1) := by decide +kernel
theorem eMd_bearsBy_31 : decode prog_14_method_117_code 31 = .ok (.goto 4, 3) := by decide +kernel
theorem eMd_bearsBy_34 : decode prog_14_method_117_code 34 = .ok (.iconst 0, 1) := by decide +kernel
theorem eMd_bearsBy_35 : decode prog_14_method_117_code 35 = .ok (.ireturn, 1) := by decide +kernel
theorem eMd_pulses_0 : decode prog_14_method_118_code 0 = .ok (.aload_n 0, 1) := by decide +kernel
theorem eMd_pulses_1 : decode prog_14_method_118_code 1 = .ok (.iconst 0, 1) := by decide +kernel
theorem eMd_pulses_2 : decode prog_14_method_118_code 2 = .ok (.putfield 107, 3) := by decide +kernel
theorem eMd_pulses_5 : decode prog_14_method_118_code 5 = .ok (.iload_n 1, 1) := by decide +kernel
theorem eMd_pulses_6 : decode prog_14_method_118_code 6 = .ok (.iconst 1, 1) := by decide +kernel
theorem eMd_pulses_7 : decode prog_14_method_118_code 7 = .ok (.if_icmp .lt 31, 3) := by decide +kernel
theorem eMd_pulses_10 : decode prog_14_method_118_code 10 = .ok (.iload_n 1, 1) := by decide +kernel
theorem eMd_pulses_11 : decode prog_14_method_118_code 11 = .ok (.bipush 6, 2) := by decide +kernel
theorem eMd_pulses_13 : decode prog_14_method_118_code 13 = .ok (.if_icmp .gt 25, 3) := by decide +kernel
theorem eMd_pulses_16 : decode prog_14_method_118_code 16 = .ok (.iload_n 2, 1) := by decide +kernel
theorem eMd_pulses_17 : decode prog_14_method_118_code 17 = .ok (.ifCond .lt 21, 3) := by decide +kernel
theorem eMd_pulses_20 : decode prog_14_method_118_code 20 = .ok (.iload_n 2, 1) := by decide +kernel
theorem eMd_pulses_21 : decode prog_14_method_118_code 21 = .ok (.bipush 8, 2) := by decide +kernel
theorem eMd_pulses_23 : decode prog_14_method_118_code 23 = .ok (.if_icmp .gt 15, 3) := by decide +kernel
theorem eMd_pulses_26 : decode prog_14_method_118_code 26 = .ok (.iload_n 3, 1) := by decide +kernel
theorem eMd_pulses_27 : decode prog_14_method_118_code 27 = .ok (.bipush (-8), 2) := by decide +kernel
theorem eMd_pulses_29 : decode prog_14_method_118_code 29 = .ok (.if_icmp .lt 9, 3) := by decide +kernel
theorem eMd_pulses_32 : decode prog_14_method_118_code 32 = .ok (.iload_n 3, 1) := by decide +kernel
theorem eMd_pulses_33 : decode prog_14_method_118_code 33 = .ok (.bipush 8, 2) := by decide +kernel
theorem eMd_pulses_35 : decode prog_14_method_118_code 35 = .ok (.if_icmp .le 7, 3) := by decide +kernel
theorem eMd_pulses_38 : decode prog_14_method_118_code 38 = .ok (.iconst (-1), 1) := by decide +kernel
theorem eMd_pulses_39 : decode prog_14_method_118_code 39 = .ok (.goto 9, 3) := by decide +kernel
theorem eMd_pulses_42 : decode prog_14_method_118_code 42 = .ok (.iload_n 1, 1) := by decide +kernel
theorem eMd_pulses_43 : decode prog_14_method_118_code 43 = .ok (.iload_n 2, 1) := by decide +kernel
theorem eMd_pulses_44 : decode prog_14_method_118_code 44 = .ok (.iload_n 3, 1) := by decide +kernel
theorem eMd_pulses_45 : decode prog_14_method_118_code 45 = .ok (.invokestatic 434, 3) := by decide +kernel
theorem eMd_pulses_48 : decode prog_14_method_118_code 48 = .ok (.ireturn, 1) := by decide +kernel
theorem eMd_pulsesBy_0 : decode prog_14_method_119_code 0 = .ok (.iconst 1, 1) := by decide +kernel
theorem eMd_pulsesBy_1 : decode prog_14_method_119_code 1 = .ok (.istore_n 3, 1) := by decide +kernel
theorem eMd_pulsesBy_2 : decode prog_14_method_119_code 2 = .ok (.iconst 0, 1) := by decide +kernel
theorem eMd_pulsesBy_3 : decode prog_14_method_119_code 3 = .ok (.istore 4, 2) := by decide +kernel
theorem eMd_pulsesBy_5 : decode prog_14_method_119_code 5 = .ok (.iload 4, 2) := by decide +kernel
theorem eMd_pulsesBy_7 : decode prog_14_method_119_code 7 = .ok (.iload_n 1, 1) := by decide +kernel
theorem eMd_pulsesBy_8 : decode prog_14_method_119_code 8 = .ok (.if_icmp .ge 13, 3) := by decide +kernel
theorem eMd_pulsesBy_11 : decode prog_14_method_119_code 11 = .ok (.iload_n 3, 1) := by decide +kernel
theorem eMd_pulsesBy_12 : decode prog_14_method_119_code 12 = .ok (.iconst 3, 1) := by decide +kernel
theorem eMd_pulsesBy_13 : decode prog_14_method_119_code 13 = .ok (.imul, 1) := by decide +kernel
theorem eMd_pulsesBy_14 : decode prog_14_method_119_code 14 = .ok (.istore_n 3, 1) := by decide +kernel
theorem eMd_pulsesBy_15 : decode prog_14_method_119_code 15 = .ok (.iinc 4 1, 3) := by decide +kernel
theorem eMd_pulsesBy_18 : decode prog_14_method_119_code 18 = .ok (.goto (-13), 3) := by decide +kernel
theorem eMd_pulsesBy_21 : decode prog_14_method_119_code 21 = .ok (.iconst 0, 1) := by decide +kernel
theorem eMd_pulsesBy_22 : decode prog_14_method_119_code 22 = .ok (.istore 4, 2) := by decide +kernel
theorem eMd_pulsesBy_24 : decode prog_14_method_119_code 24 = .ok (.iconst 0, 1) := by decide +kernel
theorem eMd_pulsesBy_25 : decode prog_14_method_119_code 25 = .ok (.istore 5, 2) := by decide +kernel
theorem eMd_pulsesBy_27 : decode prog_14_method_119_code 27 = .ok (.iload 5, 2) := by decide +kernel
theorem eMd_pulsesBy_29 : decode prog_14_method_119_code 29 = .ok (.iload_n 3, 1) := by decide +kernel
theorem eMd_pulsesBy_30 : decode prog_14_method_119_code 30 = .ok (.if_icmp .ge 107, 3) := by decide +kernel
theorem eMd_pulsesBy_33 : decode prog_14_method_119_code 33 = .ok (.iload 5, 2) := by decide +kernel
theorem eMd_pulsesBy_35 : decode prog_14_method_119_code 35 = .ok (.istore 6, 2) := by decide +kernel
theorem eMd_pulsesBy_37 : decode prog_14_method_119_code 37 = .ok (.iconst 0, 1) := by decide +kernel
theorem eMd_pulsesBy_38 : decode prog_14_method_119_code 38 = .ok (.istore 7, 2) := by decide +kernel
theorem eMd_pulsesBy_40 : decode prog_14_method_119_code 40 = .ok (.iconst 0, 1) := by decide +kernel
theorem eMd_pulsesBy_41 : decode prog_14_method_119_code 41 = .ok (.istore 8, 2) := by decide +kernel
theorem eMd_pulsesBy_43 : decode prog_14_method_119_code 43 = .ok (.iconst 0, 1) := by decide +kernel
theorem eMd_pulsesBy_44 : decode prog_14_method_119_code 44 = .ok (.istore 9, 2) := by decide +kernel
theorem eMd_pulsesBy_46 : decode prog_14_method_119_code 46 = .ok (.iconst 0, 1) := by decide +kernel
theorem eMd_pulsesBy_47 : decode prog_14_method_119_code 47 = .ok (.istore 10, 2) := by decide +kernel
theorem eMd_pulsesBy_49 : decode prog_14_method_119_code 49 = .ok (.iload 10, 2) := by decide +kernel
theorem eMd_pulsesBy_51 : decode prog_14_method_119_code 51 = .ok (.iload_n 1, 1) := by decide +kernel
theorem eMd_pulsesBy_52 : decode prog_14_method_119_code 52 = .ok (.if_icmp .ge 53, 3) := by decide +kernel
theorem eMd_pulsesBy_55 : decode prog_14_method_119_code 55 = .ok (.iload 6, 2) := by decide +kernel
theorem eMd_pulsesBy_57 : decode prog_14_method_119_code 57 = .ok (.iconst 3, 1) := by decide +kernel
theorem eMd_pulsesBy_58 : decode prog_14_method_119_code 58 = .ok (.irem, 1) := by decide +kernel
theorem eMd_pulsesBy_59 : decode prog_14_method_119_code 59 = .ok (.iconst 1, 1) := by decide +kernel
theorem eMd_pulsesBy_60 : decode prog_14_method_119_code 60 = .ok (.isub, 1) := by decide +kernel
theorem eMd_pulsesBy_61 : decode prog_14_method_119_code 61 = .ok (.istore 11, 2) := by decide +kernel
theorem eMd_pulsesBy_63 : decode prog_14_method_119_code 63 = .ok (.iload 6, 2) := by decide +kernel
theorem eMd_pulsesBy_65 : decode prog_14_method_119_code 65 = .ok (.iconst 3, 1) := by decide +kernel
theorem eMd_pulsesBy_66 : decode prog_14_method_119_code 66 = .ok (.idiv, 1) := by decide +kernel
theorem eMd_pulsesBy_67 : decode prog_14_method_119_code 67 = .ok (.istore 6, 2) := by decide +kernel
theorem eMd_pulsesBy_69 : decode prog_14_method_119_code 69 = .ok (.iload_n 0, 1) := by decide +kernel
theorem eMd_pulsesBy_70 : decode prog_14_method_119_code 70 = .ok (.invokestatic 274, 3) := by decide +kernel
theorem eMd_pulsesBy_73 : decode prog_14_method_119_code 73 = .ok (.iload 8, 2) := by decide +kernel
theorem eMd_pulsesBy_75 : decode prog_14_method_119_code 75 = .ok (.imul, 1) := by decide +kernel
theorem eMd_pulsesBy_76 : decode prog_14_method_119_code 76 = .ok (.iload 9, 2) := by decide +kernel
theorem eMd_pulsesBy_78 : decode prog_14_method_119_code 78 = .ok (.isub, 1) := by decide +kernel
theorem eMd_pulsesBy_79 : decode prog_14_method_119_code 79 = .ok (.iload 11, 2) := by decide +kernel
theorem eMd_pulsesBy_81 : decode prog_14_method_119_code 81 = .ok (.isub, 1) := by decide +kernel
theorem eMd_pulsesBy_82 : decode prog_14_method_119_code 82 = .ok (.istore 12, 2) := by decide +kernel
theorem eMd_pulsesBy_84 : decode prog_14_method_119_code 84 = .ok (.iload 8, 2) := by decide +kernel
theorem eMd_pulsesBy_86 : decode prog_14_method_119_code 86 = .ok (.istore 9, 2) := by decide +kernel
theorem eMd_pulsesBy_88 : decode prog_14_method_119_code 88 = .ok (.iload 12, 2) := by decide +kernel
theorem eMd_pulsesBy_90 : decode prog_14_method_119_code 90 = .ok (.istore 8, 2) := by decide +kernel
theorem eMd_pulsesBy_92 : decode prog_14_method_119_code 92 = .ok (.iload 7, 2) := by decide +kernel
theorem eMd_pulsesBy_94 : decode prog_14_method_119_code 94 = .ok (.iload 11, 2) := by decide +kernel
theorem eMd_pulsesBy_96 : decode prog_14_method_119_code 96 = .ok (.iadd, 1) := by decide +kernel
theorem eMd_pulsesBy_97 : decode prog_14_method_119_code 97 = .ok (.istore 7, 2) := by decide +kernel
theorem eMd_pulsesBy_99 : decode prog_14_method_119_code 99 = .ok (.iinc 10 1, 3) := by decide +kernel
theorem eMd_pulsesBy_102 : decode prog_14_method_119_code 102 = .ok (.goto (-53), 3) := by decide +kernel
theorem eMd_pulsesBy_105 : decode prog_14_method_119_code 105 = .ok (.iload 4, 2) := by decide +kernel
theorem eMd_pulsesBy_107 : decode prog_14_method_119_code 107 = .ok (.iload 7, 2) := by decide +kernel
theorem eMd_pulsesBy_109 : decode prog_14_method_119_code 109 = .ok (.iload_n 2, 1) := by decide +kernel
theorem eMd_pulsesBy_110 : decode prog_14_method_119_code 110 = .ok (.if_icmp .ne 17, 3) := by decide +kernel
theorem eMd_pulsesBy_113 : decode prog_14_method_119_code 113 = .ok (.iload 8, 2) := by decide +kernel
theorem eMd_pulsesBy_115 : decode prog_14_method_119_code 115 = .ok (.ifCond .ne 12, 3) := by decide +kernel
theorem eMd_pulsesBy_118 : decode prog_14_method_119_code 118 = .ok (.iload 9, 2) := by decide +kernel
theorem eMd_pulsesBy_120 : decode prog_14_method_119_code 120 = .ok (.ifCond .ne 7, 3) := by decide +kernel
theorem eMd_pulsesBy_123 : decode prog_14_method_119_code 123 = .ok (.iconst 1, 1) := by decide +kernel
theorem eMd_pulsesBy_124 : decode prog_14_method_119_code 124 = .ok (.goto 4, 3) := by decide +kernel
theorem eMd_pulsesBy_127 : decode prog_14_method_119_code 127 = .ok (.iconst 0, 1) := by decide +kernel
theorem eMd_pulsesBy_128 : decode prog_14_method_119_code 128 = .ok (.iadd, 1) := by decide +kernel
theorem eMd_pulsesBy_129 : decode prog_14_method_119_code 129 = .ok (.istore 4, 2) := by decide +kernel
theorem eMd_pulsesBy_131 : decode prog_14_method_119_code 131 = .ok (.iinc 5 1, 3) := by decide +kernel
theorem eMd_pulsesBy_134 : decode prog_14_method_119_code 134 = .ok (.goto (-107), 3) := by decide +kernel
theorem eMd_pulsesBy_137 : decode prog_14_method_119_code 137 = .ok (.iload 4, 2) := by decide +kernel
theorem eMd_pulsesBy_139 : decode prog_14_method_119_code 139 = .ok (.ireturn, 1) := by decide +kernel
theorem eMd_shortest_0 : decode prog_14_method_120_code 0 = .ok (.aload_n 0, 1) := by decide +kernel
theorem eMd_shortest_1 : decode prog_14_method_120_code 1 = .ok (.iconst 0, 1) := by decide +kernel
theorem eMd_shortest_2 : decode prog_14_method_120_code 2 = .ok (.putfield 107, 3) := by decide +kernel
theorem eMd_shortest_5 : decode prog_14_method_120_code 5 = .ok (.iload_n 1, 1) := by decide +kernel
theorem eMd_shortest_6 : decode prog_14_method_120_code 6 = .ok (.iconst 1, 1) := by decide +kernel
theorem eMd_shortest_7 : decode prog_14_method_120_code 7 = .ok (.if_icmp .lt 25, 3) := by decide +kernel
theorem eMd_shortest_10 : decode prog_14_method_120_code 10 = .ok (.iload_n 1, 1) := by decide +kernel
theorem eMd_shortest_11 : decode prog_14_method_120_code 11 = .ok (.bipush 6, 2) := by decide +kernel
theorem eMd_shortest_13 : decode prog_14_method_120_code 13 = .ok (.if_icmp .gt 19, 3) := by decide +kernel
theorem eMd_shortest_16 : decode prog_14_method_120_code 16 = .ok (.iload_n 2, 1) := by decide +kernel
theorem eMd_shortest_17 : decode prog_14_method_120_code 17 = .ok (.bipush (-8), 2) := by decide +kernel
theorem eMd_shortest_19 : decode prog_14_method_120_code 19 = .ok (.if_icmp .lt 13, 3) := by decide +kernel
theorem eMd_shortest_22 : decode prog_14_method_120_code 22 = .ok (.iload_n 2, 1) := by decide +kernel
theorem eMd_shortest_23 : decode prog_14_method_120_code 23 = .ok (.bipush 8, 2) := by decide +kernel
theorem eMd_shortest_25 : decode prog_14_method_120_code 25 = .ok (.if_icmp .gt 7, 3) := by decide +kernel
theorem eMd_shortest_28 : decode prog_14_method_120_code 28 = .ok (.iload_n 2, 1) := by decide +kernel
theorem eMd_shortest_29 : decode prog_14_method_120_code 29 = .ok (.ifCond .ne 5, 3) := by decide +kernel
theorem eMd_shortest_32 : decode prog_14_method_120_code 32 = .ok (.iconst (-1), 1) := by decide +kernel
theorem eMd_shortest_33 : decode prog_14_method_120_code 33 = .ok (.ireturn, 1) := by decide +kernel
theorem eMd_shortest_34 : decode prog_14_method_120_code 34 = .ok (.iconst 0, 1) := by decide +kernel
theorem eMd_shortest_35 : decode prog_14_method_120_code 35 = .ok (.istore_n 3, 1) := by decide +kernel
theorem eMd_shortest_36 : decode prog_14_method_120_code 36 = .ok (.iload_n 3, 1) := by decide +kernel
theorem eMd_shortest_37 : decode prog_14_method_120_code 37 = .ok (.bipush 8, 2) := by decide +kernel
theorem eMd_shortest_39 : decode prog_14_method_120_code 39 = .ok (.if_icmp .gt 20, 3) := by decide +kernel
theorem eMd_shortest_42 : decode prog_14_method_120_code 42 = .ok (.iload_n 1, 1) := by decide +kernel
theorem eMd_shortest_43 : decode prog_14_method_120_code 43 = .ok (.iload_n 3, 1) := by decide +kernel
theorem eMd_shortest_44 : decode prog_14_method_120_code 44 = .ok (.iload_n 2, 1) := by decide +kernel
theorem eMd_shortest_45 : decode prog_14_method_120_code 45 = .ok (.invokestatic 434, 3) := by decide +kernel
theorem eMd_shortest_48 : decode prog_14_method_120_code 48 = .ok (.ifCond .le 5, 3) := by decide +kernel
theorem eMd_shortest_51 : decode prog_14_method_120_code 51 = .ok (.iload_n 3, 1) := by decide +kernel
theorem eMd_shortest_52 : decode prog_14_method_120_code 52 = .ok (.ireturn, 1) := by decide +kernel
theorem eMd_shortest_53 : decode prog_14_method_120_code 53 = .ok (.iinc 3 1, 3) := by decide +kernel
theorem eMd_shortest_56 : decode prog_14_method_120_code 56 = .ok (.goto (-20), 3) := by decide +kernel
theorem eMd_shortest_59 : decode prog_14_method_120_code 59 = .ok (.bipush (-2), 2) := by decide +kernel
theorem eMd_shortest_61 : decode prog_14_method_120_code 61 = .ok (.ireturn, 1) := by decide +kernel
theorem eMd_empties_0 : decode prog_14_method_121_code 0 = .ok (.aload_n 0, 1) := by decide +kernel
theorem eMd_empties_1 : decode prog_14_method_121_code 1 = .ok (.bipush (-2), 2) := by decide +kernel
theorem eMd_empties_3 : decode prog_14_method_121_code 3 = .ok (.putfield 80, 3) := by decide +kernel
theorem eMd_empties_6 : decode prog_14_method_121_code 6 = .ok (.aload_n 0, 1) := by decide +kernel
theorem eMd_empties_7 : decode prog_14_method_121_code 7 = .ok (.iconst 0, 1) := by decide +kernel
theorem eMd_empties_8 : decode prog_14_method_121_code 8 = .ok (.putfield 284, 3) := by decide +kernel
theorem eMd_empties_11 : decode prog_14_method_121_code 11 = .ok (.iconst 0, 1) := by decide +kernel
theorem eMd_empties_12 : decode prog_14_method_121_code 12 = .ok (.istore_n 1, 1) := by decide +kernel
theorem eMd_empties_13 : decode prog_14_method_121_code 13 = .ok (.iload_n 1, 1) := by decide +kernel
theorem eMd_empties_14 : decode prog_14_method_121_code 14 = .ok (.ldc 72, 2) := by decide +kernel
theorem eMd_empties_16 : decode prog_14_method_121_code 16 = .ok (.if_icmp .ge 18, 3) := by decide +kernel
theorem eMd_empties_19 : decode prog_14_method_121_code 19 = .ok (.aload_n 0, 1) := by decide +kernel
theorem eMd_empties_20 : decode prog_14_method_121_code 20 = .ok (.getfield 73, 3) := by decide +kernel
theorem eMd_empties_23 : decode prog_14_method_121_code 23 = .ok (.iload_n 1, 1) := by decide +kernel
theorem eMd_empties_24 : decode prog_14_method_121_code 24 = .ok (.sipush 30000, 3) := by decide +kernel
theorem eMd_empties_27 : decode prog_14_method_121_code 27 = .ok (.sastore, 1) := by decide +kernel
theorem eMd_empties_28 : decode prog_14_method_121_code 28 = .ok (.iinc 1 1, 3) := by decide +kernel
theorem eMd_empties_31 : decode prog_14_method_121_code 31 = .ok (.goto (-18), 3) := by decide +kernel
theorem eMd_empties_34 : decode prog_14_method_121_code 34 = .ok (.return_, 1) := by decide +kernel
theorem eMd_deeds_0 : decode prog_14_method_122_code 0 = .ok (.iload_n 0, 1) := by decide +kernel
theorem eMd_deeds_1 : decode prog_14_method_122_code 1 = .ok (.iconst 3, 1) := by decide +kernel
theorem eMd_deeds_2 : decode prog_14_method_122_code 2 = .ok (.idiv, 1) := by decide +kernel
theorem eMd_deeds_3 : decode prog_14_method_122_code 3 = .ok (.iconst 1, 1) := by decide +kernel
theorem eMd_deeds_4 : decode prog_14_method_122_code 4 = .ok (.if_icmp .ne 7, 3) := by decide +kernel
theorem eMd_deeds_7 : decode prog_14_method_122_code 7 = .ok (.iconst 0, 1) := by decide +kernel
theorem eMd_deeds_8 : decode prog_14_method_122_code 8 = .ok (.goto 4, 3) := by decide +kernel
theorem eMd_deeds_11 : decode prog_14_method_122_code 11 = .ok (.iconst 1, 1) := by decide +kernel
theorem eMd_deeds_12 : decode prog_14_method_122_code 12 = .ok (.iload_n 0, 1) := by decide +kernel
theorem eMd_deeds_13 : decode prog_14_method_122_code 13 = .ok (.iconst 3, 1) := by decide +kernel
theorem eMd_deeds_14 : decode prog_14_method_122_code 14 = .ok (.irem, 1) := by decide +kernel
theorem eMd_deeds_15 : decode prog_14_method_122_code 15 = .ok (.iconst 1, 1) := by decide +kernel
theorem eMd_deeds_16 : decode prog_14_method_122_code 16 = .ok (.if_icmp .ne 7, 3) := by decide +kernel
theorem eMd_deeds_19 : decode prog_14_method_122_code 19 = .ok (.iconst 0, 1) := by decide +kernel
theorem eMd_deeds_20 : decode prog_14_method_122_code 20 = .ok (.goto 4, 3) := by decide +kernel
theorem eMd_deeds_23 : decode prog_14_method_122_code 23 = .ok (.iconst 1, 1) := by decide +kernel
theorem eMd_deeds_24 : decode prog_14_method_122_code 24 = .ok (.iadd, 1) := by decide +kernel
theorem eMd_deeds_25 : decode prog_14_method_122_code 25 = .ok (.ireturn, 1) := by decide +kernel
theorem eMd_seeksDeeds_0 : decode prog_14_method_123_code 0 = .ok (.aload_n 0, 1) := by decide +kernel
theorem eMd_seeksDeeds_1 : decode prog_14_method_123_code 1 = .ok (.invokevirtual 437, 3) := by decide +kernel
theorem eMd_seeksDeeds_4 : decode prog_14_method_123_code 4 = .ok (.aload_n 0, 1) := by decide +kernel
theorem eMd_seeksDeeds_5 : decode prog_14_method_123_code 5 = .ok (.getfield 73, 3) := by decide +kernel
theorem eMd_seeksDeeds_8 : decode prog_14_method_123_code 8 = .ok (.iload_n 1, 1) := by decide +kernel
theorem eMd_seeksDeeds_9 : decode prog_14_method_123_code 9 = .ok (.iconst 0, 1) := by decide +kernel
theorem eMd_seeksDeeds_10 : decode prog_14_method_123_code 10 = .ok (.sastore, 1) := by decide +kernel
theorem eMd_seeksDeeds_11 : decode prog_14_method_123_code 11 = .ok (.iconst 0, 1) := by decide +kernel
theorem eMd_seeksDeeds_12 : decode prog_14_method_123_code 12 = .ok (.istore_n 2, 1) := by decide +kernel
theorem eMd_seeksDeeds_13 : decode prog_14_method_123_code 13 = .ok (.iconst 0, 1) := by decide +kernel
theorem eMd_seeksDeeds_14 : decode prog_14_method_123_code 14 = .ok (.istore_n 3, 1) := by decide +kernel
theorem eMd_seeksDeeds_15 : decode prog_14_method_123_code 15 = .ok (.iload_n 3, 1) := by decide +kernel
theorem eMd_seeksDeeds_16 : decode prog_14_method_123_code 16 = .ok (.iload_n 2, 1) := by decide +kernel
theorem eMd_seeksDeeds_17 : decode prog_14_method_123_code 17 = .ok (.if_icmp .gt 209, 3) := by decide +kernel
theorem eMd_seeksDeeds_20 : decode prog_14_method_123_code 20 = .ok (.aload_n 0, 1) := by decide +kernel
theorem eMd_seeksDeeds_21 : decode prog_14_method_123_code 21 = .ok (.iconst 0, 1) := by decide +kernel
theorem eMd_seeksDeeds_22 : decode prog_14_method_123_code 22 = .ok (.putfield 284, 3) := by decide +kernel
theorem eMd_seeksDeeds_25 : decode prog_14_method_123_code 25 = .ok (.iconst 0, 1) := by decide +kernel
theorem eMd_seeksDeeds_26 : decode prog_14_method_123_code 26 = .ok (.istore 4, 2) := by decide +kernel
theorem eMd_seeksDeeds_28 : decode prog_14_method_123_code 28 = .ok (.iload 4, 2) := by decide +kernel
theorem eMd_seeksDeeds_30 : decode prog_14_method_123_code 30 = .ok (.ldc 72, 2) := by decide +kernel
theorem eMd_seeksDeeds_32 : decode prog_14_method_123_code 32 = .ok (.if_icmp .ge 44, 3) := by decide +kernel
theorem eMd_seeksDeeds_35 : decode prog_14_method_123_code 35 = .ok (.aload_n 0, 1) := by decide +kernel
theorem eMd_seeksDeeds_36 : decode prog_14_method_123_code 36 = .ok (.getfield 73, 3) := by decide +kernel
theorem eMd_seeksDeeds_39 : decode prog_14_method_123_code 39 = .ok (.iload 4, 2) := by decide +kernel
theorem eMd_seeksDeeds_41 : decode prog_14_method_123_code 41 = .ok (.saload, 1) := by decide +kernel
theorem eMd_seeksDeeds_42 : decode prog_14_method_123_code 42 = .ok (.iload_n 3, 1) := by decide +kernel
theorem eMd_seeksDeeds_43 : decode prog_14_method_123_code 43 = .ok (.if_icmp .eq 6, 3) := by decide +kernel
theorem eMd_seeksDeeds_46 : decode prog_14_method_123_code 46 = .ok (.goto 24, 3) := by decide +kernel
theorem eMd_seeksDeeds_49 : decode prog_14_method_123_code 49 = .ok (.aload_n 0, 1) := by decide +kernel
theorem eMd_seeksDeeds_50 : decode prog_14_method_123_code 50 = .ok (.getfield 77, 3) := by decide +kernel
theorem eMd_seeksDeeds_53 : decode prog_14_method_123_code 53 = .ok (.aload_n 0, 1) := by decide +kernel
theorem eMd_seeksDeeds_54 : decode prog_14_method_123_code 54 = .ok (.getfield 284, 3) := by decide +kernel
theorem eMd_seeksDeeds_57 : decode prog_14_method_123_code 57 = .ok (.iload 4, 2) := by decide +kernel
theorem eMd_seeksDeeds_59 : decode prog_14_method_123_code 59 = .ok (.iastore, 1) := by decide +kernel
theorem eMd_seeksDeeds_60 : decode prog_14_method_123_code 60 = .ok (.aload_n 0, 1) := by decide +kernel
theorem eMd_seeksDeeds_61 : decode prog_14_method_123_code 61 = .ok (.dup, 1) := by decide +kernel
theorem eMd_seeksDeeds_62 : decode prog_14_method_123_code 62 = .ok (.getfield 284, 3) := by decide +kernel
theorem eMd_seeksDeeds_65 : decode prog_14_method_123_code 65 = .ok (.iconst 1, 1) := by decide +kernel
theorem eMd_seeksDeeds_66 : decode prog_14_method_123_code 66 = .ok (.iadd, 1) := by decide +kernel
theorem eMd_seeksDeeds_67 : decode prog_14_method_123_code 67 = .ok (.putfield 284, 3) := by decide +kernel
theorem eMd_seeksDeeds_70 : decode prog_14_method_123_code 70 = .ok (.iinc 4 1, 3) := by decide +kernel
theorem eMd_seeksDeeds_73 : decode prog_14_method_123_code 73 = .ok (.goto (-45), 3) := by decide +kernel
theorem eMd_seeksDeeds_76 : decode prog_14_method_123_code 76 = .ok (.iconst 0, 1) := by decide +kernel
theorem eMd_seeksDeeds_77 : decode prog_14_method_123_code 77 = .ok (.istore 4, 2) := by decide +kernel
theorem eMd_seeksDeeds_79 : decode prog_14_method_123_code 79 = .ok (.iload 4, 2) := by decide +kernel
theorem eMd_seeksDeeds_81 : decode prog_14_method_123_code 81 = .ok (.aload_n 0, 1) := by decide +kernel
theorem eMd_seeksDeeds_82 : decode prog_14_method_123_code 82 = .ok (.getfield 284, 3) := by decide +kernel
theorem eMd_seeksDeeds_85 : decode prog_14_method_123_code 85 = .ok (.if_icmp .ge 135, 3) := by decide +kernel
theorem eMd_seeksDeeds_88 : decode prog_14_method_123_code 88 = .ok (.iconst 0, 1) := by decide +kernel
theorem eMd_seeksDeeds_89 : decode prog_14_method_123_code 89 = .ok (.istore 5, 2) := by decide +kernel
theorem eMd_seeksDeeds_91 : decode prog_14_method_123_code 91 = .ok (.iload 5, 2) := by decide +kernel
theorem eMd_seeksDeeds_93 : decode prog_14_method_123_code 93 = .ok (.bipush 9, 2) := by decide +kernel
theorem eMd_seeksDeeds_95 : decode prog_14_method_123_code 95 = .ok (.if_icmp .ge 119, 3) := by decide +kernel
theorem eMd_seeksDeeds_98 : decode prog_14_method_123_code 98 = .ok (.aload_n 0, 1) := by decide +kernel
theorem eMd_seeksDeeds_99 : decode prog_14_method_123_code 99 = .ok (.aload_n 0, 1) := by decide +kernel
theorem eMd_seeksDeeds_100 : decode prog_14_method_123_code 100 = .ok (.getfield 77, 3) := by decide +kernel
theorem eMd_seeksDeeds_103 : decode prog_14_method_123_code 103 = .ok (.iload 4, 2) := by decide +kernel
theorem eMd_seeksDeeds_105 : decode prog_14_method_123_code 105 = .ok (.iaload, 1) := by decide +kernel
theorem eMd_seeksDeeds_106 : decode prog_14_method_123_code 106 = .ok (.invokevirtual 287, 3) := by decide +kernel
theorem eMd_seeksDeeds_109 : decode prog_14_method_123_code 109 = .ok (.aload_n 0, 1) := by decide +kernel
theorem eMd_seeksDeeds_110 : decode prog_14_method_123_code 110 = .ok (.iload 5, 2) := by decide +kernel
theorem eMd_seeksDeeds_112 : decode prog_14_method_123_code 112 = .ok (.invokevirtual 309, 3) := by decide +kernel
theorem eMd_seeksDeeds_115 : decode prog_14_method_123_code 115 = .ok (.aload_n 0, 1) := by decide +kernel
theorem eMd_seeksDeeds_116 : decode prog_14_method_123_code 116 = .ok (.invokevirtual 290, 3) := by decide +kernel
theorem eMd_seeksDeeds_119 : decode prog_14_method_123_code 119 = .ok (.ifCond .eq 89, 3) := by decide +kernel
theorem eMd_seeksDeeds_122 : decode prog_14_method_123_code 122 = .ok (.aload_n 0, 1) := by decide +kernel
theorem eMd_seeksDeeds_123 : decode prog_14_method_123_code 123 = .ok (.getfield 73, 3) := by decide +kernel
theorem eMd_seeksDeeds_126 : decode prog_14_method_123_code 126 = .ok (.aload_n 0, 1) := by decide +kernel
theorem eMd_seeksDeeds_127 : decode prog_14_method_123_code 127 = .ok (.invokevirtual 312, 3) := by decide +kernel
theorem eMd_seeksDeeds_130 : decode prog_14_method_123_code 130 = .ok (.saload, 1) := by decide +kernel
theorem eMd_seeksDeeds_131 : decode prog_14_method_123_code 131 = .ok (.iload_n 3, 1) := by decide +kernel
theorem eMd_seeksDeeds_132 : decode prog_14_method_123_code 132 = .ok (.iload 5, 2) := by decide +kernel
theorem eMd_seeksDeeds_134 : decode prog_14_method_123_code 134 = .ok (.invokestatic 440, 3) := by decide +kernel
theorem eMd_seeksDeeds_137 : decode prog_14_method_123_code 137 = .ok (.iadd, 1) := by decide +kernel
theorem eMd_seeksDeeds_138 : decode prog_14_method_123_code 138 = .ok (.if_icmp .gt 6, 3) := by decide +kernel
theorem eMd_seeksDeeds_141 : decode prog_14_method_123_code 141 = .ok (.goto 67, 3) := by decide +kernel
theorem eMd_seeksDeeds_144 : decode prog_14_method_123_code 144 = .ok (.aload_n 0, 1) := by decide +kernel
theorem eMd_seeksDeeds_145 : decode prog_14_method_123_code 145 = .ok (.getfield 73, 3) := by decide +kernel
theorem eMd_seeksDeeds_148 : decode prog_14_method_123_code 148 = .ok (.aload_n 0, 1) := by decide +kernel
theorem eMd_seeksDeeds_149 : decode prog_14_method_123_code 149 = .ok (.invokevirtual 312, 3) := by decide +kernel
theorem eMd_seeksDeeds_152 : decode prog_14_method_123_code 152 = .ok (.iload_n 3, 1) := by decide +kernel
theorem eMd_seeksDeeds_153 : decode prog_14_method_123_code 153 = .ok (.iload 5, 2) := by decide +kernel
theorem eMd_seeksDeeds_155 : decode prog_14_method_123_code 155 = .ok (.invokestatic 440, 3) := by decide +kernel
theorem eMd_seeksDeeds_158 : decode prog_14_method_123_code 158 = .ok (.iadd, 1) := by decide +kernel
theorem eMd_seeksDeeds_159 : decode prog_14_method_123_code 159 = .ok (.i2s, 1) := by decide +kernel
theorem eMd_seeksDeeds_160 : decode prog_14_method_123_code 160 = .ok (.sastore, 1) := by decide +kernel
theorem eMd_seeksDeeds_161 : decode prog_14_method_123_code 161 = .ok (.aload_n 0, 1) := by decide +kernel
theorem eMd_seeksDeeds_162 : decode prog_14_method_123_code 162 = .ok (.iload_n 2, 1) := by decide +kernel
theorem eMd_seeksDeeds_163 : decode prog_14_method_123_code 163 = .ok (.iload_n 3, 1) := by decide +kernel
theorem eMd_seeksDeeds_164 : decode prog_14_method_123_code 164 = .ok (.iload 5, 2) := by decide +kernel
theorem eMd_seeksDeeds_166 : decode prog_14_method_123_code 166 = .ok (.invokestatic 440, 3) := by decide +kernel
theorem eMd_seeksDeeds_169 : decode prog_14_method_123_code 169 = .ok (.iadd, 1) := by decide +kernel
theorem eMd_seeksDeeds_170 : decode prog_14_method_123_code 170 = .ok (.invokevirtual 443, 3) := by decide +kernel
theorem eMd_seeksDeeds_173 : decode prog_14_method_123_code 173 = .ok (.istore_n 2, 1) := by decide +kernel
theorem eMd_seeksDeeds_174 : decode prog_14_method_123_code 174 = .ok (.iload 5, 2) := by decide +kernel
theorem eMd_seeksDeeds_176 : decode prog_14_method_123_code 176 = .ok (.invokestatic 440, 3) := by decide +kernel
theorem eMd_seeksDeeds_179 : decode prog_14_method_123_code 179 = .ok (.ifCond .le 6, 3) := by decide +kernel
theorem eMd_seeksDeeds_182 : decode prog_14_method_123_code 182 = .ok (.goto 26, 3) := by decide +kernel
theorem eMd_seeksDeeds_185 : decode prog_14_method_123_code 185 = .ok (.aload_n 0, 1) := by decide +kernel
theorem eMd_seeksDeeds_186 : decode prog_14_method_123_code 186 = .ok (.getfield 77, 3) := by decide +kernel
theorem eMd_seeksDeeds_189 : decode prog_14_method_123_code 189 = .ok (.aload_n 0, 1) := by decide +kernel
theorem eMd_seeksDeeds_190 : decode prog_14_method_123_code 190 = .ok (.getfield 284, 3) := by decide +kernel
theorem eMd_seeksDeeds_193 : decode prog_14_method_123_code 193 = .ok (.aload_n 0, 1) := by decide +kernel
theorem eMd_seeksDeeds_194 : decode prog_14_method_123_code 194 = .ok (.invokevirtual 312, 3) := by decide +kernel
theorem eMd_seeksDeeds_197 : decode prog_14_method_123_code 197 = .ok (.iastore, 1) := by decide +kernel
theorem eMd_seeksDeeds_198 : decode prog_14_method_123_code 198 = .ok (.aload_n 0, 1) := by decide +kernel
theorem eMd_seeksDeeds_199 : decode prog_14_method_123_code 199 = .ok (.dup, 1) := by decide +kernel
theorem eMd_seeksDeeds_200 : decode prog_14_method_123_code 200 = .ok (.getfield 284, 3) := by decide +kernel
theorem eMd_seeksDeeds_203 : decode prog_14_method_123_code 203 = .ok (.iconst 1, 1) := by decide +kernel
theorem eMd_seeksDeeds_204 : decode prog_14_method_123_code 204 = .ok (.iadd, 1) := by decide +kernel
theorem eMd_seeksDeeds_205 : decode prog_14_method_123_code 205 = .ok (.putfield 284, 3) := by decide +kernel
theorem eMd_seeksDeeds_208 : decode prog_14_method_123_code 208 = .ok (.iinc 5 1, 3) := by decide +kernel
theorem eMd_seeksDeeds_211 : decode prog_14_method_123_code 211 = .ok (.goto (-120), 3) := by decide +kernel
theorem eMd_seeksDeeds_214 : decode prog_14_method_123_code 214 = .ok (.iinc 4 1, 3) := by decide +kernel
theorem eMd_seeksDeeds_217 : decode prog_14_method_123_code 217 = .ok (.goto (-138), 3) := by decide +kernel
theorem eMd_seeksDeeds_220 : decode prog_14_method_123_code 220 = .ok (.iinc 3 1, 3) := by decide +kernel
theorem eMd_seeksDeeds_223 : decode prog_14_method_123_code 223 = .ok (.goto (-208), 3) := by decide +kernel
theorem eMd_seeksDeeds_226 : decode prog_14_method_123_code 226 = .ok (.return_, 1) := by decide +kernel
theorem eMd_least_0 : decode prog_14_method_124_code 0 = .ok (.aload_n 0, 1) := by decide +kernel
theorem eMd_least_1 : decode prog_14_method_124_code 1 = .ok (.iconst 0, 1) := by decide +kernel
theorem eMd_least_2 : decode prog_14_method_124_code 2 = .ok (.putfield 107, 3) := by decide +kernel
theorem eMd_least_5 : decode prog_14_method_124_code 5 = .ok (.aload_n 0, 1) := by decide +kernel
theorem eMd_least_6 : decode prog_14_method_124_code 6 = .ok (.iload_n 1, 1) := by decide +kernel
theorem eMd_least_7 : decode prog_14_method_124_code 7 = .ok (.invokevirtual 379, 3) := by decide +kernel
theorem eMd_least_10 : decode prog_14_method_124_code 10 = .ok (.ifCond .ne 5, 3) := by decide +kernel
theorem eMd_least_13 : decode prog_14_method_124_code 13 = .ok (.iconst (-1), 1) := by decide +kernel
theorem eMd_least_14 : decode prog_14_method_124_code 14 = .ok (.ireturn, 1) := by decide +kernel
theorem eMd_least_15 : decode prog_14_method_124_code 15 = .ok (.aload_n 0, 1) := by decide +kernel
theorem eMd_least_16 : decode prog_14_method_124_code 16 = .ok (.invokevirtual 364, 3) := by decide +kernel
theorem eMd_least_19 : decode prog_14_method_124_code 19 = .ok (.ifCond .ne 15, 3) := by decide +kernel
theorem eMd_least_22 : decode prog_14_method_124_code 22 = .ok (.aload_n 0, 1) := by decide +kernel
theorem eMd_least_23 : decode prog_14_method_124_code 23 = .ok (.aload_n 0, 1) := by decide +kernel
theorem eMd_least_24 : decode prog_14_method_124_code 24 = .ok (.iload_n 1, 1) := by decide +kernel
theorem eMd_least_25 : decode prog_14_method_124_code 25 = .ok (.invokevirtual 382, 3) := by decide +kernel
theorem eMd_least_28 : decode prog_14_method_124_code 28 = .ok (.invokevirtual 303, 3) := by decide +kernel
theorem eMd_least_31 : decode prog_14_method_124_code 31 = .ok (.ifCond .ne 6, 3) := by decide +kernel
theorem eMd_least_34 : decode prog_14_method_124_code 34 = .ok (.bipush (-2), 2) := by decide +kernel
theorem eMd_least_36 : decode prog_14_method_124_code 36 = .ok (.ireturn, 1) := by decide +kernel
theorem eMd_least_37 : decode prog_14_method_124_code 37 = .ok (.aload_n 0, 1) := by decide +kernel
theorem eMd_least_38 : decode prog_14_method_124_code 38 = .ok (.aload_n 0, 1) := by decide +kernel
theorem eMd_least_39 : decode prog_14_method_124_code 39 = .ok (.iload_n 1, 1) := by decide +kernel
theorem eMd_least_40 : decode prog_14_method_124_code 40 = .ok (.invokevirtual 382, 3) := by decide +kernel
theorem eMd_least_43 : decode prog_14_method_124_code 43 = .ok (.invokevirtual 446, 3) := by decide +kernel
theorem eMd_least_46 : decode prog_14_method_124_code 46 = .ok (.aload_n 0, 1) := by decide +kernel
theorem eMd_least_47 : decode prog_14_method_124_code 47 = .ok (.getfield 73, 3) := by decide +kernel
theorem eMd_least_50 : decode prog_14_method_124_code 50 = .ok (.aload_n 0, 1) := by decide +kernel
theorem eMd_least_51 : decode prog_14_method_124_code 51 = .ok (.getfield 83, 3) := by decide +kernel
theorem eMd_least_54 : decode prog_14_method_124_code 54 = .ok (.iconst 0, 1) := by decide +kernel
theorem eMd_least_55 : decode prog_14_method_124_code 55 = .ok (.iaload, 1) := by decide +kernel
theorem eMd_least_56 : decode prog_14_method_124_code 56 = .ok (.saload, 1) := by decide +kernel
theorem eMd_least_57 : decode prog_14_method_124_code 57 = .ok (.sipush 30000, 3) := by decide +kernel
theorem eMd_least_60 : decode prog_14_method_124_code 60 = .ok (.if_icmp .ne 8, 3) := by decide +kernel
theorem eMd_least_63 : decode prog_14_method_124_code 63 = .ok (.bipush (-2), 2) := by decide +kernel
theorem eMd_least_65 : decode prog_14_method_124_code 65 = .ok (.goto 14, 3) := by decide +kernel
theorem eMd_least_68 : decode prog_14_method_124_code 68 = .ok (.aload_n 0, 1) := by decide +kernel
theorem eMd_least_69 : decode prog_14_method_124_code 69 = .ok (.getfield 73, 3) := by decide +kernel
theorem eMd_least_72 : decode prog_14_method_124_code 72 = .ok (.aload_n 0, 1) := by decide +kernel
theorem eMd_least_73 : decode prog_14_method_124_code 73 = .ok (.getfield 83, 3) := by decide +kernel
theorem eMd_least_76 : decode prog_14_method_124_code 76 = .ok (.iconst 0, 1) := by decide +kernel
theorem eMd_least_77 : decode prog_14_method_124_code 77 = .ok (.iaload, 1) := by decide +kernel
theorem eMd_least_78 : decode prog_14_method_124_code 78 = .ok (.saload, 1) := by decide +kernel
theorem eMd_least_79 : decode prog_14_method_124_code 79 = .ok (.ireturn, 1) := by decide +kernel
theorem eMd_ifWind_0 : decode prog_14_method_125_code 0 = .ok (.aload_n 0, 1) := by decide +kernel
theorem eMd_ifWind_1 : decode prog_14_method_125_code 1 = .ok (.iconst 0, 1) := by decide +kernel
theorem eMd_ifWind_2 : decode prog_14_method_125_code 2 = .ok (.putfield 107, 3) := by decide +kernel
theorem eMd_ifWind_5 : decode prog_14_method_125_code 5 = .ok (.aload_n 0, 1) := by decide +kernel
theorem eMd_ifWind_6 : decode prog_14_method_125_code 6 = .ok (.iload_n 1, 1) := by decide +kernel
theorem eMd_ifWind_7 : decode prog_14_method_125_code 7 = .ok (.invokevirtual 379, 3) := by decide +kernel
theorem eMd_ifWind_10 : decode prog_14_method_125_code 10 = .ok (.ifCond .eq 15, 3) := by decide +kernel
theorem eMd_ifWind_13 : decode prog_14_method_125_code 13 = .ok (.iload_n 2, 1) := by decide +kernel
theorem eMd_ifWind_14 : decode prog_14_method_125_code 14 = .ok (.bipush (-8), 2) := by decide +kernel
theorem eMd_ifWind_16 : decode prog_14_method_125_code 16 = .ok (.if_icmp .lt 9, 3) := by decide +kernel
theorem eMd_ifWind_19 : decode prog_14_method_125_code 19 = .ok (.iload_n 2, 1) := by decide +kernel
theorem eMd_ifWind_20 : decode prog_14_method_125_code 20 = .ok (.bipush 8, 2) := by decide +kernel
theorem eMd_ifWind_22 : decode prog_14_method_125_code 22 = .ok (.if_icmp .le 5, 3) := by decide +kernel
theorem eMd_ifWind_25 : decode prog_14_method_125_code 25 = .ok (.iconst (-1), 1) := by decide +kernel
theorem eMd_ifWind_26 : decode prog_14_method_125_code 26 = .ok (.ireturn, 1) := by decide +kernel
theorem eMd_ifWind_27 : decode prog_14_method_125_code 27 = .ok (.aload_n 0, 1) := by decide +kernel
theorem eMd_ifWind_28 : decode prog_14_method_125_code 28 = .ok (.aload_n 0, 1) := by decide +kernel
theorem eMd_ifWind_29 : decode prog_14_method_125_code 29 = .ok (.getfield 83, 3) := by decide +kernel
theorem eMd_ifWind_32 : decode prog_14_method_125_code 32 = .ok (.iconst 0, 1) := by decide +kernel
theorem eMd_ifWind_33 : decode prog_14_method_125_code 33 = .ok (.iaload, 1) := by decide +kernel
theorem eMd_ifWind_34 : decode prog_14_method_125_code 34 = .ok (.iconst 4, 1) := by decide +kernel
theorem eMd_ifWind_35 : decode prog_14_method_125_code 35 = .ok (.iload_n 2, 1) := by decide +kernel
theorem eMd_ifWind_36 : decode prog_14_method_125_code 36 = .ok (.invokevirtual 338, 3) := by decide +kernel
theorem eMd_ifWind_39 : decode prog_14_method_125_code 39 = .ok (.ifCond .ne 6, 3) := by decide +kernel
theorem eMd_ifWind_42 : decode prog_14_method_125_code 42 = .ok (.bipush (-2), 2) := by decide +kernel
theorem eMd_ifWind_44 : decode prog_14_method_125_code 44 = .ok (.ireturn, 1) := by decide +kernel
theorem eMd_ifWind_45 : decode prog_14_method_125_code 45 = .ok (.aload_n 0, 1) := by decide +kernel
theorem eMd_ifWind_46 : decode prog_14_method_125_code 46 = .ok (.invokevirtual 312, 3) := by decide +kernel
theorem eMd_ifWind_49 : decode prog_14_method_125_code 49 = .ok (.istore_n 3, 1) := by decide +kernel
theorem eMd_ifWind_50 : decode prog_14_method_125_code 50 = .ok (.aload_n 0, 1) := by decide +kernel
theorem eMd_ifWind_51 : decode prog_14_method_125_code 51 = .ok (.aload_n 0, 1) := by decide +kernel
theorem eMd_ifWind_52 : decode prog_14_method_125_code 52 = .ok (.iload_n 1, 1) := by decide +kernel
theorem eMd_ifWind_53 : decode prog_14_method_125_code 53 = .ok (.invokevirtual 382, 3) := by decide +kernel
theorem eMd_ifWind_56 : decode prog_14_method_125_code 56 = .ok (.iconst 0, 1) := by decide +kernel
theorem eMd_ifWind_57 : decode prog_14_method_125_code 57 = .ok (.invokevirtual 351, 3) := by decide +kernel
theorem eMd_ifWind_60 : decode prog_14_method_125_code 60 = .ok (.aload_n 0, 1) := by decide +kernel
theorem eMd_ifWind_61 : decode prog_14_method_125_code 61 = .ok (.getfield 73, 3) := by decide +kernel
theorem eMd_ifWind_64 : decode prog_14_method_125_code 64 = .ok (.iload_n 3, 1) := by decide +kernel
theorem eMd_ifWind_65 : decode prog_14_method_125_code 65 = .ok (.saload, 1) := by decide +kernel
theorem eMd_ifWind_66 : decode prog_14_method_125_code 66 = .ok (.sipush 30000, 3) := by decide +kernel
theorem eMd_ifWind_69 : decode prog_14_method_125_code 69 = .ok (.if_icmp .ne 8, 3) := by decide +kernel
theorem eMd_ifWind_72 : decode prog_14_method_125_code 72 = .ok (.bipush (-2), 2) := by decide +kernel
theorem eMd_ifWind_74 : decode prog_14_method_125_code 74 = .ok (.goto 9, 3) := by decide +kernel
theorem eMd_ifWind_77 : decode prog_14_method_125_code 77 = .ok (.aload_n 0, 1) := by decide +kernel
theorem eMd_ifWind_78 : decode prog_14_method_125_code 78 = .ok (.getfield 73, 3) := by decide +kernel
theorem eMd_ifWind_81 : decode prog_14_method_125_code 81 = .ok (.iload_n 3, 1) := by decide +kernel
theorem eMd_ifWind_82 : decode prog_14_method_125_code 82 = .ok (.saload, 1) := by decide +kernel
theorem eMd_ifWind_83 : decode prog_14_method_125_code 83 = .ok (.ireturn, 1) := by decide +kernel
theorem eMd_nearest_0 : decode prog_14_method_126_code 0 = .ok (.aload_n 0, 1) := by decide +kernel
theorem eMd_nearest_1 : decode prog_14_method_126_code 1 = .ok (.iconst 0, 1) := by decide +kernel
theorem eMd_nearest_2 : decode prog_14_method_126_code 2 = .ok (.putfield 107, 3) := by decide +kernel
theorem eMd_nearest_5 : decode prog_14_method_126_code 5 = .ok (.bipush (-2), 2) := by decide +kernel
theorem eMd_nearest_7 : decode prog_14_method_126_code 7 = .ok (.istore_n 1, 1) := by decide +kernel
theorem eMd_nearest_8 : decode prog_14_method_126_code 8 = .ok (.sipush 30000, 3) := by decide +kernel
theorem eMd_nearest_11 : decode prog_14_method_126_code 11 = .ok (.istore_n 2, 1) := by decide +kernel
theorem eMd_nearest_12 : decode prog_14_method_126_code 12 = .ok (.iconst 0, 1) := by decide +kernel
theorem eMd_nearest_13 : decode prog_14_method_126_code 13 = .ok (.istore_n 3, 1) := by decide +kernel
theorem eMd_nearest_14 : decode prog_14_method_126_code 14 = .ok (.iload_n 3, 1) := by decide +kernel
theorem eMd_nearest_15 : decode prog_14_method_126_code 15 = .ok (.aload_n 0, 1) := by decide +kernel
theorem eMd_nearest_16 : decode prog_14_method_126_code 16 = .ok (.getfield 13, 3) := by decide +kernel
theorem eMd_nearest_19 : decode prog_14_method_126_code 19 = .ok (.iconst 4, 1) := by decide +kernel
theorem eMd_nearest_20 : decode prog_14_method_126_code 20 = .ok (.iaload, 1) := by decide +kernel
theorem eMd_nearest_21 : decode prog_14_method_126_code 21 = .ok (.if_icmp .ge 42, 3) := by decide +kernel
theorem eMd_nearest_24 : decode prog_14_method_126_code 24 = .ok (.aload_n 0, 1) := by decide +kernel
theorem eMd_nearest_25 : decode prog_14_method_126_code 25 = .ok (.aload_n 0, 1) := by decide +kernel
theorem eMd_nearest_26 : decode prog_14_method_126_code 26 = .ok (.iload_n 3, 1) := by decide +kernel
theorem eMd_nearest_27 : decode prog_14_method_126_code 27 = .ok (.invokevirtual 382, 3) := by decide +kernel
theorem eMd_nearest_30 : decode prog_14_method_126_code 30 = .ok (.iconst 0, 1) := by decide +kernel
theorem eMd_nearest_31 : decode prog_14_method_126_code 31 = .ok (.invokevirtual 385, 3) := by decide +kernel
theorem eMd_nearest_34 : decode prog_14_method_126_code 34 = .ok (.istore 4, 2) := by decide +kernel
theorem eMd_nearest_36 : decode prog_14_method_126_code 36 = .ok (.iload 4, 2) := by decide +kernel
theorem eMd_nearest_38 : decode prog_14_method_126_code 38 = .ok (.bipush (-2), 2) := by decide +kernel
theorem eMd_nearest_40 : decode prog_14_method_126_code 40 = .ok (.if_icmp .eq 17, 3) := by decide +kernel
theorem eMd_nearest_43 : decode prog_14_method_126_code 43 = .ok (.iload 4, 2) := by decide +kernel
theorem eMd_nearest_45 : decode prog_14_method_126_code 45 = .ok (.iload_n 2, 1) := by decide +kernel
theorem eMd_nearest_46 : decode prog_14_method_126_code 46 = .ok (.if_icmp .lt 6, 3) := by decide +kernel
theorem eMd_nearest_49 : decode prog_14_method_126_code 49 = .ok (.goto 8, 3) := by decide +kernel
theorem eMd_nearest_52 : decode prog_14_method_126_code 52 = .ok (.iload_n 3, 1) := by decide +kernel
theorem eMd_nearest_53 : decode prog_14_method_126_code 53 = .ok (.istore_n 1, 1) := by decide +kernel
theorem eMd_nearest_54 : decode prog_14_method_126_code 54 = .ok (.iload 4, 2) := by decide +kernel
theorem eMd_nearest_56 : decode prog_14_method_126_code 56 = .ok (.istore_n 2, 1) := by decide +kernel
theorem eMd_nearest_57 : decode prog_14_method_126_code 57 = .ok (.iinc 3 1, 3) := by decide +kernel
theorem eMd_nearest_60 : decode prog_14_method_126_code 60 = .ok (.goto (-46), 3) := by decide +kernel
theorem eMd_nearest_63 : decode prog_14_method_126_code 63 = .ok (.iload_n 1, 1) := by decide +kernel
theorem eMd_nearest_64 : decode prog_14_method_126_code 64 = .ok (.ireturn, 1) := by decide +kernel
theorem eMd_isSteady_0 : decode prog_14_method_127_code 0 = .ok (.aload_n 0, 1) := by decide +kernel
theorem eMd_isSteady_1 : decode prog_14_method_127_code 1 = .ok (.invokevirtual 437, 3) := by decide +kernel
theorem eMd_isSteady_4 : decode prog_14_method_127_code 4 = .ok (.aload_n 0, 1) := by decide +kernel
theorem eMd_isSteady_5 : decode prog_14_method_127_code 5 = .ok (.iload_n 2, 1) := by decide +kernel
theorem eMd_isSteady_6 : decode prog_14_method_127_code 6 = .ok (.iconst 0, 1) := by decide +kernel
theorem eMd_isSteady_7 : decode prog_14_method_127_code 7 = .ok (.invokevirtual 306, 3) := by decide +kernel
theorem eMd_isSteady_10 : decode prog_14_method_127_code 10 = .ok (.iconst 0, 1) := by decide +kernel
theorem eMd_isSteady_11 : decode prog_14_method_127_code 11 = .ok (.istore 4, 2) := by decide +kernel
theorem eMd_isSteady_13 : decode prog_14_method_127_code 13 = .ok (.iload 4, 2) := by decide +kernel
theorem eMd_isSteady_15 : decode prog_14_method_127_code 15 = .ok (.aload_n 0, 1) := by decide +kernel
theorem eMd_isSteady_16 : decode prog_14_method_127_code 16 = .ok (.getfield 284, 3) := by decide +kernel
theorem eMd_isSteady_19 : decode prog_14_method_127_code 19 = .ok (.if_icmp .ge 108, 3) := by decide +kernel
theorem eMd_isSteady_22 : decode prog_14_method_127_code 22 = .ok (.aload_n 0, 1) := by decide +kernel
theorem eMd_isSteady_23 : decode prog_14_method_127_code 23 = .ok (.getfield 77, 3) := by decide +kernel
theorem eMd_isSteady_26 : decode prog_14_method_127_code 26 = .ok (.iload 4, 2) := by decide +kernel
theorem eMd_isSteady_28 : decode prog_14_method_127_code 28 = .ok (.iaload, 1) := by decide +kernel
theorem eMd_isSteady_29 : decode prog_14_method_127_code 29 = .ok (.iload_n 1, 1) := by decide +kernel
theorem eMd_isSteady_30 : decode prog_14_method_127_code 30 = .ok (.if_icmp .ne 5, 3) := by decide +kernel
theorem eMd_isSteady_33 : decode prog_14_method_127_code 33 = .ok (.iconst 1, 1) := by decide +kernel
theorem eMd_isSteady_34 : decode prog_14_method_127_code 34 = .ok (.ireturn, 1) := by decide +kernel
theorem eMd_isSteady_35 : decode prog_14_method_127_code 35 = .ok (.iconst 0, 1) := by decide +kernel
theorem eMd_isSteady_36 : decode prog_14_method_127_code 36 = .ok (.istore 5, 2) := by decide +kernel
theorem eMd_isSteady_38 : decode prog_14_method_127_code 38 = .ok (.iload 5, 2) := by decide +kernel
theorem eMd_isSteady_40 : decode prog_14_method_127_code 40 = .ok (.bipush 9, 2) := by decide +kernel
theorem eMd_isSteady_42 : decode prog_14_method_127_code 42 = .ok (.if_icmp .ge 79, 3) := by decide +kernel
theorem eMd_isSteady_45 : decode prog_14_method_127_code 45 = .ok (.aload_n 0, 1) := by decide +kernel
theorem eMd_isSteady_46 : decode prog_14_method_127_code 46 = .ok (.aload_n 0, 1) := by decide +kernel
theorem eMd_isSteady_47 : decode prog_14_method_127_code 47 = .ok (.getfield 77, 3) := by decide +kernel
theorem eMd_isSteady_50 : decode prog_14_method_127_code 50 = .ok (.iload 4, 2) := by decide +kernel
theorem eMd_isSteady_52 : decode prog_14_method_127_code 52 = .ok (.iaload, 1) := by decide +kernel
theorem eMd_isSteady_53 : decode prog_14_method_127_code 53 = .ok (.invokevirtual 287, 3) := by decide +kernel
theorem eMd_isSteady_56 : decode prog_14_method_127_code 56 = .ok (.aload_n 0, 1) := by decide +kernel
theorem eMd_isSteady_57 : decode prog_14_method_127_code 57 = .ok (.iload 5, 2) := by decide +kernel
theorem eMd_isSteady_59 : decode prog_14_method_127_code 59 = .ok (.invokevirtual 309, 3) := by decide +kernel
theorem eMd_isSteady_62 : decode prog_14_method_127_code 62 = .ok (.aload_n 0, 1) := by decide +kernel
theorem eMd_isSteady_63 : decode prog_14_method_127_code 63 = .ok (.invokevirtual 290, 3) := by decide +kernel
theorem eMd_isSteady_66 : decode prog_14_method_127_code 66 = .ok (.ifCond .ne 6, 3) := by decide +kernel
theorem eMd_isSteady_69 : decode prog_14_method_127_code 69 = .ok (.goto 46, 3) := by decide +kernel
theorem eMd_isSteady_72 : decode prog_14_method_127_code 72 = .ok (.aload_n 0, 1) := by decide +kernel
theorem eMd_isSteady_73 : decode prog_14_method_127_code 73 = .ok (.invokevirtual 312, 3) := by decide +kernel
theorem eMd_isSteady_76 : decode prog_14_method_127_code 76 = .ok (.iload_n 1, 1) := by decide +kernel
theorem eMd_isSteady_77 : decode prog_14_method_127_code 77 = .ok (.if_icmp .ne 5, 3) := by decide +kernel
theorem eMd_isSteady_80 : decode prog_14_method_127_code 80 = .ok (.iconst 1, 1) := by decide +kernel
theorem eMd_isSteady_81 : decode prog_14_method_127_code 81 = .ok (.ireturn, 1) := by decide +kernel
theorem eMd_isSteady_82 : decode prog_14_method_127_code 82 = .ok (.aload_n 0, 1) := by decide +kernel
theorem eMd_isSteady_83 : decode prog_14_method_127_code 83 = .ok (.getfield 252, 3) := by decide +kernel
theorem eMd_isSteady_86 : decode prog_14_method_127_code 86 = .ok (.invokestatic 261, 3) := by decide +kernel
theorem eMd_isSteady_89 : decode prog_14_method_127_code 89 = .ok (.iload_n 3, 1) := by decide +kernel
theorem eMd_isSteady_90 : decode prog_14_method_127_code 90 = .ok (.if_icmp .gt 25, 3) := by decide +kernel
theorem eMd_isSteady_93 : decode prog_14_method_127_code 93 = .ok (.aload_n 0, 1) := by decide +kernel
theorem eMd_isSteady_94 : decode prog_14_method_127_code 94 = .ok (.aload_n 0, 1) := by decide +kernel
theorem eMd_isSteady_95 : decode prog_14_method_127_code 95 = .ok (.invokevirtual 312, 3) := by decide +kernel
theorem eMd_isSteady_98 : decode prog_14_method_127_code 98 = .ok (.aload_n 0, 1) := by decide +kernel
theorem eMd_isSteady_99 : decode prog_14_method_127_code 99 = .ok (.getfield 73, 3) := by decide +kernel
theorem eMd_isSteady_102 : decode prog_14_method_127_code 102 = .ok (.aload_n 0, 1) := by decide +kernel
theorem eMd_isSteady_103 : decode prog_14_method_127_code 103 = .ok (.getfield 77, 3) := by decide +kernel
theorem eMd_isSteady_106 : decode prog_14_method_127_code 106 = .ok (.iload 4, 2) := by decide +kernel
theorem eMd_isSteady_108 : decode prog_14_method_127_code 108 = .ok (.iaload, 1) := by decide +kernel
theorem eMd_isSteady_109 : decode prog_14_method_127_code 109 = .ok (.saload, 1) := by decide +kernel
theorem eMd_isSteady_110 : decode prog_14_method_127_code 110 = .ok (.iconst 1, 1) := by decide +kernel
theorem eMd_isSteady_111 : decode prog_14_method_127_code 111 = .ok (.iadd, 1) := by decide +kernel
theorem eMd_isSteady_112 : decode prog_14_method_127_code 112 = .ok (.invokevirtual 306, 3) := by decide +kernel
theorem eMd_isSteady_115 : decode prog_14_method_127_code 115 = .ok (.iinc 5 1, 3) := by decide +kernel
theorem eMd_isSteady_118 : decode prog_14_method_127_code 118 = .ok (.goto (-80), 3) := by decide +kernel
theorem eMd_isSteady_121 : decode prog_14_method_127_code 121 = .ok (.iinc 4 1, 3) := by decide +kernel
theorem eMd_isSteady_124 : decode prog_14_method_127_code 124 = .ok (.goto (-111), 3) := by decide +kernel
theorem eMd_isSteady_127 : decode prog_14_method_127_code 127 = .ok (.iconst 0, 1) := by decide +kernel
theorem eMd_isSteady_128 : decode prog_14_method_127_code 128 = .ok (.ireturn, 1) := by decide +kernel
theorem eMd_steadiest_0 : decode prog_14_method_128_code 0 = .ok (.aload_n 0, 1) := by decide +kernel
theorem eMd_steadiest_1 : decode prog_14_method_128_code 1 = .ok (.iconst 0, 1) := by decide +kernel
theorem eMd_steadiest_2 : decode prog_14_method_128_code 2 = .ok (.putfield 107, 3) := by decide +kernel
theorem eMd_steadiest_5 : decode prog_14_method_128_code 5 = .ok (.aload_n 0, 1) := by decide +kernel
theorem eMd_steadiest_6 : decode prog_14_method_128_code 6 = .ok (.iload_n 1, 1) := by decide +kernel
theorem eMd_steadiest_7 : decode prog_14_method_128_code 7 = .ok (.invokevirtual 379, 3) := by decide +kernel
theorem eMd_steadiest_10 : decode prog_14_method_128_code 10 = .ok (.ifCond .ne 5, 3) := by decide +kernel
theorem eMd_steadiest_13 : decode prog_14_method_128_code 13 = .ok (.iconst (-1), 1) := by decide +kernel
theorem eMd_steadiest_14 : decode prog_14_method_128_code 14 = .ok (.ireturn, 1) := by decide +kernel
theorem eMd_steadiest_15 : decode prog_14_method_128_code 15 = .ok (.aload_n 0, 1) := by decide +kernel
theorem eMd_steadiest_16 : decode prog_14_method_128_code 16 = .ok (.invokevirtual 364, 3) := by decide +kernel
theorem eMd_steadiest_19 : decode prog_14_method_128_code 19 = .ok (.ifCond .ne 15, 3) := by decide +kernel
theorem eMd_steadiest_22 : decode prog_14_method_128_code 22 = .ok (.aload_n 0, 1) := by decide +kernel
theorem eMd_steadiest_23 : decode prog_14_method_128_code 23 = .ok (.aload_n 0, 1) := by decide +kernel
theorem eMd_steadiest_24 : decode prog_14_method_128_code 24 = .ok (.iload_n 1, 1) := by decide +kernel
theorem eMd_steadiest_25 : decode prog_14_method_128_code 25 = .ok (.invokevirtual 382, 3) := by decide +kernel
theorem eMd_steadiest_28 : decode prog_14_method_128_code 28 = .ok (.invokevirtual 303, 3) := by decide +kernel
theorem eMd_steadiest_31 : decode prog_14_method_128_code 31 = .ok (.ifCond .ne 6, 3) := by decide +kernel
theorem eMd_steadiest_34 : decode prog_14_method_128_code 34 = .ok (.bipush (-2), 2) := by decide +kernel
theorem eMd_steadiest_36 : decode prog_14_method_128_code 36 = .ok (.ireturn, 1) := by decide +kernel
theorem eMd_steadiest_37 : decode prog_14_method_128_code 37 = .ok (.iconst 0, 1) := by decide +kernel
theorem eMd_steadiest_38 : decode prog_14_method_128_code 38 = .ok (.istore_n 2, 1) := by decide +kernel
theorem eMd_steadiest_39 : decode prog_14_method_128_code 39 = .ok (.iload_n 2, 1) := by decide +kernel
theorem eMd_steadiest_40 : decode prog_14_method_128_code 40 = .ok (.aload_n 0, 1) := by decide +kernel
theorem eMd_steadiest_41 : decode prog_14_method_128_code 41 = .ok (.getfield 13, 3) := by decide +kernel
theorem eMd_steadiest_44 : decode prog_14_method_128_code 44 = .ok (.iconst 3, 1) := by decide +kernel
theorem eMd_steadiest_45 : decode prog_14_method_128_code 45 = .ok (.iaload, 1) := by decide +kernel
theorem eMd_steadiest_46 : decode prog_14_method_128_code 46 = .ok (.if_icmp .gt 30, 3) := by decide +kernel
theorem eMd_steadiest_49 : decode prog_14_method_128_code 49 = .ok (.aload_n 0, 1) := by decide +kernel
theorem eMd_steadiest_50 : decode prog_14_method_128_code 50 = .ok (.aload_n 0, 1) := by decide +kernel
theorem eMd_steadiest_51 : decode prog_14_method_128_code 51 = .ok (.getfield 83, 3) := by decide +kernel
theorem eMd_steadiest_54 : decode prog_14_method_128_code 54 = .ok (.iconst 0, 1) := by decide +kernel
theorem eMd_steadiest_55 : decode prog_14_method_128_code 55 = .ok (.iaload, 1) := by decide +kernel
theorem eMd_steadiest_56 : decode prog_14_method_128_code 56 = .ok (.aload_n 0, 1) := by decide +kernel
theorem eMd_steadiest_57 : decode prog_14_method_128_code 57 = .ok (.iload_n 1, 1) := by decide +kernel
theorem eMd_steadiest_58 : decode prog_14_method_128_code 58 = .ok (.invokevirtual 382, 3) := by decide +kernel
theorem eMd_steadiest_61 : decode prog_14_method_128_code 61 = .ok (.iload_n 2, 1) := by decide +kernel
theorem eMd_steadiest_62 : decode prog_14_method_128_code 62 = .ok (.invokevirtual 449, 3) := by decide +kernel
theorem eMd_steadiest_65 : decode prog_14_method_128_code 65 = .ok (.ifCond .eq 5, 3) := by decide +kernel
theorem eMd_steadiest_68 : decode prog_14_method_128_code 68 = .ok (.iload_n 2, 1) := by decide +kernel
theorem eMd_steadiest_69 : decode prog_14_method_128_code 69 = .ok (.ireturn, 1) := by decide +kernel
theorem eMd_steadiest_70 : decode prog_14_method_128_code 70 = .ok (.iinc 2 1, 3) := by decide +kernel
theorem eMd_steadiest_73 : decode prog_14_method_128_code 73 = .ok (.goto (-34), 3) := by decide +kernel
theorem eMd_steadiest_76 : decode prog_14_method_128_code 76 = .ok (.bipush (-2), 2) := by decide +kernel
theorem eMd_steadiest_78 : decode prog_14_method_128_code 78 = .ok (.ireturn, 1) := by decide +kernel
theorem eMd_greater_0 : decode prog_14_method_129_code 0 = .ok (.iload_n 1, 1) := by decide +kernel
theorem eMd_greater_1 : decode prog_14_method_129_code 1 = .ok (.iload_n 2, 1) := by decide +kernel
theorem eMd_greater_2 : decode prog_14_method_129_code 2 = .ok (.if_icmp .le 7, 3) := by decide +kernel
theorem eMd_greater_5 : decode prog_14_method_129_code 5 = .ok (.iload_n 1, 1) := by decide +kernel
theorem eMd_greater_6 : decode prog_14_method_129_code 6 = .ok (.goto 4, 3) := by decide +kernel
theorem eMd_greater_9 : decode prog_14_method_129_code 9 = .ok (.iload_n 2, 1) := by decide +kernel
theorem eMd_greater_10 : decode prog_14_method_129_code 10 = .ok (.ireturn, 1) := by decide +kernel
theorem eMd_along_0 : decode prog_14_method_130_code 0 = .ok (.aload_n 0, 1) := by decide +kernel
theorem eMd_along_1 : decode prog_14_method_130_code 1 = .ok (.iconst 0, 1) := by decide +kernel
theorem eMd_along_2 : decode prog_14_method_130_code 2 = .ok (.putfield 107, 3) := by decide +kernel
theorem eMd_along_5 : decode prog_14_method_130_code 5 = .ok (.aload_n 0, 1) := by decide +kernel
theorem eMd_along_6 : decode prog_14_method_130_code 6 = .ok (.iload_n 1, 1) := by decide +kernel
theorem eMd_along_7 : decode prog_14_method_130_code 7 = .ok (.invokevirtual 379, 3) := by decide +kernel
theorem eMd_along_10 : decode prog_14_method_130_code 10 = .ok (.ifCond .eq 12, 3) := by decide +kernel
theorem eMd_along_13 : decode prog_14_method_130_code 13 = .ok (.iload_n 2, 1) := by decide +kernel
theorem eMd_along_14 : decode prog_14_method_130_code 14 = .ok (.ifCond .lt 8, 3) := by decide +kernel
theorem eMd_along_17 : decode prog_14_method_130_code 17 = .ok (.iload_n 2, 1) := by decide +kernel
theorem eMd_along_18 : decode prog_14_method_130_code 18 = .ok (.iconst 4, 1) := by decide +kernel
theorem eMd_along_19 : decode prog_14_method_130_code 19 = .ok (.if_icmp .le 6, 3) := by decide +kernel
theorem eMd_along_22 : decode prog_14_method_130_code 22 = .ok (.bipush (-99), 2) := by decide +kernel
theorem eMd_along_24 : decode prog_14_method_130_code 24 = .ok (.ireturn, 1) := by decide +kernel
theorem eMd_along_25 : decode prog_14_method_130_code 25 = .ok (.aload_n 0, 1) := by decide +kernel
theorem eMd_along_26 : decode prog_14_method_130_code 26 = .ok (.aload_n 0, 1) := by decide +kernel
theorem eMd_along_27 : decode prog_14_method_130_code 27 = .ok (.iload_n 1, 1) := by decide +kernel
theorem eMd_along_28 : decode prog_14_method_130_code 28 = .ok (.invokevirtual 382, 3) := by decide +kernel
theorem eMd_along_31 : decode prog_14_method_130_code 31 = .ok (.iconst 0, 1) := by decide +kernel
theorem eMd_along_32 : decode prog_14_method_130_code 32 = .ok (.invokevirtual 385, 3) := by decide +kernel
theorem eMd_along_35 : decode prog_14_method_130_code 35 = .ok (.istore_n 3, 1) := by decide +kernel
theorem eMd_along_36 : decode prog_14_method_130_code 36 = .ok (.iload_n 3, 1) := by decide +kernel
theorem eMd_along_37 : decode prog_14_method_130_code 37 = .ok (.bipush (-2), 2) := by decide +kernel
theorem eMd_along_39 : decode prog_14_method_130_code 39 = .ok (.if_icmp .ne 6, 3) := by decide +kernel
theorem eMd_along_42 : decode prog_14_method_130_code 42 = .ok (.bipush (-2), 2) := by decide +kernel
theorem eMd_along_44 : decode prog_14_method_130_code 44 = .ok (.ireturn, 1) := by decide +kernel
theorem eMd_along_45 : decode prog_14_method_130_code 45 = .ok (.aload_n 0, 1) := by decide +kernel
theorem eMd_along_46 : decode prog_14_method_130_code 46 = .ok (.getfield 83, 3) := by decide +kernel
theorem eMd_along_49 : decode prog_14_method_130_code 49 = .ok (.iconst 0, 1) := by decide +kernel
theorem eMd_along_50 : decode prog_14_method_130_code 50 = .ok (.iaload, 1) := by decide +kernel
theorem eMd_along_51 : decode prog_14_method_130_code 51 = .ok (.istore 4, 2) := by decide +kernel
theorem eMd_along_53 : decode prog_14_method_130_code 53 = .ok (.iconst 0, 1) := by decide +kernel
theorem eMd_along_54 : decode prog_14_method_130_code 54 = .ok (.istore 5, 2) := by decide +kernel
theorem eMd_along_56 : decode prog_14_method_130_code 56 = .ok (.iconst 0, 1) := by decide +kernel
theorem eMd_along_57 : decode prog_14_method_130_code 57 = .ok (.istore 6, 2) := by decide +kernel
theorem eMd_along_59 : decode prog_14_method_130_code 59 = .ok (.iconst 0, 1) := by decide +kernel
theorem eMd_along_60 : decode prog_14_method_130_code 60 = .ok (.istore 7, 2) := by decide +kernel
theorem eMd_along_62 : decode prog_14_method_130_code 62 = .ok (.iconst 0, 1) := by decide +kernel
theorem eMd_along_63 : decode prog_14_method_130_code 63 = .ok (.istore 8, 2) := by decide +kernel
theorem eMd_along_65 : decode prog_14_method_130_code 65 = .ok (.sipush 30000, 3) := by decide +kernel
theorem eMd_along_68 : decode prog_14_method_130_code 68 = .ok (.istore 9, 2) := by decide +kernel
theorem eMd_along_70 : decode prog_14_method_130_code 70 = .ok (.iconst 0, 1) := by decide +kernel
theorem eMd_along_71 : decode prog_14_method_130_code 71 = .ok (.istore 10, 2) := by decide +kernel
theorem eMd_along_73 : decode prog_14_method_130_code 73 = .ok (.iload 10, 2) := by decide +kernel
theorem eMd_along_75 : decode prog_14_method_130_code 75 = .ok (.iload_n 3, 1) := by decide +kernel
theorem eMd_along_76 : decode prog_14_method_130_code 76 = .ok (.if_icmp .gt 154, 3) := by decide +kernel
theorem eMd_along_79 : decode prog_14_method_130_code 79 = .ok (.aload_n 0, 1) := by decide +kernel
theorem eMd_along_80 : decode prog_14_method_130_code 80 = .ok (.iload 4, 2) := by decide +kernel
theorem eMd_along_82 : decode prog_14_method_130_code 82 = .ok (.invokevirtual 287, 3) := by decide +kernel
theorem eMd_along_85 : decode prog_14_method_130_code 85 = .ok (.iload 10, 2) := by decide +kernel
theorem eMd_along_87 : decode prog_14_method_130_code 87 = .ok (.ifCond .gt 7, 3) := by decide +kernel
theorem eMd_along_90 : decode prog_14_method_130_code 90 = .ok (.iload_n 3, 1) := by decide +kernel
theorem eMd_along_91 : decode prog_14_method_130_code 91 = .ok (.ifCond .ne 70, 3) := by decide +kernel
theorem eMd_along_94 : decode prog_14_method_130_code 94 = .ok (.aload_n 0, 1) := by decide +kernel
theorem eMd_along_95 : decode prog_14_method_130_code 95 = .ok (.iload 5, 2) := by decide +kernel
theorem eMd_along_97 : decode prog_14_method_130_code 97 = .ok (.aload_n 0, 1) := by decide +kernel
theorem eMd_along_98 : decode prog_14_method_130_code 98 = .ok (.getfield 252, 3) := by decide +kernel
theorem eMd_along_101 : decode prog_14_method_130_code 101 = .ok (.invokestatic 261, 3) := by decide +kernel
theorem eMd_along_104 : decode prog_14_method_130_code 104 = .ok (.invokevirtual 443, 3) := by decide +kernel
theorem eMd_along_107 : decode prog_14_method_130_code 107 = .ok (.istore 5, 2) := by decide +kernel
theorem eMd_along_109 : decode prog_14_method_130_code 109 = .ok (.aload_n 0, 1) := by decide +kernel
theorem eMd_along_110 : decode prog_14_method_130_code 110 = .ok (.iload 6, 2) := by decide +kernel
theorem eMd_along_112 : decode prog_14_method_130_code 112 = .ok (.aload_n 0, 1) := by decide +kernel
theorem eMd_along_113 : decode prog_14_method_130_code 113 = .ok (.getfield 255, 3) := by decide +kernel
theorem eMd_along_116 : decode prog_14_method_130_code 116 = .ok (.invokestatic 261, 3) := by decide +kernel
theorem eMd_along_119 : decode prog_14_method_130_code 119 = .ok (.invokevirtual 443, 3) := by decide +kernel
theorem eMd_along_122 : decode prog_14_method_130_code 122 = .ok (.istore 6, 2) := by decide +kernel
theorem eMd_along_124 : decode prog_14_method_130_code 124 = .ok (.aload_n 0, 1) := by decide +kernel
theorem eMd_along_125 : decode prog_14_method_130_code 125 = .ok (.getfield 69, 3) := by decide +kernel
theorem eMd_along_128 : decode prog_14_method_130_code 128 = .ok (.aload_n 0, 1) := by decide +kernel
theorem eMd_along_129 : decode prog_14_method_130_code 129 = .ok (.getfield 258, 3) := by decide +kernel
theorem eMd_along_132 : decode prog_14_method_130_code 132 = .ok (.aload_n 0, 1) := by decide +kernel
theorem eMd_along_133 : decode prog_14_method_130_code 133 = .ok (.getfield 252, 3) := by decide +kernel
theorem eMd_along_136 : decode prog_14_method_130_code 136 = .ok (.iadd, 1) := by decide +kernel
theorem eMd_along_137 : decode prog_14_method_130_code 137 = .ok (.iaload, 1) := by decide +kernel
theorem eMd_along_138 : decode prog_14_method_130_code 138 = .ok (.aload_n 0, 1) := by decide +kernel
theorem eMd_along_139 : decode prog_14_method_130_code 139 = .ok (.getfield 246, 3) := by decide +kernel
theorem eMd_along_142 : decode prog_14_method_130_code 142 = .ok (.isub, 1) := by decide +kernel
theorem eMd_along_143 : decode prog_14_method_130_code 143 = .ok (.istore 11, 2) := by decide +kernel
theorem eMd_along_145 : decode prog_14_method_130_code 145 = .ok (.iload 11, 2) := by decide +kernel
theorem eMd_along_147 : decode prog_14_method_130_code 147 = .ok (.iload 9, 2) := by decide +kernel
theorem eMd_along_149 : decode prog_14_method_130_code 149 = .ok (.if_icmp .ge 8, 3) := by decide +kernel
theorem eMd_along_152 : decode prog_14_method_130_code 152 = .ok (.iload 11, 2) := by decide +kernel
theorem eMd_along_154 : decode prog_14_method_130_code 154 = .ok (.goto 5, 3) := by decide +kernel
theorem eMd_along_157 : decode prog_14_method_130_code 157 = .ok (.iload 9, 2) := by decide +kernel
theorem eMd_along_159 : decode prog_14_method_130_code 159 = .ok (.istore 9, 2) := by decide +kernel
theorem eMd_along_161 : decode prog_14_method_130_code 161 = .ok (.iload 10, 2) := by decide +kernel
theorem eMd_along_163 : decode prog_14_method_130_code 163 = .ok (.iload_n 3, 1) := by decide +kernel
theorem eMd_along_164 : decode prog_14_method_130_code 164 = .ok (.if_icmp .ne 6, 3) := by decide +kernel
theorem eMd_along_167 : decode prog_14_method_130_code 167 = .ok (.goto 57, 3) := by decide +kernel
theorem eMd_along_170 : decode prog_14_method_130_code 170 = .ok (.aload_n 0, 1) := by decide +kernel
theorem eMd_along_171 : decode prog_14_method_130_code 171 = .ok (.iload 4, 2) := by decide +kernel
theorem eMd_along_173 : decode prog_14_method_130_code 173 = .ok (.invokevirtual 355, 3) := by decide +kernel
theorem eMd_along_176 : decode prog_14_method_130_code 176 = .ok (.istore 11, 2) := by decide +kernel
theorem eMd_along_178 : decode prog_14_method_130_code 178 = .ok (.iload 7, 2) := by decide +kernel
theorem eMd_along_180 : decode prog_14_method_130_code 180 = .ok (.iload 11, 2) := by decide +kernel
theorem eMd_along_182 : decode prog_14_method_130_code 182 = .ok (.iconst 3, 1) := by decide +kernel
theorem eMd_along_183 : decode prog_14_method_130_code 183 = .ok (.idiv, 1) := by decide +kernel
theorem eMd_along_184 : decode prog_14_method_130_code 184 = .ok (.iconst 1, 1) := by decide +kernel
theorem eMd_along_185 : decode prog_14_method_130_code 185 = .ok (.if_icmp .ne 7, 3) := by decide +kernel
theorem eMd_along_188 : decode prog_14_method_130_code 188 = .ok (.iconst 0, 1) := by decide +kernel
theorem eMd_along_189 : decode prog_14_method_130_code 189 = .ok (.goto 4, 3) := by decide +kernel
theorem eMd_along_192 : decode prog_14_method_130_code 192 = .ok (.iconst 1, 1) := by decide +kernel
theorem eMd_along_193 : decode prog_14_method_130_code 193 = .ok (.iadd, 1) := by decide +kernel
theorem eMd_along_194 : decode prog_14_method_130_code 194 = .ok (.istore 7, 2) := by decide +kernel
theorem eMd_along_196 : decode prog_14_method_130_code 196 = .ok (.iload 8, 2) := by decide +kernel
theorem eMd_along_198 : decode prog_14_method_130_code 198 = .ok (.iload 11, 2) := by decide +kernel
theorem eMd_along_200 : decode prog_14_method_130_code 200 = .ok (.iconst 3, 1) := by decide +kernel
theorem eMd_along_201 : decode prog_14_method_130_code 201 = .ok (.irem, 1) := by decide +kernel
theorem eMd_along_202 : decode prog_14_method_130_code 202 = .ok (.iconst 1, 1) := by decide +kernel
theorem eMd_along_203 : decode prog_14_method_130_code 203 = .ok (.if_icmp .ne 7, 3) := by decide +kernel
theorem eMd_along_206 : decode prog_14_method_130_code 206 = .ok (.iconst 0, 1) := by decide +kernel
theorem eMd_along_207 : decode prog_14_method_130_code 207 = .ok (.goto 4, 3) := by decide +kernel
theorem eMd_along_210 : decode prog_14_method_130_code 210 = .ok (.iconst 1, 1) := by decide +kernel
theorem eMd_along_211 : decode prog_14_method_130_code 211 = .ok (.iadd, 1) := by decide +kernel
theorem eMd_along_212 : decode prog_14_method_130_code 212 = .ok (.istore 8, 2) := by decide +kernel
theorem eMd_along_214 : decode prog_14_method_130_code 214 = .ok (.aload_n 0, 1) := by decide +kernel
theorem eMd_along_215 : decode prog_14_method_130_code 215 = .ok (.iload 4, 2) := by decide +kernel
theorem eMd_along_217 : decode prog_14_method_130_code 217 = .ok (.iload 11, 2) := by decide +kernel
theorem eMd_along_219 : decode prog_14_method_130_code 219 = .ok (.invokevirtual 389, 3) := by decide +kernel
theorem eMd_along_222 : decode prog_14_method_130_code 222 = .ok (.istore 4, 2) := by decide +kernel
theorem eMd_along_224 : decode prog_14_method_130_code 224 = .ok (.iinc 10 1, 3) := by decide +kernel
theorem eMd_along_227 : decode prog_14_method_130_code 227 = .ok (.goto (-154), 3) := by decide +kernel
theorem eMd_along_230 : decode prog_14_method_130_code 230 = .ok (.iload_n 2, 1) := by decide +kernel
theorem eMd_along_231 : decode prog_14_method_130_code 231 = .ok (.ifCond .ne 8, 3) := by decide +kernel
theorem eMd_along_234 : decode prog_14_method_130_code 234 = .ok (.iload 5, 2) := by decide +kernel
theorem eMd_along_236 : decode prog_14_method_130_code 236 = .ok (.goto 35, 3) := by decide +kernel
theorem eMd_along_239 : decode prog_14_method_130_code 239 = .ok (.iload_n 2, 1) := by decide +kernel
theorem eMd_along_240 : decode prog_14_method_130_code 240 = .ok (.iconst 1, 1) := by decide +kernel
theorem eMd_along_241 : decode prog_14_method_130_code 241 = .ok (.if_icmp .ne 8, 3) := by decide +kernel
theorem eMd_along_244 : decode prog_14_method_130_code 244 = .ok (.iload 6, 2) := by decide +kernel
theorem eMd_along_246 : decode prog_14_method_130_code 246 = .ok (.goto 25, 3) := by decide +kernel
theorem eMd_along_249 : decode prog_14_method_130_code 249 = .ok (.iload_n 2, 1) := by decide +kernel
theorem eMd_along_250 : decode prog_14_method_130_code 250 = .ok (.iconst 2, 1) := by decide +kernel
theorem eMd_along_251 : decode prog_14_method_130_code 251 = .ok (.if_icmp .ne 8, 3) := by decide +kernel
theorem eMd_along_254 : decode prog_14_method_130_code 254 = .ok (.iload 7, 2) := by decide +kernel
theorem eMd_along_256 : decode prog_14_method_130_code 256 = .ok (.goto 15, 3) := by decide +kernel
theorem eMd_along_259 : decode prog_14_method_130_code 259 = .ok (.iload_n 2, 1) := by decide +kernel
theorem eMd_along_260 : decode prog_14_method_130_code 260 = .ok (.iconst 3, 1) := by decide +kernel
theorem eMd_along_261 : decode prog_14_method_130_code 261 = .ok (.if_icmp .ne 8, 3) := by decide +kernel
theorem eMd_along_264 : decode prog_14_method_130_code 264 = .ok (.iload 8, 2) := by decide +kernel
theorem eMd_along_266 : decode prog_14_method_130_code 266 = .ok (.goto 5, 3) := by decide +kernel
theorem eMd_along_269 : decode prog_14_method_130_code 269 = .ok (.iload 9, 2) := by decide +kernel
theorem eMd_along_271 : decode prog_14_method_130_code 271 = .ok (.ireturn, 1) := by decide +kernel
theorem eMd_log_0 : decode prog_14_method_131_code 0 = .ok (.aload_n 0, 1) := by decide +kernel
theorem eMd_log_1 : decode prog_14_method_131_code 1 = .ok (.iconst 0, 1) := by decide +kernel
theorem eMd_log_2 : decode prog_14_method_131_code 2 = .ok (.putfield 107, 3) := by decide +kernel
theorem eMd_log_5 : decode prog_14_method_131_code 5 = .ok (.iload_n 1, 1) := by decide +kernel
theorem eMd_log_6 : decode prog_14_method_131_code 6 = .ok (.ifCond .lt 23, 3) := by decide +kernel
theorem eMd_log_9 : decode prog_14_method_131_code 9 = .ok (.iload_n 1, 1) := by decide +kernel
theorem eMd_log_10 : decode prog_14_method_131_code 10 = .ok (.aload_n 0, 1) := by decide +kernel
theorem eMd_log_11 : decode prog_14_method_131_code 11 = .ok (.getfield 83, 3) := by decide +kernel
theorem eMd_log_14 : decode prog_14_method_131_code 14 = .ok (.bipush 6, 2) := by decide +kernel
theorem eMd_log_16 : decode prog_14_method_131_code 16 = .ok (.iaload, 1) := by decide +kernel
theorem eMd_log_17 : decode prog_14_method_131_code 17 = .ok (.if_icmp .ge 12, 3) := by decide +kernel
theorem eMd_log_20 : decode prog_14_method_131_code 20 = .ok (.iload_n 2, 1) := by decide +kernel
theorem eMd_log_21 : decode prog_14_method_131_code 21 = .ok (.ifCond .lt 8, 3) := by decide +kernel
theorem eMd_log_24 : decode prog_14_method_131_code 24 = .ok (.iload_n 2, 1) := by decide +kernel
theorem eMd_log_25 : decode prog_14_method_131_code 25 = .ok (.iconst 2, 1) := by decide +kernel
theorem eMd_log_26 : decode prog_14_method_131_code 26 = .ok (.if_icmp .le 5, 3) := by decide +kernel
theorem eMd_log_29 : decode prog_14_method_131_code 29 = .ok (.iconst (-1), 1) := by decide +kernel
theorem eMd_log_30 : decode prog_14_method_131_code 30 = .ok (.ireturn, 1) := by decide +kernel
theorem eMd_log_31 : decode prog_14_method_131_code 31 = .ok (.aload_n 0, 1) := by decide +kernel
theorem eMd_log_32 : decode prog_14_method_131_code 32 = .ok (.getfield 83, 3) := by decide +kernel
theorem eMd_log_35 : decode prog_14_method_131_code 35 = .ok (.iload_n 2, 1) := by decide +kernel
theorem eMd_log_36 : decode prog_14_method_131_code 36 = .ok (.ifCond .ne 10, 3) := by decide +kernel
theorem eMd_log_39 : decode prog_14_method_131_code 39 = .ok (.bipush 23, 2) := by decide +kernel
theorem eMd_log_41 : decode prog_14_method_131_code 41 = .ok (.iload_n 1, 1) := by decide +kernel
theorem eMd_log_42 : decode prog_14_method_131_code 42 = .ok (.iadd, 1) := by decide +kernel
theorem eMd_log_43 : decode prog_14_method_131_code 43 = .ok (.goto 19, 3) := by decide +kernel
theorem eMd_log_46 : decode prog_14_method_131_code 46 = .ok (.iload_n 2, 1) := by decide +kernel
theorem eMd_log_47 : decode prog_14_method_131_code 47 = .ok (.iconst 1, 1) := by decide +kernel
theorem eMd_log_48 : decode prog_14_method_131_code 48 = .ok (.if_icmp .ne 10, 3) := by decide +kernel
theorem eMd_log_51 : decode prog_14_method_131_code 51 = .ok (.bipush 63, 2) := by decide +kernel
theorem eMd_log_53 : decode prog_14_method_131_code 53 = .ok (.iload_n 1, 1) := by decide +kernel
theorem eMd_log_54 : decode prog_14_method_131_code 54 = .ok (.iadd, 1) := by decide +kernel
theorem eMd_log_55 : decode prog_14_method_131_code 55 = .ok (.goto 7, 3) := by decide +kernel
theorem eMd_log_58 : decode prog_14_method_131_code 58 = .ok (.bipush 103, 2) := by decide +kernel
theorem eMd_log_60 : decode prog_14_method_131_code 60 = .ok (.iload_n 1, 1) := by decide +kernel
theorem eMd_log_61 : decode prog_14_method_131_code 61 = .ok (.iadd, 1) := by decide +kernel
theorem eMd_log_62 : decode prog_14_method_131_code 62 = .ok (.iaload, 1) := by decide +kernel
theorem eMd_log_63 : decode prog_14_method_131_code 63 = .ok (.ireturn, 1) := by decide +kernel
theorem eMd_again_0 : decode prog_14_method_132_code 0 = .ok (.aload_n 0, 1) := by decide +kernel
theorem eMd_again_1 : decode prog_14_method_132_code 1 = .ok (.iconst 0, 1) := by decide +kernel
theorem eMd_again_2 : decode prog_14_method_132_code 2 = .ok (.putfield 107, 3) := by decide +kernel
theorem eMd_again_5 : decode prog_14_method_132_code 5 = .ok (.aload_n 0, 1) := by decide +kernel
theorem eMd_again_6 : decode prog_14_method_132_code 6 = .ok (.getfield 83, 3) := by decide +kernel
theorem eMd_again_9 : decode prog_14_method_132_code 9 = .ok (.bipush 6, 2) := by decide +kernel
theorem eMd_again_11 : decode prog_14_method_132_code 11 = .ok (.iaload, 1) := by decide +kernel
theorem eMd_again_12 : decode prog_14_method_132_code 12 = .ok (.iconst 2, 1) := by decide +kernel
theorem eMd_again_13 : decode prog_14_method_132_code 13 = .ok (.idiv, 1) := by decide +kernel
theorem eMd_again_14 : decode prog_14_method_132_code 14 = .ok (.istore_n 1, 1) := by decide +kernel
theorem eMd_again_15 : decode prog_14_method_132_code 15 = .ok (.iload_n 1, 1) := by decide +kernel
theorem eMd_again_16 : decode prog_14_method_132_code 16 = .ok (.ifCond .le 63, 3) := by decide +kernel
theorem eMd_again_19 : decode prog_14_method_132_code 19 = .ok (.iconst 1, 1) := by decide +kernel
theorem eMd_again_20 : decode prog_14_method_132_code 20 = .ok (.istore_n 2, 1) := by decide +kernel
theorem eMd_again_21 : decode prog_14_method_132_code 21 = .ok (.iconst 0, 1) := by decide +kernel
theorem eMd_again_22 : decode prog_14_method_132_code 22 = .ok (.istore_n 3, 1) := by decide +kernel
theorem eMd_again_23 : decode prog_14_method_132_code 23 = .ok (.iload_n 3, 1) := by decide +kernel
theorem eMd_again_24 : decode prog_14_method_132_code 24 = .ok (.iload_n 1, 1) := by decide +kernel
theorem eMd_again_25 : decode prog_14_method_132_code 25 = .ok (.if_icmp .ge 42, 3) := by decide +kernel
theorem eMd_again_28 : decode prog_14_method_132_code 28 = .ok (.iload_n 2, 1) := by decide +kernel
theorem eMd_again_29 : decode prog_14_method_132_code 29 = .ok (.ifCond .eq 30, 3) := by decide +kernel
theorem eMd_again_32 : decode prog_14_method_132_code 32 = .ok (.aload_n 0, 1) := by decide +kernel
theorem eMd_again_33 : decode prog_14_method_132_code 33 = .ok (.getfield 83, 3) := by decide +kernel
theorem eMd_again_36 : decode prog_14_method_132_code 36 = .ok (.bipush 23, 2) := by decide +kernel
theorem eMd_again_38 : decode prog_14_method_132_code 38 = .ok (.iload_n 3, 1) := by decide +kernel
theorem eMd_again_39 : decode prog_14_method_132_code 39 = .ok (.iadd, 1) := by decide +kernel
theorem eMd_again_40 : decode prog_14_method_132_code 40 = .ok (.iaload, 1) := by decide +kernel
theorem eMd_again_41 : decode prog_14_method_132_code 41 = .ok (.aload_n 0, 1) := by decide +kernel
theorem eMd_again_42 : decode prog_14_method_132_code 42 = .ok (.getfield 83, 3) := by decide +kernel
theorem eMd_again_45 : decode prog_14_method_132_code 45 = .ok (.bipush 23, 2) := by decide +kernel
theorem eMd_again_47 : decode prog_14_method_132_code 47 = .ok (.iload_n 1, 1) := by decide +kernel
theorem eMd_again_48 : decode prog_14_method_132_code 48 = .ok (.iadd, 1) := by decide +kernel
theorem eMd_again_49 : decode prog_14_method_132_code 49 = .ok (.iload_n 3, 1) := by decide +kernel
theorem eMd_again_50 : decode prog_14_method_132_code 50 = .ok (.iadd, 1) := by decide +kernel
theorem eMd_again_51 : decode prog_14_method_132_code 51 = .ok (.iaload, 1) := by decide +kernel
theorem eMd_again_52 : decode prog_14_method_132_code 52 = .ok (.if_icmp .ne 7, 3) := by decide +kernel
theorem eMd_again_55 : decode prog_14_method_132_code 55 = .ok (.iconst 1, 1) := by decide +kernel
theorem eMd_again_56 : decode prog_14_method_132_code 56 = .ok (.goto 4, 3) := by decide +kernel
theorem eMd_again_59 : decode prog_14_method_132_code 59 = .ok (.iconst 0, 1) := by decide +kernel
theorem eMd_again_60 : decode prog_14_method_132_code 60 = .ok (.istore_n 2, 1) := by decide +kernel
theorem eMd_again_61 : decode prog_14_method_132_code 61 = .ok (.iinc 3 1, 3) := by decide +kernel
theorem eMd_again_64 : decode prog_14_method_132_code 64 = .ok (.goto (-41), 3) := by decide +kernel
theorem eMd_again_67 : decode prog_14_method_132_code 67 = .ok (.iload_n 2, 1) := by decide +kernel
theorem eMd_again_68 : decode prog_14_method_132_code 68 = .ok (.ifCond .eq 5, 3) := by decide +kernel
theorem eMd_again_71 : decode prog_14_method_132_code 71 = .ok (.iload_n 1, 1) := by decide +kernel
theorem eMd_again_72 : decode prog_14_method_132_code 72 = .ok (.ireturn, 1) := by decide +kernel
theorem eMd_again_73 : decode prog_14_method_132_code 73 = .ok (.iinc 1 (-1), 3) := by decide +kernel
theorem eMd_again_76 : decode prog_14_method_132_code 76 = .ok (.goto (-61), 3) := by decide +kernel
theorem eMd_again_79 : decode prog_14_method_132_code 79 = .ok (.iconst 0, 1) := by decide +kernel
theorem eMd_again_80 : decode prog_14_method_132_code 80 = .ok (.ireturn, 1) := by decide +kernel
theorem eMd_draw_0 : decode prog_14_method_133_code 0 = .ok (.aload_n 0, 1) := by decide +kernel
theorem eMd_draw_1 : decode prog_14_method_133_code 1 = .ok (.aload_n 0, 1) := by decide +kernel
theorem eMd_draw_2 : decode prog_14_method_133_code 2 = .ok (.getfield 452, 3) := by decide +kernel
theorem eMd_draw_5 : decode prog_14_method_133_code 5 = .ok (.ldc_w 455, 3) := by decide +kernel
theorem eMd_draw_8 : decode prog_14_method_133_code 8 = .ok (.imul, 1) := by decide +kernel
theorem eMd_draw_9 : decode prog_14_method_133_code 9 = .ok (.sipush 12345, 3) := by decide +kernel
theorem eMd_draw_12 : decode prog_14_method_133_code 12 = .ok (.iadd, 1) := by decide +kernel
theorem eMd_draw_13 : decode prog_14_method_133_code 13 = .ok (.ldc_w 456, 3) := by decide +kernel
theorem eMd_draw_16 : decode prog_14_method_133_code 16 = .ok (.iand, 1) := by decide +kernel
theorem eMd_draw_17 : decode prog_14_method_133_code 17 = .ok (.putfield 452, 3) := by decide +kernel
theorem eMd_draw_20 : decode prog_14_method_133_code 20 = .ok (.aload_n 0, 1) := by decide +kernel
theorem eMd_draw_21 : decode prog_14_method_133_code 21 = .ok (.getfield 452, 3) := by decide +kernel
theorem eMd_draw_24 : decode prog_14_method_133_code 24 = .ok (.bipush 16, 2) := by decide +kernel
theorem eMd_draw_26 : decode prog_14_method_133_code 26 = .ok (.ishr, 1) := by decide +kernel
theorem eMd_draw_27 : decode prog_14_method_133_code 27 = .ok (.iload_n 1, 1) := by decide +kernel
theorem eMd_draw_28 : decode prog_14_method_133_code 28 = .ok (.irem, 1) := by decide +kernel
theorem eMd_draw_29 : decode prog_14_method_133_code 29 = .ok (.ireturn, 1) := by decide +kernel
theorem eMd_chance_0 : decode prog_14_method_134_code 0 = .ok (.aload_n 0, 1) := by decide +kernel
theorem eMd_chance_1 : decode prog_14_method_134_code 1 = .ok (.iconst 0, 1) := by decide +kernel
theorem eMd_chance_2 : decode prog_14_method_134_code 2 = .ok (.putfield 107, 3) := by decide +kernel
theorem eMd_chance_5 : decode prog_14_method_134_code 5 = .ok (.iload_n 1, 1) := by decide +kernel
theorem eMd_chance_6 : decode prog_14_method_134_code 6 = .ok (.iconst (-1), 1) := by decide +kernel
theorem eMd_chance_7 : decode prog_14_method_134_code 7 = .ok (.if_icmp .lt 23, 3) := by decide +kernel
theorem eMd_chance_10 : decode prog_14_method_134_code 10 = .ok (.iload_n 2, 1) := by decide +kernel
theorem eMd_chance_11 : decode prog_14_method_134_code 11 = .ok (.iconst 1, 1) := by decide +kernel
theorem eMd_chance_12 : decode prog_14_method_134_code 12 = .ok (.if_icmp .lt 18, 3) := by decide +kernel
theorem eMd_chance_15 : decode prog_14_method_134_code 15 = .ok (.iload_n 2, 1) := by decide +kernel
theorem eMd_chance_16 : decode prog_14_method_134_code 16 = .ok (.bipush 60, 2) := by decide +kernel
theorem eMd_chance_18 : decode prog_14_method_134_code 18 = .ok (.if_icmp .gt 12, 3) := by decide +kernel
theorem eMd_chance_21 : decode prog_14_method_134_code 21 = .ok (.iload_n 3, 1) := by decide +kernel
theorem eMd_chance_22 : decode prog_14_method_134_code 22 = .ok (.ifCond .lt 8, 3) := by decide +kernel
theorem eMd_chance_25 : decode prog_14_method_134_code 25 = .ok (.iload_n 3, 1) := by decide +kernel
theorem eMd_chance_26 : decode prog_14_method_134_code 26 = .ok (.iconst 2, 1) := by decide +kernel
theorem eMd_chance_27 : decode prog_14_method_134_code 27 = .ok (.if_icmp .le 5, 3) := by decide +kernel
theorem eMd_chance_30 : decode prog_14_method_134_code 30 = .ok (.iconst (-1), 1) := by decide +kernel
theorem eMd_chance_31 : decode prog_14_method_134_code 31 = .ok (.ireturn, 1) := by decide +kernel
theorem eMd_chance_32 : decode prog_14_method_134_code 32 = .ok (.aload_n 0, 1) := by decide +kernel
theorem eMd_chance_33 : decode prog_14_method_134_code 33 = .ok (.iload_n 1, 1) := by decide +kernel
theorem eMd_chance_34 : decode prog_14_method_134_code 34 = .ok (.iconst (-1), 1) := by decide +kernel
theorem eMd_chance_35 : decode prog_14_method_134_code 35 = .ok (.if_icmp .ne 13, 3) := by decide +kernel
theorem eMd_chance_38 : decode prog_14_method_134_code 38 = .ok (.aload_n 0, 1) := by decide +kernel
theorem eMd_chance_39 : decode prog_14_method_134_code 39 = .ok (.getfield 13, 3) := by decide +kernel
theorem eMd_chance_42 : decode prog_14_method_134_code 42 = .ok (.bipush 8, 2) := by decide +kernel
theorem eMd_chance_44 : decode prog_14_method_134_code 44 = .ok (.iaload, 1) := by decide +kernel
theorem eMd_chance_45 : decode prog_14_method_134_code 45 = .ok (.goto 4, 3) := by decide +kernel
theorem eMd_chance_48 : decode prog_14_method_134_code 48 = .ok (.iload_n 1, 1) := by decide +kernel
theorem eMd_chance_49 : decode prog_14_method_134_code 49 = .ok (.putfield 452, 3) := by decide +kernel
theorem eMd_chance_52 : decode prog_14_method_134_code 52 = .ok (.aload_n 0, 1) := by decide +kernel
theorem eMd_chance_53 : decode prog_14_method_134_code 53 = .ok (.getfield 83, 3) := by decide +kernel
theorem eMd_chance_56 : decode prog_14_method_134_code 56 = .ok (.iconst 0, 1) := by decide +kernel
theorem eMd_chance_57 : decode prog_14_method_134_code 57 = .ok (.iaload, 1) := by decide +kernel
theorem eMd_chance_58 : decode prog_14_method_134_code 58 = .ok (.istore 4, 2) := by decide +kernel
theorem eMd_chance_60 : decode prog_14_method_134_code 60 = .ok (.aload_n 0, 1) := by decide +kernel
theorem eMd_chance_61 : decode prog_14_method_134_code 61 = .ok (.iload 4, 2) := by decide +kernel
theorem eMd_chance_63 : decode prog_14_method_134_code 63 = .ok (.invokevirtual 287, 3) := by decide +kernel
theorem eMd_chance_66 : decode prog_14_method_134_code 66 = .ok (.aload_n 0, 1) := by decide +kernel
theorem eMd_chance_67 : decode prog_14_method_134_code 67 = .ok (.getfield 252, 3) := by decide +kernel
theorem eMd_chance_70 : decode prog_14_method_134_code 70 = .ok (.invokestatic 261, 3) := by decide +kernel
theorem eMd_chance_73 : decode prog_14_method_134_code 73 = .ok (.istore 5, 2) := by decide +kernel
theorem eMd_chance_75 : decode prog_14_method_134_code 75 = .ok (.iconst 0, 1) := by decide +kernel
theorem eMd_chance_76 : decode prog_14_method_134_code 76 = .ok (.istore 6, 2) := by decide +kernel
theorem eMd_chance_78 : decode prog_14_method_134_code 78 = .ok (.iload 6, 2) := by decide +kernel
theorem eMd_chance_80 : decode prog_14_method_134_code 80 = .ok (.iload_n 2, 1) := by decide +kernel
theorem eMd_chance_81 : decode prog_14_method_134_code 81 = .ok (.if_icmp .ge 89, 3) := by decide +kernel
theorem eMd_chance_84 : decode prog_14_method_134_code 84 = .ok (.aload_n 0, 1) := by decide +kernel
theorem eMd_chance_85 : decode prog_14_method_134_code 85 = .ok (.getfield 83, 3) := by decide +kernel
theorem eMd_chance_88 : decode prog_14_method_134_code 88 = .ok (.iconst 1, 1) := by decide +kernel
theorem eMd_chance_89 : decode prog_14_method_134_code 89 = .ok (.iaload, 1) := by decide +kernel
theorem eMd_chance_90 : decode prog_14_method_134_code 90 = .ok (.iload 6, 2) := by decide +kernel
theorem eMd_chance_92 : decode prog_14_method_134_code 92 = .ok (.iadd, 1) := by decide +kernel
theorem eMd_chance_93 : decode prog_14_method_134_code 93 = .ok (.sipush 9999, 3) := by decide +kernel
theorem eMd_chance_96 : decode prog_14_method_134_code 96 = .ok (.if_icmp .ge 74, 3) := by decide +kernel
theorem eMd_chance_99 : decode prog_14_method_134_code 99 = .ok (.aload_n 0, 1) := by decide +kernel
theorem eMd_chance_100 : decode prog_14_method_134_code 100 = .ok (.iconst 3, 1) := by decide +kernel
theorem eMd_chance_101 : decode prog_14_method_134_code 101 = .ok (.invokevirtual 457, 3) := by decide +kernel
theorem eMd_chance_104 : decode prog_14_method_134_code 104 = .ok (.iconst 1, 1) := by decide +kernel
theorem eMd_chance_105 : decode prog_14_method_134_code 105 = .ok (.isub, 1) := by decide +kernel
theorem eMd_chance_106 : decode prog_14_method_134_code 106 = .ok (.istore 7, 2) := by decide +kernel
theorem eMd_chance_108 : decode prog_14_method_134_code 108 = .ok (.aload_n 0, 1) := by decide +kernel
theorem eMd_chance_109 : decode prog_14_method_134_code 109 = .ok (.iload 4, 2) := by decide +kernel
theorem eMd_chance_111 : decode prog_14_method_134_code 111 = .ok (.aload_n 0, 1) := by decide +kernel
theorem eMd_chance_112 : decode prog_14_method_134_code 112 = .ok (.iload 4, 2) := by decide +kernel
theorem eMd_chance_114 : decode prog_14_method_134_code 114 = .ok (.invokevirtual 358, 3) := by decide +kernel
theorem eMd_chance_117 : decode prog_14_method_134_code 117 = .ok (.iload 7, 2) := by decide +kernel
theorem eMd_chance_119 : decode prog_14_method_134_code 119 = .ok (.invokevirtual 338, 3) := by decide +kernel
theorem eMd_chance_122 : decode prog_14_method_134_code 122 = .ok (.ifCond .ne 6, 3) := by decide +kernel
theorem eMd_chance_125 : decode prog_14_method_134_code 125 = .ok (.goto 45, 3) := by decide +kernel
theorem eMd_chance_128 : decode prog_14_method_134_code 128 = .ok (.aload_n 0, 1) := by decide +kernel
theorem eMd_chance_129 : decode prog_14_method_134_code 129 = .ok (.invokevirtual 312, 3) := by decide +kernel
theorem eMd_chance_132 : decode prog_14_method_134_code 132 = .ok (.istore 4, 2) := by decide +kernel
theorem eMd_chance_134 : decode prog_14_method_134_code 134 = .ok (.iload 6, 2) := by decide +kernel
theorem eMd_chance_136 : decode prog_14_method_134_code 136 = .ok (.ifCond .ne 13, 3) := by decide +kernel
theorem eMd_chance_139 : decode prog_14_method_134_code 139 = .ok (.aload_n 0, 1) := by decide +kernel
theorem eMd_chance_140 : decode prog_14_method_134_code 140 = .ok (.getfield 252, 3) := by decide +kernel
theorem eMd_chance_143 : decode prog_14_method_134_code 143 = .ok (.invokestatic 261, 3) := by decide +kernel
theorem eMd_chance_146 : decode prog_14_method_134_code 146 = .ok (.goto 16, 3) := by decide +kernel
theorem eMd_chance_149 : decode prog_14_method_134_code 149 = .ok (.aload_n 0, 1) := by decide +kernel
theorem eMd_chance_150 : decode prog_14_method_134_code 150 = .ok (.iload 5, 2) := by decide +kernel
theorem eMd_chance_152 : decode prog_14_method_134_code 152 = .ok (.aload_n 0, 1) := by decide +kernel
theorem eMd_chance_153 : decode prog_14_method_134_code 153 = .ok (.getfield 252, 3) := by decide +kernel
theorem eMd_chance_156 : decode prog_14_method_134_code 156 = .ok (.invokestatic 261, 3) := by decide +kernel
theorem eMd_chance_159 : decode prog_14_method_134_code 159 = .ok (.invokevirtual 443, 3) := by decide +kernel
theorem eMd_chance_162 : decode prog_14_method_134_code 162 = .ok (.istore 5, 2) := by decide +kernel
theorem eMd_chance_164 : decode prog_14_method_134_code 164 = .ok (.iinc 6 1, 3) := by decide +kernel
theorem eMd_chance_167 : decode prog_14_method_134_code 167 = .ok (.goto (-89), 3) := by decide +kernel
theorem eMd_chance_170 : decode prog_14_method_134_code 170 = .ok (.aload_n 0, 1) := by decide +kernel
theorem eMd_chance_171 : decode prog_14_method_134_code 171 = .ok (.iload 4, 2) := by decide +kernel
theorem eMd_chance_173 : decode prog_14_method_134_code 173 = .ok (.invokevirtual 287, 3) := by decide +kernel
theorem eMd_chance_176 : decode prog_14_method_134_code 176 = .ok (.iload_n 3, 1) := by decide +kernel
theorem eMd_chance_177 : decode prog_14_method_134_code 177 = .ok (.ifCond .ne 8, 3) := by decide +kernel
theorem eMd_chance_180 : decode prog_14_method_134_code 180 = .ok (.iload 6, 2) := by decide +kernel
theorem eMd_chance_182 : decode prog_14_method_134_code 182 = .ok (.goto 39, 3) := by decide +kernel
theorem eMd_chance_185 : decode prog_14_method_134_code 185 = .ok (.iload_n 3, 1) := by decide +kernel
theorem eMd_chance_186 : decode prog_14_method_134_code 186 = .ok (.iconst 2, 1) := by decide +kernel
theorem eMd_chance_187 : decode prog_14_method_134_code 187 = .ok (.if_icmp .ne 8, 3) := by decide +kernel
theorem eMd_chance_190 : decode prog_14_method_134_code 190 = .ok (.iload 5, 2) := by decide +kernel
theorem eMd_chance_192 : decode prog_14_method_134_code 192 = .ok (.goto 29, 3) := by decide +kernel
theorem eMd_chance_195 : decode prog_14_method_134_code 195 = .ok (.aload_n 0, 1) := by decide +kernel
theorem eMd_chance_196 : decode prog_14_method_134_code 196 = .ok (.getfield 255, 3) := by decide +kernel
theorem eMd_chance_199 : decode prog_14_method_134_code 199 = .ok (.ifCond .ne 21, 3) := by decide +kernel
theorem eMd_chance_202 : decode prog_14_method_134_code 202 = .ok (.aload_n 0, 1) := by decide +kernel
theorem eMd_chance_203 : decode prog_14_method_134_code 203 = .ok (.getfield 252, 3) := by decide +kernel
theorem eMd_chance_206 : decode prog_14_method_134_code 206 = .ok (.ifCond .ne 14, 3) := by decide +kernel
theorem eMd_chance_209 : decode prog_14_method_134_code 209 = .ok (.aload_n 0, 1) := by decide +kernel
theorem eMd_chance_210 : decode prog_14_method_134_code 210 = .ok (.getfield 249, 3) := by decide +kernel
theorem eMd_chance_213 : decode prog_14_method_134_code 213 = .ok (.ifCond .ne 7, 3) := by decide +kernel
theorem eMd_chance_216 : decode prog_14_method_134_code 216 = .ok (.iconst 1, 1) := by decide +kernel
theorem eMd_chance_217 : decode prog_14_method_134_code 217 = .ok (.goto 4, 3) := by decide +kernel
theorem eMd_chance_220 : decode prog_14_method_134_code 220 = .ok (.iconst 0, 1) := by decide +kernel
theorem eMd_chance_221 : decode prog_14_method_134_code 221 = .ok (.ireturn, 1) := by decide +kernel
theorem eMd_count_0 : decode prog_14_method_135_code 0 = .ok (.aload_n 0, 1) := by decide +kernel
theorem eMd_count_1 : decode prog_14_method_135_code 1 = .ok (.iconst 0, 1) := by decide +kernel
theorem eMd_count_2 : decode prog_14_method_135_code 2 = .ok (.putfield 107, 3) := by decide +kernel
theorem eMd_count_5 : decode prog_14_method_135_code 5 = .ok (.iconst 0, 1) := by decide +kernel
theorem eMd_count_6 : decode prog_14_method_135_code 6 = .ok (.istore_n 2, 1) := by decide +kernel
theorem eMd_count_7 : decode prog_14_method_135_code 7 = .ok (.iconst 0, 1) := by decide +kernel
theorem eMd_count_8 : decode prog_14_method_135_code 8 = .ok (.istore_n 3, 1) := by decide +kernel
theorem eMd_count_9 : decode prog_14_method_135_code 9 = .ok (.iload_n 3, 1) := by decide +kernel
theorem eMd_count_10 : decode prog_14_method_135_code 10 = .ok (.bipush 16, 2) := by decide +kernel
theorem eMd_count_12 : decode prog_14_method_135_code 12 = .ok (.if_icmp .ge 18, 3) := by decide +kernel
theorem eMd_count_15 : decode prog_14_method_135_code 15 = .ok (.iload_n 2, 1) := by decide +kernel
theorem eMd_count_16 : decode prog_14_method_135_code 16 = .ok (.aload_n 0, 1) := by decide +kernel
theorem eMd_count_17 : decode prog_14_method_135_code 17 = .ok (.getfield 66, 3) := by decide +kernel
theorem eMd_count_20 : decode prog_14_method_135_code 20 = .ok (.iload_n 3, 1) := by decide +kernel
theorem eMd_count_21 : decode prog_14_method_135_code 21 = .ok (.iaload, 1) := by decide +kernel
theorem eMd_count_22 : decode prog_14_method_135_code 22 = .ok (.iadd, 1) := by decide +kernel
theorem eMd_count_23 : decode prog_14_method_135_code 23 = .ok (.istore_n 2, 1) := by decide +kernel
theorem eMd_count_24 : decode prog_14_method_135_code 24 = .ok (.iinc 3 1, 3) := by decide +kernel
theorem eMd_count_27 : decode prog_14_method_135_code 27 = .ok (.goto (-18), 3) := by decide +kernel
theorem eMd_count_30 : decode prog_14_method_135_code 30 = .ok (.iload_n 1, 1) := by decide +kernel
theorem eMd_count_31 : decode prog_14_method_135_code 31 = .ok (.tableswitch 149 0 12 #[65, 72, 79, 86, 93, 100, 107, 114, 121, 129, 134, 139, 147], 65) := by decide +kernel
theorem eMd_count_96 : decode prog_14_method_135_code 96 = .ok (.aload_n 0, 1) := by decide +kernel
theorem eMd_count_97 : decode prog_14_method_135_code 97 = .ok (.getfield 13, 3) := by decide +kernel
theorem eMd_count_100 : decode prog_14_method_135_code 100 = .ok (.iconst 0, 1) := by decide +kernel
theorem eMd_count_101 : decode prog_14_method_135_code 101 = .ok (.iaload, 1) := by decide +kernel
theorem eMd_count_102 : decode prog_14_method_135_code 102 = .ok (.ireturn, 1) := by decide +kernel
theorem eMd_count_103 : decode prog_14_method_135_code 103 = .ok (.aload_n 0, 1) := by decide +kernel
theorem eMd_count_104 : decode prog_14_method_135_code 104 = .ok (.getfield 13, 3) := by decide +kernel
theorem eMd_count_107 : decode prog_14_method_135_code 107 = .ok (.iconst 1, 1) := by decide +kernel
theorem eMd_count_108 : decode prog_14_method_135_code 108 = .ok (.iaload, 1) := by decide +kernel
theorem eMd_count_109 : decode prog_14_method_135_code 109 = .ok (.ireturn, 1) := by decide +kernel
theorem eMd_count_110 : decode prog_14_method_135_code 110 = .ok (.aload_n 0, 1) := by decide +kernel
theorem eMd_count_111 : decode prog_14_method_135_code 111 = .ok (.getfield 13, 3) := by decide +kernel
theorem eMd_count_114 : decode prog_14_method_135_code 114 = .ok (.iconst 2, 1) := by decide +kernel
theorem eMd_count_115 : decode prog_14_method_135_code 115 = .ok (.iaload, 1) := by decide +kernel
theorem eMd_count_116 : decode prog_14_method_135_code 116 = .ok (.ireturn, 1) := by decide +kernel
theorem eMd_count_117 : decode prog_14_method_135_code 117 = .ok (.aload_n 0, 1) := by decide +kernel
theorem eMd_count_118 : decode prog_14_method_135_code 118 = .ok (.getfield 13, 3) := by decide +kernel
theorem eMd_count_121 : decode prog_14_method_135_code 121 = .ok (.iconst 3, 1) := by decide +kernel
theorem eMd_count_122 : decode prog_14_method_135_code 122 = .ok (.iaload, 1) := by decide +kernel
theorem eMd_count_123 : decode prog_14_method_135_code 123 = .ok (.ireturn, 1) := by decide +kernel
theorem eMd_count_124 : decode prog_14_method_135_code 124 = .ok (.aload_n 0, 1) := by decide +kernel
theorem eMd_count_125 : decode prog_14_method_135_code 125 = .ok (.getfield 13, 3) := by decide +kernel
theorem eMd_count_128 : decode prog_14_method_135_code 128 = .ok (.iconst 4, 1) := by decide +kernel
theorem eMd_count_129 : decode prog_14_method_135_code 129 = .ok (.iaload, 1) := by decide +kernel
theorem eMd_count_130 : decode prog_14_method_135_code 130 = .ok (.ireturn, 1) := by decide +kernel
theorem eMd_count_131 : decode prog_14_method_135_code 131 = .ok (.aload_n 0, 1) := by decide +kernel
theorem eMd_count_132 : decode prog_14_method_135_code 132 = .ok (.getfield 13, 3) := by decide +kernel
theorem eMd_count_135 : decode prog_14_method_135_code 135 = .ok (.iconst 5, 1) := by decide +kernel
theorem eMd_count_136 : decode prog_14_method_135_code 136 = .ok (.iaload, 1) := by decide +kernel
theorem eMd_count_137 : decode prog_14_method_135_code 137 = .ok (.ireturn, 1) := by decide +kernel
theorem eMd_count_138 : decode prog_14_method_135_code 138 = .ok (.aload_n 0, 1) := by decide +kernel
theorem eMd_count_139 : decode prog_14_method_135_code 139 = .ok (.getfield 83, 3) := by decide +kernel
theorem eMd_count_142 : decode prog_14_method_135_code 142 = .ok (.iconst 4, 1) := by decide +kernel
theorem eMd_count_143 : decode prog_14_method_135_code 143 = .ok (.iaload, 1) := by decide +kernel
theorem eMd_count_144 : decode prog_14_method_135_code 144 = .ok (.ireturn, 1) := by decide +kernel
theorem eMd_count_145 : decode prog_14_method_135_code 145 = .ok (.aload_n 0, 1) := by decide +kernel
theorem eMd_count_146 : decode prog_14_method_135_code 146 = .ok (.getfield 83, 3) := by decide +kernel
theorem eMd_count_149 : decode prog_14_method_135_code 149 = .ok (.iconst 1, 1) := by decide +kernel
theorem eMd_count_150 : decode prog_14_method_135_code 150 = .ok (.iaload, 1) := by decide +kernel
theorem eMd_count_151 : decode prog_14_method_135_code 151 = .ok (.ireturn, 1) := by decide +kernel
theorem eMd_count_152 : decode prog_14_method_135_code 152 = .ok (.aload_n 0, 1) := by decide +kernel
theorem eMd_count_153 : decode prog_14_method_135_code 153 = .ok (.getfield 83, 3) := by decide +kernel
theorem eMd_count_156 : decode prog_14_method_135_code 156 = .ok (.bipush 6, 2) := by decide +kernel
theorem eMd_count_158 : decode prog_14_method_135_code 158 = .ok (.iaload, 1) := by decide +kernel
theorem eMd_count_159 : decode prog_14_method_135_code 159 = .ok (.ireturn, 1) := by decide +kernel
theorem eMd_count_160 : decode prog_14_method_135_code 160 = .ok (.aload_n 0, 1) := by decide +kernel
theorem eMd_count_161 : decode prog_14_method_135_code 161 = .ok (.getfield 318, 3) := by decide +kernel
theorem eMd_count_164 : decode prog_14_method_135_code 164 = .ok (.ireturn, 1) := by decide +kernel
theorem eMd_count_165 : decode prog_14_method_135_code 165 = .ok (.aload_n 0, 1) := by decide +kernel
theorem eMd_count_166 : decode prog_14_method_135_code 166 = .ok (.getfield 110, 3) := by decide +kernel
theorem eMd_count_169 : decode prog_14_method_135_code 169 = .ok (.ireturn, 1) := by decide +kernel
theorem eMd_count_170 : decode prog_14_method_135_code 170 = .ok (.aload_n 0, 1) := by decide +kernel
theorem eMd_count_171 : decode prog_14_method_135_code 171 = .ok (.getfield 13, 3) := by decide +kernel
theorem eMd_count_174 : decode prog_14_method_135_code 174 = .ok (.bipush 11, 2) := by decide +kernel
theorem eMd_count_176 : decode prog_14_method_135_code 176 = .ok (.iaload, 1) := by decide +kernel
theorem eMd_count_177 : decode prog_14_method_135_code 177 = .ok (.ireturn, 1) := by decide +kernel
theorem eMd_count_178 : decode prog_14_method_135_code 178 = .ok (.iload_n 2, 1) := by decide +kernel
theorem eMd_count_179 : decode prog_14_method_135_code 179 = .ok (.ireturn, 1) := by decide +kernel
theorem eMd_count_180 : decode prog_14_method_135_code 180 = .ok (.iconst (-1), 1) := by decide +kernel
theorem eMd_count_181 : decode prog_14_method_135_code 181 = .ok (.ireturn, 1) := by decide +kernel
theorem eLa_now_0 : decode method_3_code 0 = .ok (.aload_n 2, 1) := by decide +kernel
theorem eLa_now_1 : decode method_3_code 1 = .ok (.iconst 0, 1) := by decide +kernel
theorem eLa_now_2 : decode method_3_code 2 = .ok (.aload_n 0, 1) := by decide +kernel
theorem eLa_now_3 : decode method_3_code 3 = .ok (.iload_n 1, 1) := by decide +kernel
theorem eLa_now_4 : decode method_3_code 4 = .ok (.invokevirtual 7, 3) := by decide +kernel
theorem eLa_now_7 : decode method_3_code 7 = .ok (.i2l, 1) := by decide +kernel
theorem eLa_now_8 : decode method_3_code 8 = .ok (.lastore, 1) := by decide +kernel
theorem eLa_now_9 : decode method_3_code 9 = .ok (.goto 9, 3) := by decide +kernel
theorem eLa_now_12 : decode method_3_code 12 = .ok (.astore_n 3, 1) := by decide +kernel
theorem eLa_now_13 : decode method_3_code 13 = .ok (.iconst 1, 1) := by decide +kernel
theorem eLa_now_14 : decode method_3_code 14 = .ok (.ireturn, 1) := by decide +kernel
theorem eLa_now_15 : decode method_3_code 15 = .ok (.astore_n 3, 1) := by decide +kernel
theorem eLa_now_16 : decode method_3_code 16 = .ok (.iconst 2, 1) := by decide +kernel
theorem eLa_now_17 : decode method_3_code 17 = .ok (.ireturn, 1) := by decide +kernel
theorem eLa_now_18 : decode method_3_code 18 = .ok (.iconst 0, 1) := by decide +kernel
theorem eLa_now_19 : decode method_3_code 19 = .ok (.ireturn, 1) := by decide +kernel
theorem eLa_law_0 : decode code 0 = .ok (.new 8, 3) := by decide +kernel
theorem eLa_law_3 : decode code 3 = .ok (.dup, 1) := by decide +kernel
theorem eLa_law_4 : decode code 4 = .ok (.invokespecial 17, 3) := by decide +kernel
theorem eLa_law_7 : decode code 7 = .ok (.astore_n 1, 1) := by decide +kernel
theorem eLa_law_8 : decode code 8 = .ok (.new 18, 3) := by decide +kernel
theorem eLa_law_11 : decode code 11 = .ok (.dup, 1) := by decide +kernel
theorem eLa_law_12 : decode code 12 = .ok (.invokespecial 20, 3) := by decide +kernel
theorem eLa_law_15 : decode code 15 = .ok (.astore_n 2, 1) := by decide +kernel
theorem eLa_law_16 : decode code 16 = .ok (.iconst 1, 1) := by decide +kernel
theorem eLa_law_17 : decode code 17 = .ok (.newarray .long, 2) := by decide +kernel
theorem eLa_law_19 : decode code 19 = .ok (.astore_n 3, 1) := by decide +kernel
theorem eLa_law_20 : decode code 20 = .ok (.iconst 0, 1) := by decide +kernel
theorem eLa_law_21 : decode code 21 = .ok (.istore 4, 2) := by decide +kernel
theorem eLa_law_23 : decode code 23 = .ok (.iload 4, 2) := by decide +kernel
theorem eLa_law_25 : decode code 25 = .ok (.aload_n 0, 1) := by decide +kernel
theorem eLa_law_26 : decode code 26 = .ok (.arraylength, 1) := by decide +kernel
theorem eLa_law_27 : decode code 27 = .ok (.bipush 6, 2) := by decide +kernel
theorem eLa_law_29 : decode code 29 = .ok (.isub, 1) := by decide +kernel
theorem eLa_law_30 : decode code 30 = .ok (.if_icmp .gt 1457, 3) := by decide +kernel
theorem eLa_law_33 : decode code 33 = .ok (.aload_n 0, 1) := by decide +kernel
theorem eLa_law_34 : decode code 34 = .ok (.iload 4, 2) := by decide +kernel
theorem eLa_law_36 : decode code 36 = .ok (.iaload, 1) := by decide +kernel
theorem eLa_law_37 : decode code 37 = .ok (.bipush 63, 2) := by decide +kernel
theorem eLa_law_39 : decode code 39 = .ok (.iand, 1) := by decide +kernel
theorem eLa_law_40 : decode code 40 = .ok (.tableswitch 1441 0 45 #[200, 273, 298, 323, 348, 385, 410, 466, 479, 492, 517, 542, 579, 604, 629, 642, 667, 680, 705, 742, 755, 780, 817, 830, 855, 892, 905, 930, 967, 992, 1017, 1030, 1079, 1116, 1141, 1178, 1191, 1216, 1241, 1278, 1315, 1328, 1377, 1390, 1403, 1416], 200) := by decide +kernel
theorem eLa_law_240 : decode code 240 = .ok (.aload_n 1, 1) := by decide +kernel
theorem eLa_law_241 : decode code 241 = .ok (.aload_n 0, 1) := by decide +kernel
theorem eLa_law_242 : decode code 242 = .ok (.iload 4, 2) := by decide +kernel
theorem eLa_law_244 : decode code 244 = .ok (.iconst 1, 1) := by decide +kernel
theorem eLa_law_245 : decode code 245 = .ok (.iadd, 1) := by decide +kernel
theorem eLa_law_246 : decode code 246 = .ok (.iaload, 1) := by decide +kernel
theorem eLa_law_247 : decode code 247 = .ok (.aload_n 0, 1) := by decide +kernel
theorem eLa_law_248 : decode code 248 = .ok (.iload 4, 2) := by decide +kernel
theorem eLa_law_250 : decode code 250 = .ok (.iconst 2, 1) := by decide +kernel
theorem eLa_law_251 : decode code 251 = .ok (.iadd, 1) := by decide +kernel
theorem eLa_law_252 : decode code 252 = .ok (.iaload, 1) := by decide +kernel
theorem eLa_law_253 : decode code 253 = .ok (.aload_n 0, 1) := by decide +kernel
theorem eLa_law_254 : decode code 254 = .ok (.iload 4, 2) := by decide +kernel
theorem eLa_law_256 : decode code 256 = .ok (.iconst 3, 1) := by decide +kernel
theorem eLa_law_257 : decode code 257 = .ok (.iadd, 1) := by decide +kernel
theorem eLa_law_258 : decode code 258 = .ok (.iaload, 1) := by decide +kernel
theorem eLa_law_259 : decode code 259 = .ok (.aload_n 0, 1) := by decide +kernel
theorem eLa_law_260 : decode code 260 = .ok (.iload 4, 2) := by decide +kernel
theorem eLa_law_262 : decode code 262 = .ok (.iconst 4, 1) := by decide +kernel
theorem eLa_law_263 : decode code 263 = .ok (.iadd, 1) := by decide +kernel
theorem eLa_law_264 : decode code 264 = .ok (.iaload, 1) := by decide +kernel
theorem eLa_law_265 : decode code 265 = .ok (.aload_n 0, 1) := by decide +kernel
theorem eLa_law_266 : decode code 266 = .ok (.iload 4, 2) := by decide +kernel
theorem eLa_law_268 : decode code 268 = .ok (.iconst 5, 1) := by decide +kernel
theorem eLa_law_269 : decode code 269 = .ok (.iadd, 1) := by decide +kernel
theorem eLa_law_270 : decode code 270 = .ok (.iaload, 1) := by decide +kernel
theorem eLa_law_271 : decode code 271 = .ok (.invokevirtual 21, 3) := by decide +kernel
theorem eLa_law_274 : decode code 274 = .ok (.aload_n 2, 1) := by decide +kernel
theorem eLa_law_275 : decode code 275 = .ok (.aload_n 0, 1) := by decide +kernel
theorem eLa_law_276 : decode code 276 = .ok (.iload 4, 2) := by decide +kernel
theorem eLa_law_278 : decode code 278 = .ok (.iconst 1, 1) := by decide +kernel
theorem eLa_law_279 : decode code 279 = .ok (.iadd, 1) := by decide +kernel
theorem eLa_law_280 : decode code 280 = .ok (.iaload, 1) := by decide +kernel
theorem eLa_law_281 : decode code 281 = .ok (.aload_n 0, 1) := by decide +kernel
theorem eLa_law_282 : decode code 282 = .ok (.iload 4, 2) := by decide +kernel
theorem eLa_law_284 : decode code 284 = .ok (.iconst 2, 1) := by decide +kernel
theorem eLa_law_285 : decode code 285 = .ok (.iadd, 1) := by decide +kernel
theorem eLa_law_286 : decode code 286 = .ok (.iaload, 1) := by decide +kernel
theorem eLa_law_287 : decode code 287 = .ok (.aload_n 0, 1) := by decide +kernel
theorem eLa_law_288 : decode code 288 = .ok (.iload 4, 2) := by decide +kernel
theorem eLa_law_290 : decode code 290 = .ok (.iconst 3, 1) := by decide +kernel
theorem eLa_law_291 : decode code 291 = .ok (.iadd, 1) := by decide +kernel
theorem eLa_law_292 : decode code 292 = .ok (.iaload, 1) := by decide +kernel
theorem eLa_law_293 : decode code 293 = .ok (.aload_n 0, 1) := by decide +kernel
theorem eLa_law_294 : decode code 294 = .ok (.iload 4, 2) := by decide +kernel
theorem eLa_law_296 : decode code 296 = .ok (.iconst 4, 1) := by decide +kernel
theorem eLa_law_297 : decode code 297 = .ok (.iadd, 1) := by decide +kernel
theorem eLa_law_298 : decode code 298 = .ok (.iaload, 1) := by decide +kernel
theorem eLa_law_299 : decode code 299 = .ok (.aload_n 0, 1) := by decide +kernel
theorem eLa_law_300 : decode code 300 = .ok (.iload 4, 2) := by decide +kernel
theorem eLa_law_302 : decode code 302 = .ok (.iconst 5, 1) := by decide +kernel
theorem eLa_law_303 : decode code 303 = .ok (.iadd, 1) := by decide +kernel
theorem eLa_law_304 : decode code 304 = .ok (.iaload, 1) := by decide +kernel
theorem eLa_law_305 : decode code 305 = .ok (.invokevirtual 25, 3) := by decide +kernel
theorem eLa_law_308 : decode code 308 = .ok (.if_icmp .eq 1173, 3) := by decide +kernel
theorem eLa_law_311 : decode code 311 = .ok (.iconst 0, 1) := by decide +kernel
theorem eLa_law_312 : decode code 312 = .ok (.ireturn, 1) := by decide +kernel
theorem eLa_law_313 : decode code 313 = .ok (.aload_n 1, 1) := by decide +kernel
theorem eLa_law_314 : decode code 314 = .ok (.aload_n 0, 1) := by decide +kernel
theorem eLa_law_315 : decode code 315 = .ok (.iload 4, 2) := by decide +kernel
theorem eLa_law_317 : decode code 317 = .ok (.iconst 1, 1) := by decide +kernel
theorem eLa_law_318 : decode code 318 = .ok (.iadd, 1) := by decide +kernel
theorem eLa_law_319 : decode code 319 = .ok (.iaload, 1) := by decide +kernel
theorem eLa_law_320 : decode code 320 = .ok (.invokevirtual 26, 3) := by decide +kernel
theorem eLa_law_323 : decode code 323 = .ok (.aload_n 2, 1) := by decide +kernel
theorem eLa_law_324 : decode code 324 = .ok (.aload_n 0, 1) := by decide +kernel
theorem eLa_law_325 : decode code 325 = .ok (.iload 4, 2) := by decide +kernel
theorem eLa_law_327 : decode code 327 = .ok (.iconst 1, 1) := by decide +kernel
theorem eLa_law_328 : decode code 328 = .ok (.iadd, 1) := by decide +kernel
theorem eLa_law_329 : decode code 329 = .ok (.iaload, 1) := by decide +kernel
theorem eLa_law_330 : decode code 330 = .ok (.invokevirtual 29, 3) := by decide +kernel
theorem eLa_law_333 : decode code 333 = .ok (.if_icmp .eq 1148, 3) := by decide +kernel
theorem eLa_law_336 : decode code 336 = .ok (.iconst 0, 1) := by decide +kernel
theorem eLa_law_337 : decode code 337 = .ok (.ireturn, 1) := by decide +kernel
theorem eLa_law_338 : decode code 338 = .ok (.aload_n 1, 1) := by decide +kernel
theorem eLa_law_339 : decode code 339 = .ok (.aload_n 0, 1) := by decide +kernel
theorem eLa_law_340 : decode code 340 = .ok (.iload 4, 2) := by decide +kernel
theorem eLa_law_342 : decode code 342 = .ok (.iconst 1, 1) := by decide +kernel
theorem eLa_law_343 : decode code 343 = .ok (.iadd, 1) := by decide +kernel
theorem eLa_law_344 : decode code 344 = .ok (.iaload, 1) := by decide +kernel
theorem eLa_law_345 : decode code 345 = .ok (.invokevirtual 30, 3) := by decide +kernel
theorem eLa_law_348 : decode code 348 = .ok (.aload_n 2, 1) := by decide +kernel
theorem eLa_law_349 : decode code 349 = .ok (.aload_n 0, 1) := by decide +kernel
theorem eLa_law_350 : decode code 350 = .ok (.iload 4, 2) := by decide +kernel
theorem eLa_law_352 : decode code 352 = .ok (.iconst 1, 1) := by decide +kernel
theorem eLa_law_353 : decode code 353 = .ok (.iadd, 1) := by decide +kernel
theorem eLa_law_354 : decode code 354 = .ok (.iaload, 1) := by decide +kernel
theorem eLa_law_355 : decode code 355 = .ok (.invokevirtual 33, 3) := by decide +kernel
theorem eLa_law_358 : decode code 358 = .ok (.if_icmp .eq 1123, 3) := by decide +kernel
theorem eLa_law_361 : decode code 361 = .ok (.iconst 0, 1) := by decide +kernel
theorem eLa_law_362 : decode code 362 = .ok (.ireturn, 1) := by decide +kernel
theorem eLa_law_363 : decode code 363 = .ok (.aload_n 1, 1) := by decide +kernel
theorem eLa_law_364 : decode code 364 = .ok (.aload_n 0, 1) := by decide +kernel
theorem eLa_law_365 : decode code 365 = .ok (.iload 4, 2) := by decide +kernel
theorem eLa_law_367 : decode code 367 = .ok (.iconst 1, 1) := by decide +kernel
theorem eLa_law_368 : decode code 368 = .ok (.iadd, 1) := by decide +kernel
theorem eLa_law_369 : decode code 369 = .ok (.iaload, 1) := by decide +kernel
theorem eLa_law_370 : decode code 370 = .ok (.invokevirtual 34, 3) := by decide +kernel
theorem eLa_law_373 : decode code 373 = .ok (.aload_n 2, 1) := by decide +kernel
theorem eLa_law_374 : decode code 374 = .ok (.aload_n 0, 1) := by decide +kernel
theorem eLa_law_375 : decode code 375 = .ok (.iload 4, 2) := by decide +kernel
theorem eLa_law_377 : decode code 377 = .ok (.iconst 1, 1) := by decide +kernel
theorem eLa_law_378 : decode code 378 = .ok (.iadd, 1) := by decide +kernel
theorem eLa_law_379 : decode code 379 = .ok (.iaload, 1) := by decide +kernel
theorem eLa_law_380 : decode code 380 = .ok (.invokevirtual 37, 3) := by decide +kernel
theorem eLa_law_383 : decode code 383 = .ok (.if_icmp .eq 1098, 3) := by decide +kernel
theorem eLa_law_386 : decode code 386 = .ok (.iconst 0, 1) := by decide +kernel
theorem eLa_law_387 : decode code 387 = .ok (.ireturn, 1) := by decide +kernel
theorem eLa_law_388 : decode code 388 = .ok (.aload_n 1, 1) := by decide +kernel
theorem eLa_law_389 : decode code 389 = .ok (.aload_n 0, 1) := by decide +kernel
theorem eLa_law_390 : decode code 390 = .ok (.iload 4, 2) := by decide +kernel
theorem eLa_law_392 : decode code 392 = .ok (.iconst 1, 1) := by decide +kernel
theorem eLa_law_393 : decode code 393 = .ok (.iadd, 1) := by decide +kernel
theorem eLa_law_394 : decode code 394 = .ok (.iaload, 1) := by decide +kernel
theorem eLa_law_395 : decode code 395 = .ok (.aload_n 0, 1) := by decide +kernel
theorem eLa_law_396 : decode code 396 = .ok (.iload 4, 2) := by decide +kernel
theorem eLa_law_398 : decode code 398 = .ok (.iconst 2, 1) := by decide +kernel
theorem eLa_law_399 : decode code 399 = .ok (.iadd, 1) := by decide +kernel
theorem eLa_law_400 : decode code 400 = .ok (.iaload, 1) := by decide +kernel
theorem eLa_law_401 : decode code 401 = .ok (.invokevirtual 38, 3) := by decide +kernel
theorem eLa_law_404 : decode code 404 = .ok (.aload_n 2, 1) := by decide +kernel
theorem eLa_law_405 : decode code 405 = .ok (.aload_n 0, 1) := by decide +kernel
theorem eLa_law_406 : decode code 406 = .ok (.iload 4, 2) := by decide +kernel
theorem eLa_law_408 : decode code 408 = .ok (.iconst 1, 1) := by decide +kernel
theorem eLa_law_409 : decode code 409 = .ok (.iadd, 1) := by decide +kernel
theorem eLa_law_410 : decode code 410 = .ok (.iaload, 1) := by decide +kernel
theorem eLa_law_411 : decode code 411 = .ok (.aload_n 0, 1) := by decide +kernel
theorem eLa_law_412 : decode code 412 = .ok (.iload 4, 2) := by decide +kernel
theorem eLa_law_414 : decode code 414 = .ok (.iconst 2, 1) := by decide +kernel
theorem eLa_law_415 : decode code 415 = .ok (.iadd, 1) := by decide +kernel
theorem eLa_law_416 : decode code 416 = .ok (.iaload, 1) := by decide +kernel
theorem eLa_law_417 : decode code 417 = .ok (.invokevirtual 42, 3) := by decide +kernel
theorem eLa_law_420 : decode code 420 = .ok (.if_icmp .eq 1061, 3) := by decide +kernel
theorem eLa_law_423 : decode code 423 = .ok (.iconst 0, 1) := by decide +kernel
theorem eLa_law_424 : decode code 424 = .ok (.ireturn, 1) := by decide +kernel
theorem eLa_law_425 : decode code 425 = .ok (.aload_n 1, 1) := by decide +kernel
theorem eLa_law_426 : decode code 426 = .ok (.aload_n 0, 1) := by decide +kernel
theorem eLa_law_427 : decode code 427 = .ok (.iload 4, 2) := by decide +kernel
theorem eLa_law_429 : decode code 429 = .ok (.iconst 1, 1) := by decide +kernel
theorem eLa_law_430 : decode code 430 = .ok (.iadd, 1) := by decide +kernel
theorem eLa_law_431 : decode code 431 = .ok (.iaload, 1) := by decide +kernel
theorem eLa_law_432 : decode code 432 = .ok (.invokevirtual 43, 3) := by decide +kernel
theorem eLa_law_435 : decode code 435 = .ok (.aload_n 2, 1) := by decide +kernel
theorem eLa_law_436 : decode code 436 = .ok (.aload_n 0, 1) := by decide +kernel
theorem eLa_law_437 : decode code 437 = .ok (.iload 4, 2) := by decide +kernel
theorem eLa_law_439 : decode code 439 = .ok (.iconst 1, 1) := by decide +kernel
theorem eLa_law_440 : decode code 440 = .ok (.iadd, 1) := by decide +kernel
theorem eLa_law_441 : decode code 441 = .ok (.iaload, 1) := by decide +kernel
theorem eLa_law_442 : decode code 442 = .ok (.invokevirtual 46, 3) := by decide +kernel
theorem eLa_law_445 : decode code 445 = .ok (.if_icmp .eq 1036, 3) := by decide +kernel
theorem eLa_law_448 : decode code 448 = .ok (.iconst 0, 1) := by decide +kernel
theorem eLa_law_449 : decode code 449 = .ok (.ireturn, 1) := by decide +kernel
theorem eLa_law_450 : decode code 450 = .ok (.aload_n 1, 1) := by decide +kernel
theorem eLa_law_451 : decode code 451 = .ok (.aload_n 0, 1) := by decide +kernel
theorem eLa_law_452 : decode code 452 = .ok (.iload 4, 2) := by decide +kernel
theorem eLa_law_454 : decode code 454 = .ok (.iconst 1, 1) := by decide +kernel
theorem eLa_law_455 : decode code 455 = .ok (.iadd, 1) := by decide +kernel
theorem eLa_law_456 : decode code 456 = .ok (.iaload, 1) := by decide +kernel
theorem eLa_law_457 : decode code 457 = .ok (.aload_n 3, 1) := by decide +kernel
theorem eLa_law_458 : decode code 458 = .ok (.invokestatic 47, 3) := by decide +kernel
theorem eLa_law_461 : decode code 461 = .ok (.istore 5, 2) := by decide +kernel
theorem eLa_law_463 : decode code 463 = .ok (.aload_n 2, 1) := by decide +kernel
theorem eLa_law_464 : decode code 464 = .ok (.aload_n 0, 1) := by decide +kernel
theorem eLa_law_465 : decode code 465 = .ok (.iload 4, 2) := by decide +kernel
theorem eLa_law_467 : decode code 467 = .ok (.iconst 1, 1) := by decide +kernel
theorem eLa_law_468 : decode code 468 = .ok (.iadd, 1) := by decide +kernel
theorem eLa_law_469 : decode code 469 = .ok (.iaload, 1) := by decide +kernel
theorem eLa_law_470 : decode code 470 = .ok (.invokevirtual 52, 3) := by decide +kernel
theorem eLa_law_473 : decode code 473 = .ok (.istore 6, 2) := by decide +kernel
theorem eLa_law_475 : decode code 475 = .ok (.aload_n 2, 1) := by decide +kernel
theorem eLa_law_476 : decode code 476 = .ok (.invokevirtual 53, 3) := by decide +kernel
theorem eLa_law_479 : decode code 479 = .ok (.iload 5, 2) := by decide +kernel
theorem eLa_law_481 : decode code 481 = .ok (.if_icmp .eq 5, 3) := by decide +kernel
theorem eLa_law_484 : decode code 484 = .ok (.iconst 0, 1) := by decide +kernel
theorem eLa_law_485 : decode code 485 = .ok (.ireturn, 1) := by decide +kernel
theorem eLa_law_486 : decode code 486 = .ok (.iload 5, 2) := by decide +kernel
theorem eLa_law_488 : decode code 488 = .ok (.ifCond .ne 15, 3) := by decide +kernel
theorem eLa_law_491 : decode code 491 = .ok (.aload_n 3, 1) := by decide +kernel
theorem eLa_law_492 : decode code 492 = .ok (.iconst 0, 1) := by decide +kernel
theorem eLa_law_493 : decode code 493 = .ok (.laload, 1) := by decide +kernel
theorem eLa_law_494 : decode code 494 = .ok (.iload 6, 2) := by decide +kernel
theorem eLa_law_496 : decode code 496 = .ok (.i2l, 1) := by decide +kernel
theorem eLa_law_497 : decode code 497 = .ok (.lcmp, 1) := by decide +kernel
theorem eLa_law_498 : decode code 498 = .ok (.ifCond .eq 5, 3) := by decide +kernel
theorem eLa_law_501 : decode code 501 = .ok (.iconst 0, 1) := by decide +kernel
theorem eLa_law_502 : decode code 502 = .ok (.ireturn, 1) := by decide +kernel
theorem eLa_law_503 : decode code 503 = .ok (.goto 978, 3) := by decide +kernel
theorem eLa_law_506 : decode code 506 = .ok (.aload_n 1, 1) := by decide +kernel
theorem eLa_law_507 : decode code 507 = .ok (.invokevirtual 57, 3) := by decide +kernel
theorem eLa_law_510 : decode code 510 = .ok (.aload_n 2, 1) := by decide +kernel
theorem eLa_law_511 : decode code 511 = .ok (.invokevirtual 61, 3) := by decide +kernel
theorem eLa_law_514 : decode code 514 = .ok (.if_icmp .eq 967, 3) := by decide +kernel
theorem eLa_law_517 : decode code 517 = .ok (.iconst 0, 1) := by decide +kernel
theorem eLa_law_518 : decode code 518 = .ok (.ireturn, 1) := by decide +kernel
theorem eLa_law_519 : decode code 519 = .ok (.aload_n 1, 1) := by decide +kernel
theorem eLa_law_520 : decode code 520 = .ok (.invokevirtual 62, 3) := by decide +kernel
theorem eLa_law_523 : decode code 523 = .ok (.aload_n 2, 1) := by decide +kernel
theorem eLa_law_524 : decode code 524 = .ok (.invokevirtual 65, 3) := by decide +kernel
theorem eLa_law_527 : decode code 527 = .ok (.if_icmp .eq 954, 3) := by decide +kernel
theorem eLa_law_530 : decode code 530 = .ok (.iconst 0, 1) := by decide +kernel
theorem eLa_law_531 : decode code 531 = .ok (.ireturn, 1) := by decide +kernel
theorem eLa_law_532 : decode code 532 = .ok (.aload_n 1, 1) := by decide +kernel
theorem eLa_law_533 : decode code 533 = .ok (.aload_n 0, 1) := by decide +kernel
theorem eLa_law_534 : decode code 534 = .ok (.iload 4, 2) := by decide +kernel
theorem eLa_law_536 : decode code 536 = .ok (.iconst 1, 1) := by decide +kernel
theorem eLa_law_537 : decode code 537 = .ok (.iadd, 1) := by decide +kernel
theorem eLa_law_538 : decode code 538 = .ok (.iaload, 1) := by decide +kernel
theorem eLa_law_539 : decode code 539 = .ok (.invokevirtual 66, 3) := by decide +kernel
theorem eLa_law_542 : decode code 542 = .ok (.aload_n 2, 1) := by decide +kernel
theorem eLa_law_543 : decode code 543 = .ok (.aload_n 0, 1) := by decide +kernel
theorem eLa_law_544 : decode code 544 = .ok (.iload 4, 2) := by decide +kernel
theorem eLa_law_546 : decode code 546 = .ok (.iconst 1, 1) := by decide +kernel
theorem eLa_law_547 : decode code 547 = .ok (.iadd, 1) := by decide +kernel
theorem eLa_law_548 : decode code 548 = .ok (.iaload, 1) := by decide +kernel
theorem eLa_law_549 : decode code 549 = .ok (.invokevirtual 69, 3) := by decide +kernel
theorem eLa_law_552 : decode code 552 = .ok (.if_icmp .eq 929, 3) := by decide +kernel
theorem eLa_law_555 : decode code 555 = .ok (.iconst 0, 1) := by decide +kernel
theorem eLa_law_556 : decode code 556 = .ok (.ireturn, 1) := by decide +kernel
theorem eLa_law_557 : decode code 557 = .ok (.aload_n 1, 1) := by decide +kernel
theorem eLa_law_558 : decode code 558 = .ok (.aload_n 0, 1) := by decide +kernel
theorem eLa_law_559 : decode code 559 = .ok (.iload 4, 2) := by decide +kernel
theorem eLa_law_561 : decode code 561 = .ok (.iconst 1, 1) := by decide +kernel
theorem eLa_law_562 : decode code 562 = .ok (.iadd, 1) := by decide +kernel
theorem eLa_law_563 : decode code 563 = .ok (.iaload, 1) := by decide +kernel
theorem eLa_law_564 : decode code 564 = .ok (.invokevirtual 70, 3) := by decide +kernel
theorem eLa_law_567 : decode code 567 = .ok (.aload_n 2, 1) := by decide +kernel
theorem eLa_law_568 : decode code 568 = .ok (.aload_n 0, 1) := by decide +kernel
theorem eLa_law_569 : decode code 569 = .ok (.iload 4, 2) := by decide +kernel
theorem eLa_law_571 : decode code 571 = .ok (.iconst 1, 1) := by decide +kernel
theorem eLa_law_572 : decode code 572 = .ok (.iadd, 1) := by decide +kernel
theorem eLa_law_573 : decode code 573 = .ok (.iaload, 1) := by decide +kernel
theorem eLa_law_574 : decode code 574 = .ok (.invokevirtual 73, 3) := by decide +kernel
theorem eLa_law_577 : decode code 577 = .ok (.if_icmp .eq 904, 3) := by decide +kernel
theorem eLa_law_580 : decode code 580 = .ok (.iconst 0, 1) := by decide +kernel
theorem eLa_law_581 : decode code 581 = .ok (.ireturn, 1) := by decide +kernel
theorem eLa_law_582 : decode code 582 = .ok (.aload_n 1, 1) := by decide +kernel
theorem eLa_law_583 : decode code 583 = .ok (.aload_n 0, 1) := by decide +kernel
theorem eLa_law_584 : decode code 584 = .ok (.iload 4, 2) := by decide +kernel
theorem eLa_law_586 : decode code 586 = .ok (.iconst 1, 1) := by decide +kernel
theorem eLa_law_587 : decode code 587 = .ok (.iadd, 1) := by decide +kernel
theorem eLa_law_588 : decode code 588 = .ok (.iaload, 1) := by decide +kernel
theorem eLa_law_589 : decode code 589 = .ok (.aload_n 0, 1) := by decide +kernel
theorem eLa_law_590 : decode code 590 = .ok (.iload 4, 2) := by decide +kernel
theorem eLa_law_592 : decode code 592 = .ok (.iconst 2, 1) := by decide +kernel
theorem eLa_law_593 : decode code 593 = .ok (.iadd, 1) := by decide +kernel
theorem eLa_law_594 : decode code 594 = .ok (.iaload, 1) := by decide +kernel
theorem eLa_law_595 : decode code 595 = .ok (.invokevirtual 74, 3) := by decide +kernel
theorem eLa_law_598 : decode code 598 = .ok (.aload_n 2, 1) := by decide +kernel
theorem eLa_law_599 : decode code 599 = .ok (.aload_n 0, 1) := by decide +kernel
theorem eLa_law_600 : decode code 600 = .ok (.iload 4, 2) := by decide +kernel
theorem eLa_law_602 : decode code 602 = .ok (.iconst 1, 1) := by decide +kernel
theorem eLa_law_603 : decode code 603 = .ok (.iadd, 1) := by decide +kernel
theorem eLa_law_604 : decode code 604 = .ok (.iaload, 1) := by decide +kernel
theorem eLa_law_605 : decode code 605 = .ok (.aload_n 0, 1) := by decide +kernel
theorem eLa_law_606 : decode code 606 = .ok (.iload 4, 2) := by decide +kernel
theorem eLa_law_608 : decode code 608 = .ok (.iconst 2, 1) := by decide +kernel
theorem eLa_law_609 : decode code 609 = .ok (.iadd, 1) := by decide +kernel
theorem eLa_law_610 : decode code 610 = .ok (.iaload, 1) := by decide +kernel
theorem eLa_law_611 : decode code 611 = .ok (.invokevirtual 77, 3) := by decide +kernel
theorem eLa_law_614 : decode code 614 = .ok (.if_icmp .eq 867, 3) := by decide +kernel
theorem eLa_law_617 : decode code 617 = .ok (.iconst 0, 1) := by decide +kernel
theorem eLa_law_618 : decode code 618 = .ok (.ireturn, 1) := by decide +kernel
theorem eLa_law_619 : decode code 619 = .ok (.aload_n 1, 1) := by decide +kernel
theorem eLa_law_620 : decode code 620 = .ok (.aload_n 0, 1) := by decide +kernel
theorem eLa_law_621 : decode code 621 = .ok (.iload 4, 2) := by decide +kernel
theorem eLa_law_623 : decode code 623 = .ok (.iconst 1, 1) := by decide +kernel
theorem eLa_law_624 : decode code 624 = .ok (.iadd, 1) := by decide +kernel
theorem eLa_law_625 : decode code 625 = .ok (.iaload, 1) := by decide +kernel
theorem eLa_law_626 : decode code 626 = .ok (.invokevirtual 78, 3) := by decide +kernel
theorem eLa_law_629 : decode code 629 = .ok (.aload_n 2, 1) := by decide +kernel
theorem eLa_law_630 : decode code 630 = .ok (.aload_n 0, 1) := by decide +kernel
theorem eLa_law_631 : decode code 631 = .ok (.iload 4, 2) := by decide +kernel
theorem eLa_law_633 : decode code 633 = .ok (.iconst 1, 1) := by decide +kernel
theorem eLa_law_634 : decode code 634 = .ok (.iadd, 1) := by decide +kernel
theorem eLa_law_635 : decode code 635 = .ok (.iaload, 1) := by decide +kernel
theorem eLa_law_636 : decode code 636 = .ok (.invokevirtual 81, 3) := by decide +kernel
theorem eLa_law_639 : decode code 639 = .ok (.if_icmp .eq 842, 3) := by decide +kernel
theorem eLa_law_642 : decode code 642 = .ok (.iconst 0, 1) := by decide +kernel
theorem eLa_law_643 : decode code 643 = .ok (.ireturn, 1) := by decide +kernel
theorem eLa_law_644 : decode code 644 = .ok (.aload_n 1, 1) := by decide +kernel
theorem eLa_law_645 : decode code 645 = .ok (.aload_n 0, 1) := by decide +kernel
theorem eLa_law_646 : decode code 646 = .ok (.iload 4, 2) := by decide +kernel
theorem eLa_law_648 : decode code 648 = .ok (.iconst 1, 1) := by decide +kernel
theorem eLa_law_649 : decode code 649 = .ok (.iadd, 1) := by decide +kernel
theorem eLa_law_650 : decode code 650 = .ok (.iaload, 1) := by decide +kernel
theorem eLa_law_651 : decode code 651 = .ok (.invokevirtual 82, 3) := by decide +kernel
theorem eLa_law_654 : decode code 654 = .ok (.aload_n 2, 1) := by decide +kernel
theorem eLa_law_655 : decode code 655 = .ok (.aload_n 0, 1) := by decide +kernel
theorem eLa_law_656 : decode code 656 = .ok (.iload 4, 2) := by decide +kernel
theorem eLa_law_658 : decode code 658 = .ok (.iconst 1, 1) := by decide +kernel
theorem eLa_law_659 : decode code 659 = .ok (.iadd, 1) := by decide +kernel
theorem eLa_law_660 : decode code 660 = .ok (.iaload, 1) := by decide +kernel
theorem eLa_law_661 : decode code 661 = .ok (.invokevirtual 85, 3) := by decide +kernel
theorem eLa_law_664 : decode code 664 = .ok (.if_icmp .eq 817, 3) := by decide +kernel
theorem eLa_law_667 : decode code 667 = .ok (.iconst 0, 1) := by decide +kernel
theorem eLa_law_668 : decode code 668 = .ok (.ireturn, 1) := by decide +kernel
theorem eLa_law_669 : decode code 669 = .ok (.aload_n 1, 1) := by decide +kernel
theorem eLa_law_670 : decode code 670 = .ok (.invokevirtual 86, 3) := by decide +kernel
theorem eLa_law_673 : decode code 673 = .ok (.aload_n 2, 1) := by decide +kernel
theorem eLa_law_674 : decode code 674 = .ok (.invokevirtual 89, 3) := by decide +kernel
theorem eLa_law_677 : decode code 677 = .ok (.if_icmp .eq 804, 3) := by decide +kernel
theorem eLa_law_680 : decode code 680 = .ok (.iconst 0, 1) := by decide +kernel
theorem eLa_law_681 : decode code 681 = .ok (.ireturn, 1) := by decide +kernel
theorem eLa_law_682 : decode code 682 = .ok (.aload_n 1, 1) := by decide +kernel
theorem eLa_law_683 : decode code 683 = .ok (.aload_n 0, 1) := by decide +kernel
theorem eLa_law_684 : decode code 684 = .ok (.iload 4, 2) := by decide +kernel
theorem eLa_law_686 : decode code 686 = .ok (.iconst 1, 1) := by decide +kernel
theorem eLa_law_687 : decode code 687 = .ok (.iadd, 1) := by decide +kernel
theorem eLa_law_688 : decode code 688 = .ok (.iaload, 1) := by decide +kernel
theorem eLa_law_689 : decode code 689 = .ok (.invokevirtual 90, 3) := by decide +kernel
theorem eLa_law_692 : decode code 692 = .ok (.aload_n 2, 1) := by decide +kernel
theorem eLa_law_693 : decode code 693 = .ok (.aload_n 0, 1) := by decide +kernel
theorem eLa_law_694 : decode code 694 = .ok (.iload 4, 2) := by decide +kernel
theorem eLa_law_696 : decode code 696 = .ok (.iconst 1, 1) := by decide +kernel
theorem eLa_law_697 : decode code 697 = .ok (.iadd, 1) := by decide +kernel
theorem eLa_law_698 : decode code 698 = .ok (.iaload, 1) := by decide +kernel
theorem eLa_law_699 : decode code 699 = .ok (.invokevirtual 93, 3) := by decide +kernel
theorem eLa_law_702 : decode code 702 = .ok (.if_icmp .eq 779, 3) := by decide +kernel
theorem eLa_law_705 : decode code 705 = .ok (.iconst 0, 1) := by decide +kernel
theorem eLa_law_706 : decode code 706 = .ok (.ireturn, 1) := by decide +kernel
theorem eLa_law_707 : decode code 707 = .ok (.aload_n 1, 1) := by decide +kernel
theorem eLa_law_708 : decode code 708 = .ok (.invokevirtual 94, 3) := by decide +kernel
theorem eLa_law_711 : decode code 711 = .ok (.aload_n 2, 1) := by decide +kernel
theorem eLa_law_712 : decode code 712 = .ok (.invokevirtual 97, 3) := by decide +kernel
theorem eLa_law_715 : decode code 715 = .ok (.if_icmp .eq 766, 3) := by decide +kernel
theorem eLa_law_718 : decode code 718 = .ok (.iconst 0, 1) := by decide +kernel
theorem eLa_law_719 : decode code 719 = .ok (.ireturn, 1) := by decide +kernel
theorem eLa_law_720 : decode code 720 = .ok (.aload_n 1, 1) := by decide +kernel
theorem eLa_law_721 : decode code 721 = .ok (.aload_n 0, 1) := by decide +kernel
theorem eLa_law_722 : decode code 722 = .ok (.iload 4, 2) := by decide +kernel
theorem eLa_law_724 : decode code 724 = .ok (.iconst 1, 1) := by decide +kernel
theorem eLa_law_725 : decode code 725 = .ok (.iadd, 1) := by decide +kernel
theorem eLa_law_726 : decode code 726 = .ok (.iaload, 1) := by decide +kernel
theorem eLa_law_727 : decode code 727 = .ok (.invokevirtual 98, 3) := by decide +kernel
theorem eLa_law_730 : decode code 730 = .ok (.aload_n 2, 1) := by decide +kernel
theorem eLa_law_731 : decode code 731 = .ok (.aload_n 0, 1) := by decide +kernel
theorem eLa_law_732 : decode code 732 = .ok (.iload 4, 2) := by decide +kernel
theorem eLa_law_734 : decode code 734 = .ok (.iconst 1, 1) := by decide +kernel
theorem eLa_law_735 : decode code 735 = .ok (.iadd, 1) := by decide +kernel
theorem eLa_law_736 : decode code 736 = .ok (.iaload, 1) := by decide +kernel
theorem eLa_law_737 : decode code 737 = .ok (.invokevirtual 101, 3) := by decide +kernel
theorem eLa_law_740 : decode code 740 = .ok (.if_icmp .eq 741, 3) := by decide +kernel
theorem eLa_law_743 : decode code 743 = .ok (.iconst 0, 1) := by decide +kernel
theorem eLa_law_744 : decode code 744 = .ok (.ireturn, 1) := by decide +kernel
theorem eLa_law_745 : decode code 745 = .ok (.aload_n 1, 1) := by decide +kernel
theorem eLa_law_746 : decode code 746 = .ok (.aload_n 0, 1) := by decide +kernel
theorem eLa_law_747 : decode code 747 = .ok (.iload 4, 2) := by decide +kernel
theorem eLa_law_749 : decode code 749 = .ok (.iconst 1, 1) := by decide +kernel
theorem eLa_law_750 : decode code 750 = .ok (.iadd, 1) := by decide +kernel
theorem eLa_law_751 : decode code 751 = .ok (.iaload, 1) := by decide +kernel
theorem eLa_law_752 : decode code 752 = .ok (.aload_n 0, 1) := by decide +kernel
theorem eLa_law_753 : decode code 753 = .ok (.iload 4, 2) := by decide +kernel
theorem eLa_law_755 : decode code 755 = .ok (.iconst 2, 1) := by decide +kernel
theorem eLa_law_756 : decode code 756 = .ok (.iadd, 1) := by decide +kernel
theorem eLa_law_757 : decode code 757 = .ok (.iaload, 1) := by decide +kernel
theorem eLa_law_758 : decode code 758 = .ok (.invokevirtual 102, 3) := by decide +kernel
theorem eLa_law_761 : decode code 761 = .ok (.aload_n 2, 1) := by decide +kernel
theorem eLa_law_762 : decode code 762 = .ok (.aload_n 0, 1) := by decide +kernel
theorem eLa_law_763 : decode code 763 = .ok (.iload 4, 2) := by decide +kernel
theorem eLa_law_765 : decode code 765 = .ok (.iconst 1, 1) := by decide +kernel
theorem eLa_law_766 : decode code 766 = .ok (.iadd, 1) := by decide +kernel
theorem eLa_law_767 : decode code 767 = .ok (.iaload, 1) := by decide +kernel
theorem eLa_law_768 : decode code 768 = .ok (.aload_n 0, 1) := by decide +kernel
theorem eLa_law_769 : decode code 769 = .ok (.iload 4, 2) := by decide +kernel
theorem eLa_law_771 : decode code 771 = .ok (.iconst 2, 1) := by decide +kernel
theorem eLa_law_772 : decode code 772 = .ok (.iadd, 1) := by decide +kernel
theorem eLa_law_773 : decode code 773 = .ok (.iaload, 1) := by decide +kernel
theorem eLa_law_774 : decode code 774 = .ok (.invokevirtual 105, 3) := by decide +kernel
theorem eLa_law_777 : decode code 777 = .ok (.if_icmp .eq 704, 3) := by decide +kernel
theorem eLa_law_780 : decode code 780 = .ok (.iconst 0, 1) := by decide +kernel
theorem eLa_law_781 : decode code 781 = .ok (.ireturn, 1) := by decide +kernel
theorem eLa_law_782 : decode code 782 = .ok (.aload_n 1, 1) := by decide +kernel
theorem eLa_law_783 : decode code 783 = .ok (.invokevirtual 106, 3) := by decide +kernel
theorem eLa_law_786 : decode code 786 = .ok (.aload_n 2, 1) := by decide +kernel
theorem eLa_law_787 : decode code 787 = .ok (.invokevirtual 109, 3) := by decide +kernel
theorem eLa_law_790 : decode code 790 = .ok (.if_icmp .eq 691, 3) := by decide +kernel
theorem eLa_law_793 : decode code 793 = .ok (.iconst 0, 1) := by decide +kernel
theorem eLa_law_794 : decode code 794 = .ok (.ireturn, 1) := by decide +kernel
theorem eLa_law_795 : decode code 795 = .ok (.aload_n 1, 1) := by decide +kernel
theorem eLa_law_796 : decode code 796 = .ok (.aload_n 0, 1) := by decide +kernel
theorem eLa_law_797 : decode code 797 = .ok (.iload 4, 2) := by decide +kernel
theorem eLa_law_799 : decode code 799 = .ok (.iconst 1, 1) := by decide +kernel
theorem eLa_law_800 : decode code 800 = .ok (.iadd, 1) := by decide +kernel
theorem eLa_law_801 : decode code 801 = .ok (.iaload, 1) := by decide +kernel
theorem eLa_law_802 : decode code 802 = .ok (.invokevirtual 110, 3) := by decide +kernel
theorem eLa_law_805 : decode code 805 = .ok (.aload_n 2, 1) := by decide +kernel
theorem eLa_law_806 : decode code 806 = .ok (.aload_n 0, 1) := by decide +kernel
theorem eLa_law_807 : decode code 807 = .ok (.iload 4, 2) := by decide +kernel
theorem eLa_law_809 : decode code 809 = .ok (.iconst 1, 1) := by decide +kernel
theorem eLa_law_810 : decode code 810 = .ok (.iadd, 1) := by decide +kernel
theorem eLa_law_811 : decode code 811 = .ok (.iaload, 1) := by decide +kernel
theorem eLa_law_812 : decode code 812 = .ok (.invokevirtual 113, 3) := by decide +kernel
theorem eLa_law_815 : decode code 815 = .ok (.if_icmp .eq 666, 3) := by decide +kernel
theorem eLa_law_818 : decode code 818 = .ok (.iconst 0, 1) := by decide +kernel
theorem eLa_law_819 : decode code 819 = .ok (.ireturn, 1) := by decide +kernel
theorem eLa_law_820 : decode code 820 = .ok (.aload_n 1, 1) := by decide +kernel
theorem eLa_law_821 : decode code 821 = .ok (.aload_n 0, 1) := by decide +kernel
theorem eLa_law_822 : decode code 822 = .ok (.iload 4, 2) := by decide +kernel
theorem eLa_law_824 : decode code 824 = .ok (.iconst 1, 1) := by decide +kernel
theorem eLa_law_825 : decode code 825 = .ok (.iadd, 1) := by decide +kernel
theorem eLa_law_826 : decode code 826 = .ok (.iaload, 1) := by decide +kernel
theorem eLa_law_827 : decode code 827 = .ok (.aload_n 0, 1) := by decide +kernel
theorem eLa_law_828 : decode code 828 = .ok (.iload 4, 2) := by decide +kernel
theorem eLa_law_830 : decode code 830 = .ok (.iconst 2, 1) := by decide +kernel
theorem eLa_law_831 : decode code 831 = .ok (.iadd, 1) := by decide +kernel
theorem eLa_law_832 : decode code 832 = .ok (.iaload, 1) := by decide +kernel
theorem eLa_law_833 : decode code 833 = .ok (.invokevirtual 114, 3) := by decide +kernel
theorem eLa_law_836 : decode code 836 = .ok (.aload_n 2, 1) := by decide +kernel
theorem eLa_law_837 : decode code 837 = .ok (.aload_n 0, 1) := by decide +kernel
theorem eLa_law_838 : decode code 838 = .ok (.iload 4, 2) := by decide +kernel
theorem eLa_law_840 : decode code 840 = .ok (.iconst 1, 1) := by decide +kernel
theorem eLa_law_841 : decode code 841 = .ok (.iadd, 1) := by decide +kernel
theorem eLa_law_842 : decode code 842 = .ok (.iaload, 1) := by decide +kernel
theorem eLa_law_843 : decode code 843 = .ok (.aload_n 0, 1) := by decide +kernel
theorem eLa_law_844 : decode code 844 = .ok (.iload 4, 2) := by decide +kernel
theorem eLa_law_846 : decode code 846 = .ok (.iconst 2, 1) := by decide +kernel
theorem eLa_law_847 : decode code 847 = .ok (.iadd, 1) := by decide +kernel
theorem eLa_law_848 : decode code 848 = .ok (.iaload, 1) := by decide +kernel
theorem eLa_law_849 : decode code 849 = .ok (.invokevirtual 117, 3) := by decide +kernel
theorem eLa_law_852 : decode code 852 = .ok (.if_icmp .eq 629, 3) := by decide +kernel
theorem eLa_law_855 : decode code 855 = .ok (.iconst 0, 1) := by decide +kernel
theorem eLa_law_856 : decode code 856 = .ok (.ireturn, 1) := by decide +kernel
theorem eLa_law_857 : decode code 857 = .ok (.aload_n 1, 1) := by decide +kernel
theorem eLa_law_858 : decode code 858 = .ok (.invokevirtual 118, 3) := by decide +kernel
theorem eLa_law_861 : decode code 861 = .ok (.aload_n 2, 1) := by decide +kernel
theorem eLa_law_862 : decode code 862 = .ok (.invokevirtual 121, 3) := by decide +kernel
theorem eLa_law_865 : decode code 865 = .ok (.if_icmp .eq 616, 3) := by decide +kernel
theorem eLa_law_868 : decode code 868 = .ok (.iconst 0, 1) := by decide +kernel
theorem eLa_law_869 : decode code 869 = .ok (.ireturn, 1) := by decide +kernel
theorem eLa_law_870 : decode code 870 = .ok (.aload_n 1, 1) := by decide +kernel
theorem eLa_law_871 : decode code 871 = .ok (.aload_n 0, 1) := by decide +kernel
theorem eLa_law_872 : decode code 872 = .ok (.iload 4, 2) := by decide +kernel
theorem eLa_law_874 : decode code 874 = .ok (.iconst 1, 1) := by decide +kernel
theorem eLa_law_875 : decode code 875 = .ok (.iadd, 1) := by decide +kernel
theorem eLa_law_876 : decode code 876 = .ok (.iaload, 1) := by decide +kernel
theorem eLa_law_877 : decode code 877 = .ok (.invokevirtual 122, 3) := by decide +kernel
theorem eLa_law_880 : decode code 880 = .ok (.aload_n 2, 1) := by decide +kernel
theorem eLa_law_881 : decode code 881 = .ok (.aload_n 0, 1) := by decide +kernel
theorem eLa_law_882 : decode code 882 = .ok (.iload 4, 2) := by decide +kernel
theorem eLa_law_884 : decode code 884 = .ok (.iconst 1, 1) := by decide +kernel
theorem eLa_law_885 : decode code 885 = .ok (.iadd, 1) := by decide +kernel
theorem eLa_law_886 : decode code 886 = .ok (.iaload, 1) := by decide +kernel
theorem eLa_law_887 : decode code 887 = .ok (.invokevirtual 125, 3) := by decide +kernel
theorem eLa_law_890 : decode code 890 = .ok (.if_icmp .eq 591, 3) := by decide +kernel
theorem eLa_law_893 : decode code 893 = .ok (.iconst 0, 1) := by decide +kernel
theorem eLa_law_894 : decode code 894 = .ok (.ireturn, 1) := by decide +kernel
theorem eLa_law_895 : decode code 895 = .ok (.aload_n 1, 1) := by decide +kernel
theorem eLa_law_896 : decode code 896 = .ok (.aload_n 0, 1) := by decide +kernel
theorem eLa_law_897 : decode code 897 = .ok (.iload 4, 2) := by decide +kernel
theorem eLa_law_899 : decode code 899 = .ok (.iconst 1, 1) := by decide +kernel
theorem eLa_law_900 : decode code 900 = .ok (.iadd, 1) := by decide +kernel
theorem eLa_law_901 : decode code 901 = .ok (.iaload, 1) := by decide +kernel
theorem eLa_law_902 : decode code 902 = .ok (.aload_n 0, 1) := by decide +kernel
theorem eLa_law_903 : decode code 903 = .ok (.iload 4, 2) := by decide +kernel
theorem eLa_law_905 : decode code 905 = .ok (.iconst 2, 1) := by decide +kernel
theorem eLa_law_906 : decode code 906 = .ok (.iadd, 1) := by decide +kernel
theorem eLa_law_907 : decode code 907 = .ok (.iaload, 1) := by decide +kernel
theorem eLa_law_908 : decode code 908 = .ok (.invokevirtual 126, 3) := by decide +kernel
theorem eLa_law_911 : decode code 911 = .ok (.aload_n 2, 1) := by decide +kernel
theorem eLa_law_912 : decode code 912 = .ok (.aload_n 0, 1) := by decide +kernel
theorem eLa_law_913 : decode code 913 = .ok (.iload 4, 2) := by decide +kernel
theorem eLa_law_915 : decode code 915 = .ok (.iconst 1, 1) := by decide +kernel
theorem eLa_law_916 : decode code 916 = .ok (.iadd, 1) := by decide +kernel
theorem eLa_law_917 : decode code 917 = .ok (.iaload, 1) := by decide +kernel
theorem eLa_law_918 : decode code 918 = .ok (.aload_n 0, 1) := by decide +kernel
theorem eLa_law_919 : decode code 919 = .ok (.iload 4, 2) := by decide +kernel
theorem eLa_law_921 : decode code 921 = .ok (.iconst 2, 1) := by decide +kernel
theorem eLa_law_922 : decode code 922 = .ok (.iadd, 1) := by decide +kernel
theorem eLa_law_923 : decode code 923 = .ok (.iaload, 1) := by decide +kernel
theorem eLa_law_924 : decode code 924 = .ok (.invokevirtual 129, 3) := by decide +kernel
theorem eLa_law_927 : decode code 927 = .ok (.if_icmp .eq 554, 3) := by decide +kernel
theorem eLa_law_930 : decode code 930 = .ok (.iconst 0, 1) := by decide +kernel
theorem eLa_law_931 : decode code 931 = .ok (.ireturn, 1) := by decide +kernel
theorem eLa_law_932 : decode code 932 = .ok (.aload_n 1, 1) := by decide +kernel
theorem eLa_law_933 : decode code 933 = .ok (.invokevirtual 130, 3) := by decide +kernel
theorem eLa_law_936 : decode code 936 = .ok (.aload_n 2, 1) := by decide +kernel
theorem eLa_law_937 : decode code 937 = .ok (.invokevirtual 133, 3) := by decide +kernel
theorem eLa_law_940 : decode code 940 = .ok (.if_icmp .eq 541, 3) := by decide +kernel
theorem eLa_law_943 : decode code 943 = .ok (.iconst 0, 1) := by decide +kernel
theorem eLa_law_944 : decode code 944 = .ok (.ireturn, 1) := by decide +kernel
theorem eLa_law_945 : decode code 945 = .ok (.aload_n 1, 1) := by decide +kernel
theorem eLa_law_946 : decode code 946 = .ok (.aload_n 0, 1) := by decide +kernel
theorem eLa_law_947 : decode code 947 = .ok (.iload 4, 2) := by decide +kernel
theorem eLa_law_949 : decode code 949 = .ok (.iconst 1, 1) := by decide +kernel
theorem eLa_law_950 : decode code 950 = .ok (.iadd, 1) := by decide +kernel
theorem eLa_law_951 : decode code 951 = .ok (.iaload, 1) := by decide +kernel
theorem eLa_law_952 : decode code 952 = .ok (.invokevirtual 134, 3) := by decide +kernel
theorem eLa_law_955 : decode code 955 = .ok (.aload_n 2, 1) := by decide +kernel
theorem eLa_law_956 : decode code 956 = .ok (.aload_n 0, 1) := by decide +kernel
theorem eLa_law_957 : decode code 957 = .ok (.iload 4, 2) := by decide +kernel
theorem eLa_law_959 : decode code 959 = .ok (.iconst 1, 1) := by decide +kernel
theorem eLa_law_960 : decode code 960 = .ok (.iadd, 1) := by decide +kernel
theorem eLa_law_961 : decode code 961 = .ok (.iaload, 1) := by decide +kernel
theorem eLa_law_962 : decode code 962 = .ok (.invokevirtual 137, 3) := by decide +kernel
theorem eLa_law_965 : decode code 965 = .ok (.if_icmp .eq 516, 3) := by decide +kernel
theorem eLa_law_968 : decode code 968 = .ok (.iconst 0, 1) := by decide +kernel
theorem eLa_law_969 : decode code 969 = .ok (.ireturn, 1) := by decide +kernel
theorem eLa_law_970 : decode code 970 = .ok (.aload_n 1, 1) := by decide +kernel
theorem eLa_law_971 : decode code 971 = .ok (.aload_n 0, 1) := by decide +kernel
theorem eLa_law_972 : decode code 972 = .ok (.iload 4, 2) := by decide +kernel
theorem eLa_law_974 : decode code 974 = .ok (.iconst 1, 1) := by decide +kernel
theorem eLa_law_975 : decode code 975 = .ok (.iadd, 1) := by decide +kernel
theorem eLa_law_976 : decode code 976 = .ok (.iaload, 1) := by decide +kernel
theorem eLa_law_977 : decode code 977 = .ok (.aload_n 0, 1) := by decide +kernel
theorem eLa_law_978 : decode code 978 = .ok (.iload 4, 2) := by decide +kernel
theorem eLa_law_980 : decode code 980 = .ok (.iconst 2, 1) := by decide +kernel
theorem eLa_law_981 : decode code 981 = .ok (.iadd, 1) := by decide +kernel
theorem eLa_law_982 : decode code 982 = .ok (.iaload, 1) := by decide +kernel
theorem eLa_law_983 : decode code 983 = .ok (.invokevirtual 138, 3) := by decide +kernel
theorem eLa_law_986 : decode code 986 = .ok (.aload_n 2, 1) := by decide +kernel
theorem eLa_law_987 : decode code 987 = .ok (.aload_n 0, 1) := by decide +kernel
theorem eLa_law_988 : decode code 988 = .ok (.iload 4, 2) := by decide +kernel
theorem eLa_law_990 : decode code 990 = .ok (.iconst 1, 1) := by decide +kernel
theorem eLa_law_991 : decode code 991 = .ok (.iadd, 1) := by decide +kernel
theorem eLa_law_992 : decode code 992 = .ok (.iaload, 1) := by decide +kernel
theorem eLa_law_993 : decode code 993 = .ok (.aload_n 0, 1) := by decide +kernel
theorem eLa_law_994 : decode code 994 = .ok (.iload 4, 2) := by decide +kernel
theorem eLa_law_996 : decode code 996 = .ok (.iconst 2, 1) := by decide +kernel
theorem eLa_law_997 : decode code 997 = .ok (.iadd, 1) := by decide +kernel
theorem eLa_law_998 : decode code 998 = .ok (.iaload, 1) := by decide +kernel
theorem eLa_law_999 : decode code 999 = .ok (.invokevirtual 141, 3) := by decide +kernel
theorem eLa_law_1002 : decode code 1002 = .ok (.if_icmp .eq 479, 3) := by decide +kernel
theorem eLa_law_1005 : decode code 1005 = .ok (.iconst 0, 1) := by decide +kernel
theorem eLa_law_1006 : decode code 1006 = .ok (.ireturn, 1) := by decide +kernel
theorem eLa_law_1007 : decode code 1007 = .ok (.aload_n 1, 1) := by decide +kernel
theorem eLa_law_1008 : decode code 1008 = .ok (.aload_n 0, 1) := by decide +kernel
theorem eLa_law_1009 : decode code 1009 = .ok (.iload 4, 2) := by decide +kernel
theorem eLa_law_1011 : decode code 1011 = .ok (.iconst 1, 1) := by decide +kernel
theorem eLa_law_1012 : decode code 1012 = .ok (.iadd, 1) := by decide +kernel
theorem eLa_law_1013 : decode code 1013 = .ok (.iaload, 1) := by decide +kernel
theorem eLa_law_1014 : decode code 1014 = .ok (.invokevirtual 142, 3) := by decide +kernel
theorem eLa_law_1017 : decode code 1017 = .ok (.aload_n 2, 1) := by decide +kernel
theorem eLa_law_1018 : decode code 1018 = .ok (.aload_n 0, 1) := by decide +kernel
theorem eLa_law_1019 : decode code 1019 = .ok (.iload 4, 2) := by decide +kernel
theorem eLa_law_1021 : decode code 1021 = .ok (.iconst 1, 1) := by decide +kernel
theorem eLa_law_1022 : decode code 1022 = .ok (.iadd, 1) := by decide +kernel
theorem eLa_law_1023 : decode code 1023 = .ok (.iaload, 1) := by decide +kernel
theorem eLa_law_1024 : decode code 1024 = .ok (.invokevirtual 145, 3) := by decide +kernel
theorem eLa_law_1027 : decode code 1027 = .ok (.if_icmp .eq 454, 3) := by decide +kernel
theorem eLa_law_1030 : decode code 1030 = .ok (.iconst 0, 1) := by decide +kernel
theorem eLa_law_1031 : decode code 1031 = .ok (.ireturn, 1) := by decide +kernel
theorem eLa_law_1032 : decode code 1032 = .ok (.aload_n 1, 1) := by decide +kernel
theorem eLa_law_1033 : decode code 1033 = .ok (.aload_n 0, 1) := by decide +kernel
theorem eLa_law_1034 : decode code 1034 = .ok (.iload 4, 2) := by decide +kernel
theorem eLa_law_1036 : decode code 1036 = .ok (.iconst 1, 1) := by decide +kernel
theorem eLa_law_1037 : decode code 1037 = .ok (.iadd, 1) := by decide +kernel
theorem eLa_law_1038 : decode code 1038 = .ok (.iaload, 1) := by decide +kernel
theorem eLa_law_1039 : decode code 1039 = .ok (.invokevirtual 146, 3) := by decide +kernel
theorem eLa_law_1042 : decode code 1042 = .ok (.aload_n 2, 1) := by decide +kernel
theorem eLa_law_1043 : decode code 1043 = .ok (.aload_n 0, 1) := by decide +kernel
theorem eLa_law_1044 : decode code 1044 = .ok (.iload 4, 2) := by decide +kernel
theorem eLa_law_1046 : decode code 1046 = .ok (.iconst 1, 1) := by decide +kernel
theorem eLa_law_1047 : decode code 1047 = .ok (.iadd, 1) := by decide +kernel
theorem eLa_law_1048 : decode code 1048 = .ok (.iaload, 1) := by decide +kernel
theorem eLa_law_1049 : decode code 1049 = .ok (.invokevirtual 149, 3) := by decide +kernel
theorem eLa_law_1052 : decode code 1052 = .ok (.if_icmp .eq 429, 3) := by decide +kernel
theorem eLa_law_1055 : decode code 1055 = .ok (.iconst 0, 1) := by decide +kernel
theorem eLa_law_1056 : decode code 1056 = .ok (.ireturn, 1) := by decide +kernel
theorem eLa_law_1057 : decode code 1057 = .ok (.aload_n 1, 1) := by decide +kernel
theorem eLa_law_1058 : decode code 1058 = .ok (.invokevirtual 150, 3) := by decide +kernel
theorem eLa_law_1061 : decode code 1061 = .ok (.aload_n 2, 1) := by decide +kernel
theorem eLa_law_1062 : decode code 1062 = .ok (.invokevirtual 153, 3) := by decide +kernel
theorem eLa_law_1065 : decode code 1065 = .ok (.if_icmp .eq 416, 3) := by decide +kernel
theorem eLa_law_1068 : decode code 1068 = .ok (.iconst 0, 1) := by decide +kernel
theorem eLa_law_1069 : decode code 1069 = .ok (.ireturn, 1) := by decide +kernel
theorem eLa_law_1070 : decode code 1070 = .ok (.aload_n 1, 1) := by decide +kernel
theorem eLa_law_1071 : decode code 1071 = .ok (.aload_n 0, 1) := by decide +kernel
theorem eLa_law_1072 : decode code 1072 = .ok (.iload 4, 2) := by decide +kernel
theorem eLa_law_1074 : decode code 1074 = .ok (.iconst 1, 1) := by decide +kernel
theorem eLa_law_1075 : decode code 1075 = .ok (.iadd, 1) := by decide +kernel
theorem eLa_law_1076 : decode code 1076 = .ok (.iaload, 1) := by decide +kernel
theorem eLa_law_1077 : decode code 1077 = .ok (.aload_n 0, 1) := by decide +kernel
theorem eLa_law_1078 : decode code 1078 = .ok (.iload 4, 2) := by decide +kernel
theorem eLa_law_1080 : decode code 1080 = .ok (.iconst 2, 1) := by decide +kernel
theorem eLa_law_1081 : decode code 1081 = .ok (.iadd, 1) := by decide +kernel
theorem eLa_law_1082 : decode code 1082 = .ok (.iaload, 1) := by decide +kernel
theorem eLa_law_1083 : decode code 1083 = .ok (.aload_n 0, 1) := by decide +kernel
theorem eLa_law_1084 : decode code 1084 = .ok (.iload 4, 2) := by decide +kernel
theorem eLa_law_1086 : decode code 1086 = .ok (.iconst 3, 1) := by decide +kernel
theorem eLa_law_1087 : decode code 1087 = .ok (.iadd, 1) := by decide +kernel
theorem eLa_law_1088 : decode code 1088 = .ok (.iaload, 1) := by decide +kernel
theorem eLa_law_1089 : decode code 1089 = .ok (.invokevirtual 154, 3) := by decide +kernel
theorem eLa_law_1092 : decode code 1092 = .ok (.aload_n 2, 1) := by decide +kernel
theorem eLa_law_1093 : decode code 1093 = .ok (.aload_n 0, 1) := by decide +kernel
theorem eLa_law_1094 : decode code 1094 = .ok (.iload 4, 2) := by decide +kernel
theorem eLa_law_1096 : decode code 1096 = .ok (.iconst 1, 1) := by decide +kernel
theorem eLa_law_1097 : decode code 1097 = .ok (.iadd, 1) := by decide +kernel
theorem eLa_law_1098 : decode code 1098 = .ok (.iaload, 1) := by decide +kernel
theorem eLa_law_1099 : decode code 1099 = .ok (.aload_n 0, 1) := by decide +kernel
theorem eLa_law_1100 : decode code 1100 = .ok (.iload 4, 2) := by decide +kernel
theorem eLa_law_1102 : decode code 1102 = .ok (.iconst 2, 1) := by decide +kernel
theorem eLa_law_1103 : decode code 1103 = .ok (.iadd, 1) := by decide +kernel
theorem eLa_law_1104 : decode code 1104 = .ok (.iaload, 1) := by decide +kernel
theorem eLa_law_1105 : decode code 1105 = .ok (.aload_n 0, 1) := by decide +kernel
theorem eLa_law_1106 : decode code 1106 = .ok (.iload 4, 2) := by decide +kernel
theorem eLa_law_1108 : decode code 1108 = .ok (.iconst 3, 1) := by decide +kernel
theorem eLa_law_1109 : decode code 1109 = .ok (.iadd, 1) := by decide +kernel
theorem eLa_law_1110 : decode code 1110 = .ok (.iaload, 1) := by decide +kernel
theorem eLa_law_1111 : decode code 1111 = .ok (.invokevirtual 158, 3) := by decide +kernel
theorem eLa_law_1114 : decode code 1114 = .ok (.if_icmp .eq 367, 3) := by decide +kernel
theorem eLa_law_1117 : decode code 1117 = .ok (.iconst 0, 1) := by decide +kernel
theorem eLa_law_1118 : decode code 1118 = .ok (.ireturn, 1) := by decide +kernel
theorem eLa_law_1119 : decode code 1119 = .ok (.aload_n 1, 1) := by decide +kernel
theorem eLa_law_1120 : decode code 1120 = .ok (.aload_n 0, 1) := by decide +kernel
theorem eLa_law_1121 : decode code 1121 = .ok (.iload 4, 2) := by decide +kernel
theorem eLa_law_1123 : decode code 1123 = .ok (.iconst 1, 1) := by decide +kernel
theorem eLa_law_1124 : decode code 1124 = .ok (.iadd, 1) := by decide +kernel
theorem eLa_law_1125 : decode code 1125 = .ok (.iaload, 1) := by decide +kernel
theorem eLa_law_1126 : decode code 1126 = .ok (.aload_n 0, 1) := by decide +kernel
theorem eLa_law_1127 : decode code 1127 = .ok (.iload 4, 2) := by decide +kernel
theorem eLa_law_1129 : decode code 1129 = .ok (.iconst 2, 1) := by decide +kernel
theorem eLa_law_1130 : decode code 1130 = .ok (.iadd, 1) := by decide +kernel
theorem eLa_law_1131 : decode code 1131 = .ok (.iaload, 1) := by decide +kernel
theorem eLa_law_1132 : decode code 1132 = .ok (.invokevirtual 159, 3) := by decide +kernel
theorem eLa_law_1135 : decode code 1135 = .ok (.aload_n 2, 1) := by decide +kernel
theorem eLa_law_1136 : decode code 1136 = .ok (.aload_n 0, 1) := by decide +kernel
theorem eLa_law_1137 : decode code 1137 = .ok (.iload 4, 2) := by decide +kernel
theorem eLa_law_1139 : decode code 1139 = .ok (.iconst 1, 1) := by decide +kernel
theorem eLa_law_1140 : decode code 1140 = .ok (.iadd, 1) := by decide +kernel
theorem eLa_law_1141 : decode code 1141 = .ok (.iaload, 1) := by decide +kernel
theorem eLa_law_1142 : decode code 1142 = .ok (.aload_n 0, 1) := by decide +kernel
theorem eLa_law_1143 : decode code 1143 = .ok (.iload 4, 2) := by decide +kernel
theorem eLa_law_1145 : decode code 1145 = .ok (.iconst 2, 1) := by decide +kernel
theorem eLa_law_1146 : decode code 1146 = .ok (.iadd, 1) := by decide +kernel
theorem eLa_law_1147 : decode code 1147 = .ok (.iaload, 1) := by decide +kernel
theorem eLa_law_1148 : decode code 1148 = .ok (.invokevirtual 162, 3) := by decide +kernel
theorem eLa_law_1151 : decode code 1151 = .ok (.if_icmp .eq 330, 3) := by decide +kernel
theorem eLa_law_1154 : decode code 1154 = .ok (.iconst 0, 1) := by decide +kernel
theorem eLa_law_1155 : decode code 1155 = .ok (.ireturn, 1) := by decide +kernel
theorem eLa_law_1156 : decode code 1156 = .ok (.aload_n 1, 1) := by decide +kernel
theorem eLa_law_1157 : decode code 1157 = .ok (.aload_n 0, 1) := by decide +kernel
theorem eLa_law_1158 : decode code 1158 = .ok (.iload 4, 2) := by decide +kernel
theorem eLa_law_1160 : decode code 1160 = .ok (.iconst 1, 1) := by decide +kernel
theorem eLa_law_1161 : decode code 1161 = .ok (.iadd, 1) := by decide +kernel
theorem eLa_law_1162 : decode code 1162 = .ok (.iaload, 1) := by decide +kernel
theorem eLa_law_1163 : decode code 1163 = .ok (.invokevirtual 163, 3) := by decide +kernel
theorem eLa_law_1166 : decode code 1166 = .ok (.aload_n 2, 1) := by decide +kernel
theorem eLa_law_1167 : decode code 1167 = .ok (.aload_n 0, 1) := by decide +kernel
theorem eLa_law_1168 : decode code 1168 = .ok (.iload 4, 2) := by decide +kernel
theorem eLa_law_1170 : decode code 1170 = .ok (.iconst 1, 1) := by decide +kernel
theorem eLa_law_1171 : decode code 1171 = .ok (.iadd, 1) := by decide +kernel
theorem eLa_law_1172 : decode code 1172 = .ok (.iaload, 1) := by decide +kernel
theorem eLa_law_1173 : decode code 1173 = .ok (.invokevirtual 166, 3) := by decide +kernel
theorem eLa_law_1176 : decode code 1176 = .ok (.if_icmp .eq 305, 3) := by decide +kernel
theorem eLa_law_1179 : decode code 1179 = .ok (.iconst 0, 1) := by decide +kernel
theorem eLa_law_1180 : decode code 1180 = .ok (.ireturn, 1) := by decide +kernel
theorem eLa_law_1181 : decode code 1181 = .ok (.aload_n 1, 1) := by decide +kernel
theorem eLa_law_1182 : decode code 1182 = .ok (.aload_n 0, 1) := by decide +kernel
theorem eLa_law_1183 : decode code 1183 = .ok (.iload 4, 2) := by decide +kernel
theorem eLa_law_1185 : decode code 1185 = .ok (.iconst 1, 1) := by decide +kernel
theorem eLa_law_1186 : decode code 1186 = .ok (.iadd, 1) := by decide +kernel
theorem eLa_law_1187 : decode code 1187 = .ok (.iaload, 1) := by decide +kernel
theorem eLa_law_1188 : decode code 1188 = .ok (.aload_n 0, 1) := by decide +kernel
theorem eLa_law_1189 : decode code 1189 = .ok (.iload 4, 2) := by decide +kernel
theorem eLa_law_1191 : decode code 1191 = .ok (.iconst 2, 1) := by decide +kernel
theorem eLa_law_1192 : decode code 1192 = .ok (.iadd, 1) := by decide +kernel
theorem eLa_law_1193 : decode code 1193 = .ok (.iaload, 1) := by decide +kernel
theorem eLa_law_1194 : decode code 1194 = .ok (.invokevirtual 167, 3) := by decide +kernel
theorem eLa_law_1197 : decode code 1197 = .ok (.aload_n 2, 1) := by decide +kernel
theorem eLa_law_1198 : decode code 1198 = .ok (.aload_n 0, 1) := by decide +kernel
theorem eLa_law_1199 : decode code 1199 = .ok (.iload 4, 2) := by decide +kernel
theorem eLa_law_1201 : decode code 1201 = .ok (.iconst 1, 1) := by decide +kernel
theorem eLa_law_1202 : decode code 1202 = .ok (.iadd, 1) := by decide +kernel
theorem eLa_law_1203 : decode code 1203 = .ok (.iaload, 1) := by decide +kernel
theorem eLa_law_1204 : decode code 1204 = .ok (.aload_n 0, 1) := by decide +kernel
theorem eLa_law_1205 : decode code 1205 = .ok (.iload 4, 2) := by decide +kernel
theorem eLa_law_1207 : decode code 1207 = .ok (.iconst 2, 1) := by decide +kernel
theorem eLa_law_1208 : decode code 1208 = .ok (.iadd, 1) := by decide +kernel
theorem eLa_law_1209 : decode code 1209 = .ok (.iaload, 1) := by decide +kernel
theorem eLa_law_1210 : decode code 1210 = .ok (.invokevirtual 170, 3) := by decide +kernel
theorem eLa_law_1213 : decode code 1213 = .ok (.if_icmp .eq 268, 3) := by decide +kernel
theorem eLa_law_1216 : decode code 1216 = .ok (.iconst 0, 1) := by decide +kernel
theorem eLa_law_1217 : decode code 1217 = .ok (.ireturn, 1) := by decide +kernel
theorem eLa_law_1218 : decode code 1218 = .ok (.aload_n 1, 1) := by decide +kernel
theorem eLa_law_1219 : decode code 1219 = .ok (.invokevirtual 171, 3) := by decide +kernel
theorem eLa_law_1222 : decode code 1222 = .ok (.aload_n 2, 1) := by decide +kernel
theorem eLa_law_1223 : decode code 1223 = .ok (.invokevirtual 174, 3) := by decide +kernel
theorem eLa_law_1226 : decode code 1226 = .ok (.if_icmp .eq 255, 3) := by decide +kernel
theorem eLa_law_1229 : decode code 1229 = .ok (.iconst 0, 1) := by decide +kernel
theorem eLa_law_1230 : decode code 1230 = .ok (.ireturn, 1) := by decide +kernel
theorem eLa_law_1231 : decode code 1231 = .ok (.aload_n 1, 1) := by decide +kernel
theorem eLa_law_1232 : decode code 1232 = .ok (.aload_n 0, 1) := by decide +kernel
theorem eLa_law_1233 : decode code 1233 = .ok (.iload 4, 2) := by decide +kernel
theorem eLa_law_1235 : decode code 1235 = .ok (.iconst 1, 1) := by decide +kernel
theorem eLa_law_1236 : decode code 1236 = .ok (.iadd, 1) := by decide +kernel
theorem eLa_law_1237 : decode code 1237 = .ok (.iaload, 1) := by decide +kernel
theorem eLa_law_1238 : decode code 1238 = .ok (.invokevirtual 175, 3) := by decide +kernel
theorem eLa_law_1241 : decode code 1241 = .ok (.aload_n 2, 1) := by decide +kernel
theorem eLa_law_1242 : decode code 1242 = .ok (.aload_n 0, 1) := by decide +kernel
theorem eLa_law_1243 : decode code 1243 = .ok (.iload 4, 2) := by decide +kernel
theorem eLa_law_1245 : decode code 1245 = .ok (.iconst 1, 1) := by decide +kernel
theorem eLa_law_1246 : decode code 1246 = .ok (.iadd, 1) := by decide +kernel
theorem eLa_law_1247 : decode code 1247 = .ok (.iaload, 1) := by decide +kernel
theorem eLa_law_1248 : decode code 1248 = .ok (.invokevirtual 178, 3) := by decide +kernel
theorem eLa_law_1251 : decode code 1251 = .ok (.if_icmp .eq 230, 3) := by decide +kernel
theorem eLa_law_1254 : decode code 1254 = .ok (.iconst 0, 1) := by decide +kernel
theorem eLa_law_1255 : decode code 1255 = .ok (.ireturn, 1) := by decide +kernel
theorem eLa_law_1256 : decode code 1256 = .ok (.aload_n 1, 1) := by decide +kernel
theorem eLa_law_1257 : decode code 1257 = .ok (.aload_n 0, 1) := by decide +kernel
theorem eLa_law_1258 : decode code 1258 = .ok (.iload 4, 2) := by decide +kernel
theorem eLa_law_1260 : decode code 1260 = .ok (.iconst 1, 1) := by decide +kernel
theorem eLa_law_1261 : decode code 1261 = .ok (.iadd, 1) := by decide +kernel
theorem eLa_law_1262 : decode code 1262 = .ok (.iaload, 1) := by decide +kernel
theorem eLa_law_1263 : decode code 1263 = .ok (.invokevirtual 179, 3) := by decide +kernel
theorem eLa_law_1266 : decode code 1266 = .ok (.aload_n 2, 1) := by decide +kernel
theorem eLa_law_1267 : decode code 1267 = .ok (.aload_n 0, 1) := by decide +kernel
theorem eLa_law_1268 : decode code 1268 = .ok (.iload 4, 2) := by decide +kernel
theorem eLa_law_1270 : decode code 1270 = .ok (.iconst 1, 1) := by decide +kernel
theorem eLa_law_1271 : decode code 1271 = .ok (.iadd, 1) := by decide +kernel
theorem eLa_law_1272 : decode code 1272 = .ok (.iaload, 1) := by decide +kernel
theorem eLa_law_1273 : decode code 1273 = .ok (.invokevirtual 182, 3) := by decide +kernel
theorem eLa_law_1276 : decode code 1276 = .ok (.if_icmp .eq 205, 3) := by decide +kernel
theorem eLa_law_1279 : decode code 1279 = .ok (.iconst 0, 1) := by decide +kernel
theorem eLa_law_1280 : decode code 1280 = .ok (.ireturn, 1) := by decide +kernel
theorem eLa_law_1281 : decode code 1281 = .ok (.aload_n 1, 1) := by decide +kernel
theorem eLa_law_1282 : decode code 1282 = .ok (.aload_n 0, 1) := by decide +kernel
theorem eLa_law_1283 : decode code 1283 = .ok (.iload 4, 2) := by decide +kernel
theorem eLa_law_1285 : decode code 1285 = .ok (.iconst 1, 1) := by decide +kernel
theorem eLa_law_1286 : decode code 1286 = .ok (.iadd, 1) := by decide +kernel
theorem eLa_law_1287 : decode code 1287 = .ok (.iaload, 1) := by decide +kernel
theorem eLa_law_1288 : decode code 1288 = .ok (.aload_n 0, 1) := by decide +kernel
theorem eLa_law_1289 : decode code 1289 = .ok (.iload 4, 2) := by decide +kernel
theorem eLa_law_1291 : decode code 1291 = .ok (.iconst 2, 1) := by decide +kernel
theorem eLa_law_1292 : decode code 1292 = .ok (.iadd, 1) := by decide +kernel
theorem eLa_law_1293 : decode code 1293 = .ok (.iaload, 1) := by decide +kernel
theorem eLa_law_1294 : decode code 1294 = .ok (.invokevirtual 183, 3) := by decide +kernel
theorem eLa_law_1297 : decode code 1297 = .ok (.aload_n 2, 1) := by decide +kernel
theorem eLa_law_1298 : decode code 1298 = .ok (.aload_n 0, 1) := by decide +kernel
theorem eLa_law_1299 : decode code 1299 = .ok (.iload 4, 2) := by decide +kernel
theorem eLa_law_1301 : decode code 1301 = .ok (.iconst 1, 1) := by decide +kernel
theorem eLa_law_1302 : decode code 1302 = .ok (.iadd, 1) := by decide +kernel
theorem eLa_law_1303 : decode code 1303 = .ok (.iaload, 1) := by decide +kernel
theorem eLa_law_1304 : decode code 1304 = .ok (.aload_n 0, 1) := by decide +kernel
theorem eLa_law_1305 : decode code 1305 = .ok (.iload 4, 2) := by decide +kernel
theorem eLa_law_1307 : decode code 1307 = .ok (.iconst 2, 1) := by decide +kernel
theorem eLa_law_1308 : decode code 1308 = .ok (.iadd, 1) := by decide +kernel
theorem eLa_law_1309 : decode code 1309 = .ok (.iaload, 1) := by decide +kernel
theorem eLa_law_1310 : decode code 1310 = .ok (.invokevirtual 186, 3) := by decide +kernel
theorem eLa_law_1313 : decode code 1313 = .ok (.if_icmp .eq 168, 3) := by decide +kernel
theorem eLa_law_1316 : decode code 1316 = .ok (.iconst 0, 1) := by decide +kernel
theorem eLa_law_1317 : decode code 1317 = .ok (.ireturn, 1) := by decide +kernel
theorem eLa_law_1318 : decode code 1318 = .ok (.aload_n 1, 1) := by decide +kernel
theorem eLa_law_1319 : decode code 1319 = .ok (.aload_n 0, 1) := by decide +kernel
theorem eLa_law_1320 : decode code 1320 = .ok (.iload 4, 2) := by decide +kernel
theorem eLa_law_1322 : decode code 1322 = .ok (.iconst 1, 1) := by decide +kernel
theorem eLa_law_1323 : decode code 1323 = .ok (.iadd, 1) := by decide +kernel
theorem eLa_law_1324 : decode code 1324 = .ok (.iaload, 1) := by decide +kernel
theorem eLa_law_1325 : decode code 1325 = .ok (.aload_n 0, 1) := by decide +kernel
theorem eLa_law_1326 : decode code 1326 = .ok (.iload 4, 2) := by decide +kernel
theorem eLa_law_1328 : decode code 1328 = .ok (.iconst 2, 1) := by decide +kernel
theorem eLa_law_1329 : decode code 1329 = .ok (.iadd, 1) := by decide +kernel
theorem eLa_law_1330 : decode code 1330 = .ok (.iaload, 1) := by decide +kernel
theorem eLa_law_1331 : decode code 1331 = .ok (.invokevirtual 187, 3) := by decide +kernel
theorem eLa_law_1334 : decode code 1334 = .ok (.aload_n 2, 1) := by decide +kernel
theorem eLa_law_1335 : decode code 1335 = .ok (.aload_n 0, 1) := by decide +kernel
theorem eLa_law_1336 : decode code 1336 = .ok (.iload 4, 2) := by decide +kernel
theorem eLa_law_1338 : decode code 1338 = .ok (.iconst 1, 1) := by decide +kernel
theorem eLa_law_1339 : decode code 1339 = .ok (.iadd, 1) := by decide +kernel
theorem eLa_law_1340 : decode code 1340 = .ok (.iaload, 1) := by decide +kernel
theorem eLa_law_1341 : decode code 1341 = .ok (.aload_n 0, 1) := by decide +kernel
theorem eLa_law_1342 : decode code 1342 = .ok (.iload 4, 2) := by decide +kernel
theorem eLa_law_1344 : decode code 1344 = .ok (.iconst 2, 1) := by decide +kernel
theorem eLa_law_1345 : decode code 1345 = .ok (.iadd, 1) := by decide +kernel
theorem eLa_law_1346 : decode code 1346 = .ok (.iaload, 1) := by decide +kernel
theorem eLa_law_1347 : decode code 1347 = .ok (.invokevirtual 190, 3) := by decide +kernel
theorem eLa_law_1350 : decode code 1350 = .ok (.if_icmp .eq 131, 3) := by decide +kernel
theorem eLa_law_1353 : decode code 1353 = .ok (.iconst 0, 1) := by decide +kernel
theorem eLa_law_1354 : decode code 1354 = .ok (.ireturn, 1) := by decide +kernel
theorem eLa_law_1355 : decode code 1355 = .ok (.aload_n 1, 1) := by decide +kernel
theorem eLa_law_1356 : decode code 1356 = .ok (.invokevirtual 191, 3) := by decide +kernel
theorem eLa_law_1359 : decode code 1359 = .ok (.aload_n 2, 1) := by decide +kernel
theorem eLa_law_1360 : decode code 1360 = .ok (.invokevirtual 194, 3) := by decide +kernel
theorem eLa_law_1363 : decode code 1363 = .ok (.if_icmp .eq 118, 3) := by decide +kernel
theorem eLa_law_1366 : decode code 1366 = .ok (.iconst 0, 1) := by decide +kernel
theorem eLa_law_1367 : decode code 1367 = .ok (.ireturn, 1) := by decide +kernel
theorem eLa_law_1368 : decode code 1368 = .ok (.aload_n 1, 1) := by decide +kernel
theorem eLa_law_1369 : decode code 1369 = .ok (.aload_n 0, 1) := by decide +kernel
theorem eLa_law_1370 : decode code 1370 = .ok (.iload 4, 2) := by decide +kernel
theorem eLa_law_1372 : decode code 1372 = .ok (.iconst 1, 1) := by decide +kernel
theorem eLa_law_1373 : decode code 1373 = .ok (.iadd, 1) := by decide +kernel
theorem eLa_law_1374 : decode code 1374 = .ok (.iaload, 1) := by decide +kernel
theorem eLa_law_1375 : decode code 1375 = .ok (.aload_n 0, 1) := by decide +kernel
theorem eLa_law_1376 : decode code 1376 = .ok (.iload 4, 2) := by decide +kernel
theorem eLa_law_1378 : decode code 1378 = .ok (.iconst 2, 1) := by decide +kernel
theorem eLa_law_1379 : decode code 1379 = .ok (.iadd, 1) := by decide +kernel
theorem eLa_law_1380 : decode code 1380 = .ok (.iaload, 1) := by decide +kernel
theorem eLa_law_1381 : decode code 1381 = .ok (.aload_n 0, 1) := by decide +kernel
theorem eLa_law_1382 : decode code 1382 = .ok (.iload 4, 2) := by decide +kernel
theorem eLa_law_1384 : decode code 1384 = .ok (.iconst 3, 1) := by decide +kernel
theorem eLa_law_1385 : decode code 1385 = .ok (.iadd, 1) := by decide +kernel
theorem eLa_law_1386 : decode code 1386 = .ok (.iaload, 1) := by decide +kernel
theorem eLa_law_1387 : decode code 1387 = .ok (.invokevirtual 195, 3) := by decide +kernel
theorem eLa_law_1390 : decode code 1390 = .ok (.aload_n 2, 1) := by decide +kernel
theorem eLa_law_1391 : decode code 1391 = .ok (.aload_n 0, 1) := by decide +kernel
theorem eLa_law_1392 : decode code 1392 = .ok (.iload 4, 2) := by decide +kernel
theorem eLa_law_1394 : decode code 1394 = .ok (.iconst 1, 1) := by decide +kernel
theorem eLa_law_1395 : decode code 1395 = .ok (.iadd, 1) := by decide +kernel
theorem eLa_law_1396 : decode code 1396 = .ok (.iaload, 1) := by decide +kernel
theorem eLa_law_1397 : decode code 1397 = .ok (.aload_n 0, 1) := by decide +kernel
theorem eLa_law_1398 : decode code 1398 = .ok (.iload 4, 2) := by decide +kernel
theorem eLa_law_1400 : decode code 1400 = .ok (.iconst 2, 1) := by decide +kernel
theorem eLa_law_1401 : decode code 1401 = .ok (.iadd, 1) := by decide +kernel
theorem eLa_law_1402 : decode code 1402 = .ok (.iaload, 1) := by decide +kernel
theorem eLa_law_1403 : decode code 1403 = .ok (.aload_n 0, 1) := by decide +kernel
theorem eLa_law_1404 : decode code 1404 = .ok (.iload 4, 2) := by decide +kernel
theorem eLa_law_1406 : decode code 1406 = .ok (.iconst 3, 1) := by decide +kernel
theorem eLa_law_1407 : decode code 1407 = .ok (.iadd, 1) := by decide +kernel
theorem eLa_law_1408 : decode code 1408 = .ok (.iaload, 1) := by decide +kernel
theorem eLa_law_1409 : decode code 1409 = .ok (.invokevirtual 198, 3) := by decide +kernel
theorem eLa_law_1412 : decode code 1412 = .ok (.if_icmp .eq 69, 3) := by decide +kernel
theorem eLa_law_1415 : decode code 1415 = .ok (.iconst 0, 1) := by decide +kernel
theorem eLa_law_1416 : decode code 1416 = .ok (.ireturn, 1) := by decide +kernel
theorem eLa_law_1417 : decode code 1417 = .ok (.aload_n 1, 1) := by decide +kernel
theorem eLa_law_1418 : decode code 1418 = .ok (.invokevirtual 199, 3) := by decide +kernel
theorem eLa_law_1421 : decode code 1421 = .ok (.aload_n 2, 1) := by decide +kernel
theorem eLa_law_1422 : decode code 1422 = .ok (.invokevirtual 202, 3) := by decide +kernel
theorem eLa_law_1425 : decode code 1425 = .ok (.if_icmp .eq 56, 3) := by decide +kernel
theorem eLa_law_1428 : decode code 1428 = .ok (.iconst 0, 1) := by decide +kernel
theorem eLa_law_1429 : decode code 1429 = .ok (.ireturn, 1) := by decide +kernel
theorem eLa_law_1430 : decode code 1430 = .ok (.aload_n 1, 1) := by decide +kernel
theorem eLa_law_1431 : decode code 1431 = .ok (.invokevirtual 203, 3) := by decide +kernel
theorem eLa_law_1434 : decode code 1434 = .ok (.aload_n 2, 1) := by decide +kernel
theorem eLa_law_1435 : decode code 1435 = .ok (.invokevirtual 206, 3) := by decide +kernel
theorem eLa_law_1438 : decode code 1438 = .ok (.if_icmp .eq 43, 3) := by decide +kernel
theorem eLa_law_1441 : decode code 1441 = .ok (.iconst 0, 1) := by decide +kernel
theorem eLa_law_1442 : decode code 1442 = .ok (.ireturn, 1) := by decide +kernel
theorem eLa_law_1443 : decode code 1443 = .ok (.aload_n 1, 1) := by decide +kernel
theorem eLa_law_1444 : decode code 1444 = .ok (.invokevirtual 207, 3) := by decide +kernel
theorem eLa_law_1447 : decode code 1447 = .ok (.aload_n 2, 1) := by decide +kernel
theorem eLa_law_1448 : decode code 1448 = .ok (.invokevirtual 210, 3) := by decide +kernel
theorem eLa_law_1451 : decode code 1451 = .ok (.if_icmp .eq 30, 3) := by decide +kernel
theorem eLa_law_1454 : decode code 1454 = .ok (.iconst 0, 1) := by decide +kernel
theorem eLa_law_1455 : decode code 1455 = .ok (.ireturn, 1) := by decide +kernel
theorem eLa_law_1456 : decode code 1456 = .ok (.aload_n 1, 1) := by decide +kernel
theorem eLa_law_1457 : decode code 1457 = .ok (.aload_n 0, 1) := by decide +kernel
theorem eLa_law_1458 : decode code 1458 = .ok (.iload 4, 2) := by decide +kernel
theorem eLa_law_1460 : decode code 1460 = .ok (.iconst 1, 1) := by decide +kernel
theorem eLa_law_1461 : decode code 1461 = .ok (.iadd, 1) := by decide +kernel
theorem eLa_law_1462 : decode code 1462 = .ok (.iaload, 1) := by decide +kernel
theorem eLa_law_1463 : decode code 1463 = .ok (.invokevirtual 211, 3) := by decide +kernel
theorem eLa_law_1466 : decode code 1466 = .ok (.aload_n 2, 1) := by decide +kernel
theorem eLa_law_1467 : decode code 1467 = .ok (.aload_n 0, 1) := by decide +kernel
theorem eLa_law_1468 : decode code 1468 = .ok (.iload 4, 2) := by decide +kernel
theorem eLa_law_1470 : decode code 1470 = .ok (.iconst 1, 1) := by decide +kernel
theorem eLa_law_1471 : decode code 1471 = .ok (.iadd, 1) := by decide +kernel
theorem eLa_law_1472 : decode code 1472 = .ok (.iaload, 1) := by decide +kernel
theorem eLa_law_1473 : decode code 1473 = .ok (.invokevirtual 214, 3) := by decide +kernel
theorem eLa_law_1476 : decode code 1476 = .ok (.if_icmp .eq 5, 3) := by decide +kernel
theorem eLa_law_1479 : decode code 1479 = .ok (.iconst 0, 1) := by decide +kernel
theorem eLa_law_1480 : decode code 1480 = .ok (.ireturn, 1) := by decide +kernel
theorem eLa_law_1481 : decode code 1481 = .ok (.iinc 4 6, 3) := by decide +kernel
theorem eLa_law_1484 : decode code 1484 = .ok (.goto (-1461), 3) := by decide +kernel
theorem eLa_law_1487 : decode code 1487 = .ok (.iconst 1, 1) := by decide +kernel
theorem eLa_law_1488 : decode code 1488 = .ok (.ireturn, 1) := by decide +kernel
