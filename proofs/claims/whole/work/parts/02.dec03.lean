theorem eMd_whyNot_53 : decode prog_14_method_43_code 53 = .ok (.ireturn, 1) := by decide +kernel
theorem eMd_whyNot_54 : decode prog_14_method_43_code 54 = .ok (.aload_n 0, 1) := by decide +kernel
theorem eMd_whyNot_55 : decode prog_14_method_43_code 55 = .ok (.getfield 252, 3) := by decide +kernel
theorem eMd_whyNot_58 : decode prog_14_method_43_code 58 = .ok (.invokestatic 261, 3) := by decide +kernel
theorem eMd_whyNot_61 : decode prog_14_method_43_code 61 = .ok (.aload_n 0, 1) := by decide +kernel
theorem eMd_whyNot_62 : decode prog_14_method_43_code 62 = .ok (.getfield 13, 3) := by decide +kernel
theorem eMd_whyNot_65 : decode prog_14_method_43_code 65 = .ok (.iconst 3, 1) := by decide +kernel
theorem eMd_whyNot_66 : decode prog_14_method_43_code 66 = .ok (.iaload, 1) := by decide +kernel
theorem eMd_whyNot_67 : decode prog_14_method_43_code 67 = .ok (.if_icmp .le 5, 3) := by decide +kernel
theorem eMd_whyNot_70 : decode prog_14_method_43_code 70 = .ok (.iconst 4, 1) := by decide +kernel
theorem eMd_whyNot_71 : decode prog_14_method_43_code 71 = .ok (.ireturn, 1) := by decide +kernel
theorem eMd_whyNot_72 : decode prog_14_method_43_code 72 = .ok (.aload_n 0, 1) := by decide +kernel
theorem eMd_whyNot_73 : decode prog_14_method_43_code 73 = .ok (.aload_n 0, 1) := by decide +kernel
theorem eMd_whyNot_74 : decode prog_14_method_43_code 74 = .ok (.getfield 258, 3) := by decide +kernel
theorem eMd_whyNot_77 : decode prog_14_method_43_code 77 = .ok (.aload_n 0, 1) := by decide +kernel
theorem eMd_whyNot_78 : decode prog_14_method_43_code 78 = .ok (.getfield 252, 3) := by decide +kernel
theorem eMd_whyNot_81 : decode prog_14_method_43_code 81 = .ok (.iadd, 1) := by decide +kernel
theorem eMd_whyNot_82 : decode prog_14_method_43_code 82 = .ok (.invokevirtual 267, 3) := by decide +kernel
theorem eMd_whyNot_85 : decode prog_14_method_43_code 85 = .ok (.ifCond .ne 5, 3) := by decide +kernel
theorem eMd_whyNot_88 : decode prog_14_method_43_code 88 = .ok (.iconst 5, 1) := by decide +kernel
theorem eMd_whyNot_89 : decode prog_14_method_43_code 89 = .ok (.ireturn, 1) := by decide +kernel
theorem eMd_whyNot_90 : decode prog_14_method_43_code 90 = .ok (.aload_n 0, 1) := by decide +kernel
theorem eMd_whyNot_91 : decode prog_14_method_43_code 91 = .ok (.invokevirtual 270, 3) := by decide +kernel
theorem eMd_whyNot_94 : decode prog_14_method_43_code 94 = .ok (.ifCond .eq 7, 3) := by decide +kernel
theorem eMd_whyNot_97 : decode prog_14_method_43_code 97 = .ok (.iconst 0, 1) := by decide +kernel
theorem eMd_whyNot_98 : decode prog_14_method_43_code 98 = .ok (.goto 5, 3) := by decide +kernel
theorem eMd_whyNot_101 : decode prog_14_method_43_code 101 = .ok (.bipush 6, 2) := by decide +kernel
theorem eMd_whyNot_103 : decode prog_14_method_43_code 103 = .ok (.ireturn, 1) := by decide +kernel
theorem eMd_steps_0 : decode prog_14_method_44_code 0 = .ok (.iload_n 1, 1) := by decide +kernel
theorem eMd_steps_1 : decode prog_14_method_44_code 1 = .ok (.iconst 3, 1) := by decide +kernel
theorem eMd_steps_2 : decode prog_14_method_44_code 2 = .ok (.idiv, 1) := by decide +kernel
theorem eMd_steps_3 : decode prog_14_method_44_code 3 = .ok (.iconst 1, 1) := by decide +kernel
theorem eMd_steps_4 : decode prog_14_method_44_code 4 = .ok (.isub, 1) := by decide +kernel
theorem eMd_steps_5 : decode prog_14_method_44_code 5 = .ok (.istore_n 3, 1) := by decide +kernel
theorem eMd_steps_6 : decode prog_14_method_44_code 6 = .ok (.aload_n 0, 1) := by decide +kernel
theorem eMd_steps_7 : decode prog_14_method_44_code 7 = .ok (.dup, 1) := by decide +kernel
theorem eMd_steps_8 : decode prog_14_method_44_code 8 = .ok (.getfield 255, 3) := by decide +kernel
theorem eMd_steps_11 : decode prog_14_method_44_code 11 = .ok (.iload_n 3, 1) := by decide +kernel
theorem eMd_steps_12 : decode prog_14_method_44_code 12 = .ok (.iadd, 1) := by decide +kernel
theorem eMd_steps_13 : decode prog_14_method_44_code 13 = .ok (.putfield 255, 3) := by decide +kernel
theorem eMd_steps_16 : decode prog_14_method_44_code 16 = .ok (.aload_n 0, 1) := by decide +kernel
theorem eMd_steps_17 : decode prog_14_method_44_code 17 = .ok (.dup, 1) := by decide +kernel
theorem eMd_steps_18 : decode prog_14_method_44_code 18 = .ok (.getfield 258, 3) := by decide +kernel
theorem eMd_steps_21 : decode prog_14_method_44_code 21 = .ok (.aload_n 0, 1) := by decide +kernel
theorem eMd_steps_22 : decode prog_14_method_44_code 22 = .ok (.getfield 255, 3) := by decide +kernel
theorem eMd_steps_25 : decode prog_14_method_44_code 25 = .ok (.iadd, 1) := by decide +kernel
theorem eMd_steps_26 : decode prog_14_method_44_code 26 = .ok (.putfield 258, 3) := by decide +kernel
theorem eMd_steps_29 : decode prog_14_method_44_code 29 = .ok (.aload_n 0, 1) := by decide +kernel
theorem eMd_steps_30 : decode prog_14_method_44_code 30 = .ok (.dup, 1) := by decide +kernel
theorem eMd_steps_31 : decode prog_14_method_44_code 31 = .ok (.getfield 246, 3) := by decide +kernel
theorem eMd_steps_34 : decode prog_14_method_44_code 34 = .ok (.iload_n 1, 1) := by decide +kernel
theorem eMd_steps_35 : decode prog_14_method_44_code 35 = .ok (.iconst 3, 1) := by decide +kernel
theorem eMd_steps_36 : decode prog_14_method_44_code 36 = .ok (.irem, 1) := by decide +kernel
theorem eMd_steps_37 : decode prog_14_method_44_code 37 = .ok (.iconst 1, 1) := by decide +kernel
theorem eMd_steps_38 : decode prog_14_method_44_code 38 = .ok (.isub, 1) := by decide +kernel
theorem eMd_steps_39 : decode prog_14_method_44_code 39 = .ok (.iadd, 1) := by decide +kernel
theorem eMd_steps_40 : decode prog_14_method_44_code 40 = .ok (.putfield 246, 3) := by decide +kernel
theorem eMd_steps_43 : decode prog_14_method_44_code 43 = .ok (.aload_n 0, 1) := by decide +kernel
theorem eMd_steps_44 : decode prog_14_method_44_code 44 = .ok (.getfield 246, 3) := by decide +kernel
theorem eMd_steps_47 : decode prog_14_method_44_code 47 = .ok (.invokestatic 274, 3) := by decide +kernel
theorem eMd_steps_50 : decode prog_14_method_44_code 50 = .ok (.aload_n 0, 1) := by decide +kernel
theorem eMd_steps_51 : decode prog_14_method_44_code 51 = .ok (.getfield 252, 3) := by decide +kernel
theorem eMd_steps_54 : decode prog_14_method_44_code 54 = .ok (.imul, 1) := by decide +kernel
theorem eMd_steps_55 : decode prog_14_method_44_code 55 = .ok (.aload_n 0, 1) := by decide +kernel
theorem eMd_steps_56 : decode prog_14_method_44_code 56 = .ok (.getfield 249, 3) := by decide +kernel
theorem eMd_steps_59 : decode prog_14_method_44_code 59 = .ok (.isub, 1) := by decide +kernel
theorem eMd_steps_60 : decode prog_14_method_44_code 60 = .ok (.iload_n 3, 1) := by decide +kernel
theorem eMd_steps_61 : decode prog_14_method_44_code 61 = .ok (.isub, 1) := by decide +kernel
theorem eMd_steps_62 : decode prog_14_method_44_code 62 = .ok (.iload_n 2, 1) := by decide +kernel
theorem eMd_steps_63 : decode prog_14_method_44_code 63 = .ok (.iadd, 1) := by decide +kernel
theorem eMd_steps_64 : decode prog_14_method_44_code 64 = .ok (.istore 4, 2) := by decide +kernel
theorem eMd_steps_66 : decode prog_14_method_44_code 66 = .ok (.aload_n 0, 1) := by decide +kernel
theorem eMd_steps_67 : decode prog_14_method_44_code 67 = .ok (.aload_n 0, 1) := by decide +kernel
theorem eMd_steps_68 : decode prog_14_method_44_code 68 = .ok (.getfield 252, 3) := by decide +kernel
theorem eMd_steps_71 : decode prog_14_method_44_code 71 = .ok (.putfield 249, 3) := by decide +kernel
theorem eMd_steps_74 : decode prog_14_method_44_code 74 = .ok (.aload_n 0, 1) := by decide +kernel
theorem eMd_steps_75 : decode prog_14_method_44_code 75 = .ok (.iload 4, 2) := by decide +kernel
theorem eMd_steps_77 : decode prog_14_method_44_code 77 = .ok (.putfield 252, 3) := by decide +kernel
theorem eMd_steps_80 : decode prog_14_method_44_code 80 = .ok (.return_, 1) := by decide +kernel
theorem eMd_isState_0 : decode prog_14_method_45_code 0 = .ok (.aload_n 0, 1) := by decide +kernel
theorem eMd_isState_1 : decode prog_14_method_45_code 1 = .ok (.invokevirtual 277, 3) := by decide +kernel
theorem eMd_isState_4 : decode prog_14_method_45_code 4 = .ok (.ifCond .ne 23, 3) := by decide +kernel
theorem eMd_isState_7 : decode prog_14_method_45_code 7 = .ok (.aload_n 0, 1) := by decide +kernel
theorem eMd_isState_8 : decode prog_14_method_45_code 8 = .ok (.getfield 249, 3) := by decide +kernel
theorem eMd_isState_11 : decode prog_14_method_45_code 11 = .ok (.invokestatic 261, 3) := by decide +kernel
theorem eMd_isState_14 : decode prog_14_method_45_code 14 = .ok (.aload_n 0, 1) := by decide +kernel
theorem eMd_isState_15 : decode prog_14_method_45_code 15 = .ok (.getfield 13, 3) := by decide +kernel
theorem eMd_isState_18 : decode prog_14_method_45_code 18 = .ok (.iconst 3, 1) := by decide +kernel
theorem eMd_isState_19 : decode prog_14_method_45_code 19 = .ok (.iaload, 1) := by decide +kernel
theorem eMd_isState_20 : decode prog_14_method_45_code 20 = .ok (.if_icmp .gt 7, 3) := by decide +kernel
theorem eMd_isState_23 : decode prog_14_method_45_code 23 = .ok (.iconst 1, 1) := by decide +kernel
theorem eMd_isState_24 : decode prog_14_method_45_code 24 = .ok (.goto 4, 3) := by decide +kernel
theorem eMd_isState_27 : decode prog_14_method_45_code 27 = .ok (.iconst 0, 1) := by decide +kernel
theorem eMd_isState_28 : decode prog_14_method_45_code 28 = .ok (.ireturn, 1) := by decide +kernel
theorem eMd_laid_0 : decode prog_14_method_46_code 0 = .ok (.aload_n 0, 1) := by decide +kernel
theorem eMd_laid_1 : decode prog_14_method_46_code 1 = .ok (.getfield 258, 3) := by decide +kernel
theorem eMd_laid_4 : decode prog_14_method_46_code 4 = .ok (.aload_n 0, 1) := by decide +kernel
theorem eMd_laid_5 : decode prog_14_method_46_code 5 = .ok (.getfield 255, 3) := by decide +kernel
theorem eMd_laid_8 : decode prog_14_method_46_code 8 = .ok (.aload_n 0, 1) := by decide +kernel
theorem eMd_laid_9 : decode prog_14_method_46_code 9 = .ok (.getfield 252, 3) := by decide +kernel
theorem eMd_laid_12 : decode prog_14_method_46_code 12 = .ok (.aload_n 0, 1) := by decide +kernel
theorem eMd_laid_13 : decode prog_14_method_46_code 13 = .ok (.getfield 249, 3) := by decide +kernel
theorem eMd_laid_16 : decode prog_14_method_46_code 16 = .ok (.aload_n 0, 1) := by decide +kernel
theorem eMd_laid_17 : decode prog_14_method_46_code 17 = .ok (.getfield 246, 3) := by decide +kernel
theorem eMd_laid_20 : decode prog_14_method_46_code 20 = .ok (.invokestatic 280, 3) := by decide +kernel
theorem eMd_laid_23 : decode prog_14_method_46_code 23 = .ok (.ireturn, 1) := by decide +kernel
theorem eMd_stepsBack_0 : decode prog_14_method_47_code 0 = .ok (.iload_n 1, 1) := by decide +kernel
theorem eMd_stepsBack_1 : decode prog_14_method_47_code 1 = .ok (.iconst 3, 1) := by decide +kernel
theorem eMd_stepsBack_2 : decode prog_14_method_47_code 2 = .ok (.idiv, 1) := by decide +kernel
theorem eMd_stepsBack_3 : decode prog_14_method_47_code 3 = .ok (.iconst 1, 1) := by decide +kernel
theorem eMd_stepsBack_4 : decode prog_14_method_47_code 4 = .ok (.isub, 1) := by decide +kernel
theorem eMd_stepsBack_5 : decode prog_14_method_47_code 5 = .ok (.istore_n 2, 1) := by decide +kernel
theorem eMd_stepsBack_6 : decode prog_14_method_47_code 6 = .ok (.aload_n 0, 1) := by decide +kernel
theorem eMd_stepsBack_7 : decode prog_14_method_47_code 7 = .ok (.getfield 249, 3) := by decide +kernel
theorem eMd_stepsBack_10 : decode prog_14_method_47_code 10 = .ok (.istore_n 3, 1) := by decide +kernel
theorem eMd_stepsBack_11 : decode prog_14_method_47_code 11 = .ok (.aload_n 0, 1) := by decide +kernel
theorem eMd_stepsBack_12 : decode prog_14_method_47_code 12 = .ok (.getfield 246, 3) := by decide +kernel
theorem eMd_stepsBack_15 : decode prog_14_method_47_code 15 = .ok (.invokestatic 274, 3) := by decide +kernel
theorem eMd_stepsBack_18 : decode prog_14_method_47_code 18 = .ok (.iload_n 3, 1) := by decide +kernel
theorem eMd_stepsBack_19 : decode prog_14_method_47_code 19 = .ok (.imul, 1) := by decide +kernel
theorem eMd_stepsBack_20 : decode prog_14_method_47_code 20 = .ok (.iload_n 2, 1) := by decide +kernel
theorem eMd_stepsBack_21 : decode prog_14_method_47_code 21 = .ok (.isub, 1) := by decide +kernel
theorem eMd_stepsBack_22 : decode prog_14_method_47_code 22 = .ok (.aload_n 0, 1) := by decide +kernel
theorem eMd_stepsBack_23 : decode prog_14_method_47_code 23 = .ok (.getfield 252, 3) := by decide +kernel
theorem eMd_stepsBack_26 : decode prog_14_method_47_code 26 = .ok (.isub, 1) := by decide +kernel
theorem eMd_stepsBack_27 : decode prog_14_method_47_code 27 = .ok (.istore 4, 2) := by decide +kernel
theorem eMd_stepsBack_29 : decode prog_14_method_47_code 29 = .ok (.aload_n 0, 1) := by decide +kernel
theorem eMd_stepsBack_30 : decode prog_14_method_47_code 30 = .ok (.dup, 1) := by decide +kernel
theorem eMd_stepsBack_31 : decode prog_14_method_47_code 31 = .ok (.getfield 258, 3) := by decide +kernel
theorem eMd_stepsBack_34 : decode prog_14_method_47_code 34 = .ok (.aload_n 0, 1) := by decide +kernel
theorem eMd_stepsBack_35 : decode prog_14_method_47_code 35 = .ok (.getfield 255, 3) := by decide +kernel
theorem eMd_stepsBack_38 : decode prog_14_method_47_code 38 = .ok (.isub, 1) := by decide +kernel
theorem eMd_stepsBack_39 : decode prog_14_method_47_code 39 = .ok (.putfield 258, 3) := by decide +kernel
theorem eMd_stepsBack_42 : decode prog_14_method_47_code 42 = .ok (.aload_n 0, 1) := by decide +kernel
theorem eMd_stepsBack_43 : decode prog_14_method_47_code 43 = .ok (.dup, 1) := by decide +kernel
theorem eMd_stepsBack_44 : decode prog_14_method_47_code 44 = .ok (.getfield 255, 3) := by decide +kernel
theorem eMd_stepsBack_47 : decode prog_14_method_47_code 47 = .ok (.iload_n 2, 1) := by decide +kernel
theorem eMd_stepsBack_48 : decode prog_14_method_47_code 48 = .ok (.isub, 1) := by decide +kernel
theorem eMd_stepsBack_49 : decode prog_14_method_47_code 49 = .ok (.putfield 255, 3) := by decide +kernel
theorem eMd_stepsBack_52 : decode prog_14_method_47_code 52 = .ok (.aload_n 0, 1) := by decide +kernel
theorem eMd_stepsBack_53 : decode prog_14_method_47_code 53 = .ok (.dup, 1) := by decide +kernel
theorem eMd_stepsBack_54 : decode prog_14_method_47_code 54 = .ok (.getfield 246, 3) := by decide +kernel
theorem eMd_stepsBack_57 : decode prog_14_method_47_code 57 = .ok (.iload_n 1, 1) := by decide +kernel
theorem eMd_stepsBack_58 : decode prog_14_method_47_code 58 = .ok (.iconst 3, 1) := by decide +kernel
theorem eMd_stepsBack_59 : decode prog_14_method_47_code 59 = .ok (.irem, 1) := by decide +kernel
theorem eMd_stepsBack_60 : decode prog_14_method_47_code 60 = .ok (.iconst 1, 1) := by decide +kernel
theorem eMd_stepsBack_61 : decode prog_14_method_47_code 61 = .ok (.isub, 1) := by decide +kernel
theorem eMd_stepsBack_62 : decode prog_14_method_47_code 62 = .ok (.isub, 1) := by decide +kernel
theorem eMd_stepsBack_63 : decode prog_14_method_47_code 63 = .ok (.putfield 246, 3) := by decide +kernel
theorem eMd_stepsBack_66 : decode prog_14_method_47_code 66 = .ok (.aload_n 0, 1) := by decide +kernel
theorem eMd_stepsBack_67 : decode prog_14_method_47_code 67 = .ok (.iload_n 3, 1) := by decide +kernel
theorem eMd_stepsBack_68 : decode prog_14_method_47_code 68 = .ok (.putfield 252, 3) := by decide +kernel
theorem eMd_stepsBack_71 : decode prog_14_method_47_code 71 = .ok (.aload_n 0, 1) := by decide +kernel
theorem eMd_stepsBack_72 : decode prog_14_method_47_code 72 = .ok (.iload 4, 2) := by decide +kernel
theorem eMd_stepsBack_74 : decode prog_14_method_47_code 74 = .ok (.putfield 249, 3) := by decide +kernel
theorem eMd_stepsBack_77 : decode prog_14_method_47_code 77 = .ok (.return_, 1) := by decide +kernel
theorem eMd_adds_0 : decode prog_14_method_48_code 0 = .ok (.aload_n 0, 1) := by decide +kernel
theorem eMd_adds_1 : decode prog_14_method_48_code 1 = .ok (.getfield 73, 3) := by decide +kernel
theorem eMd_adds_4 : decode prog_14_method_48_code 4 = .ok (.iload_n 1, 1) := by decide +kernel
theorem eMd_adds_5 : decode prog_14_method_48_code 5 = .ok (.saload, 1) := by decide +kernel
theorem eMd_adds_6 : decode prog_14_method_48_code 6 = .ok (.iload_n 2, 1) := by decide +kernel
theorem eMd_adds_7 : decode prog_14_method_48_code 7 = .ok (.if_icmp .gt 4, 3) := by decide +kernel
theorem eMd_adds_10 : decode prog_14_method_48_code 10 = .ok (.return_, 1) := by decide +kernel
theorem eMd_adds_11 : decode prog_14_method_48_code 11 = .ok (.aload_n 0, 1) := by decide +kernel
theorem eMd_adds_12 : decode prog_14_method_48_code 12 = .ok (.getfield 73, 3) := by decide +kernel
theorem eMd_adds_15 : decode prog_14_method_48_code 15 = .ok (.iload_n 1, 1) := by decide +kernel
theorem eMd_adds_16 : decode prog_14_method_48_code 16 = .ok (.iload_n 2, 1) := by decide +kernel
theorem eMd_adds_17 : decode prog_14_method_48_code 17 = .ok (.i2s, 1) := by decide +kernel
theorem eMd_adds_18 : decode prog_14_method_48_code 18 = .ok (.sastore, 1) := by decide +kernel
theorem eMd_adds_19 : decode prog_14_method_48_code 19 = .ok (.aload_n 0, 1) := by decide +kernel
theorem eMd_adds_20 : decode prog_14_method_48_code 20 = .ok (.getfield 77, 3) := by decide +kernel
theorem eMd_adds_23 : decode prog_14_method_48_code 23 = .ok (.aload_n 0, 1) := by decide +kernel
theorem eMd_adds_24 : decode prog_14_method_48_code 24 = .ok (.getfield 284, 3) := by decide +kernel
theorem eMd_adds_27 : decode prog_14_method_48_code 27 = .ok (.iload_n 1, 1) := by decide +kernel
theorem eMd_adds_28 : decode prog_14_method_48_code 28 = .ok (.iastore, 1) := by decide +kernel
theorem eMd_adds_29 : decode prog_14_method_48_code 29 = .ok (.aload_n 0, 1) := by decide +kernel
theorem eMd_adds_30 : decode prog_14_method_48_code 30 = .ok (.dup, 1) := by decide +kernel
theorem eMd_adds_31 : decode prog_14_method_48_code 31 = .ok (.getfield 284, 3) := by decide +kernel
theorem eMd_adds_34 : decode prog_14_method_48_code 34 = .ok (.iconst 1, 1) := by decide +kernel
theorem eMd_adds_35 : decode prog_14_method_48_code 35 = .ok (.iadd, 1) := by decide +kernel
theorem eMd_adds_36 : decode prog_14_method_48_code 36 = .ok (.putfield 284, 3) := by decide +kernel
theorem eMd_adds_39 : decode prog_14_method_48_code 39 = .ok (.return_, 1) := by decide +kernel
theorem eMd_still_0 : decode prog_14_method_49_code 0 = .ok (.iload_n 1, 1) := by decide +kernel
theorem eMd_still_1 : decode prog_14_method_49_code 1 = .ok (.iconst 0, 1) := by decide +kernel
theorem eMd_still_2 : decode prog_14_method_49_code 2 = .ok (.iconst 0, 1) := by decide +kernel
theorem eMd_still_3 : decode prog_14_method_49_code 3 = .ok (.iconst 0, 1) := by decide +kernel
theorem eMd_still_4 : decode prog_14_method_49_code 4 = .ok (.iload_n 2, 1) := by decide +kernel
theorem eMd_still_5 : decode prog_14_method_49_code 5 = .ok (.invokestatic 280, 3) := by decide +kernel
theorem eMd_still_8 : decode prog_14_method_49_code 8 = .ok (.ireturn, 1) := by decide +kernel
theorem eMd_doesStand_0 : decode prog_14_method_50_code 0 = .ok (.aload_n 0, 1) := by decide +kernel
theorem eMd_doesStand_1 : decode prog_14_method_50_code 1 = .ok (.iload_n 1, 1) := by decide +kernel
theorem eMd_doesStand_2 : decode prog_14_method_50_code 2 = .ok (.invokevirtual 287, 3) := by decide +kernel
theorem eMd_doesStand_5 : decode prog_14_method_50_code 5 = .ok (.aload_n 0, 1) := by decide +kernel
theorem eMd_doesStand_6 : decode prog_14_method_50_code 6 = .ok (.invokevirtual 290, 3) := by decide +kernel
theorem eMd_doesStand_9 : decode prog_14_method_50_code 9 = .ok (.ireturn, 1) := by decide +kernel
theorem eMd_seeks_0 : decode prog_14_method_51_code 0 = .ok (.iload_n 1, 1) := by decide +kernel
theorem eMd_seeks_1 : decode prog_14_method_51_code 1 = .ok (.aload_n 0, 1) := by decide +kernel
theorem eMd_seeks_2 : decode prog_14_method_51_code 2 = .ok (.getfield 80, 3) := by decide +kernel
theorem eMd_seeks_5 : decode prog_14_method_51_code 5 = .ok (.if_icmp .ne 12, 3) := by decide +kernel
theorem eMd_seeks_8 : decode prog_14_method_51_code 8 = .ok (.iload_n 2, 1) := by decide +kernel
theorem eMd_seeks_9 : decode prog_14_method_51_code 9 = .ok (.aload_n 0, 1) := by decide +kernel
theorem eMd_seeks_10 : decode prog_14_method_51_code 10 = .ok (.getfield 293, 3) := by decide +kernel
theorem eMd_seeks_13 : decode prog_14_method_51_code 13 = .ok (.if_icmp .ne 4, 3) := by decide +kernel
theorem eMd_seeks_16 : decode prog_14_method_51_code 16 = .ok (.return_, 1) := by decide +kernel
theorem eMd_seeks_17 : decode prog_14_method_51_code 17 = .ok (.aload_n 0, 1) := by decide +kernel
theorem eMd_seeks_18 : decode prog_14_method_51_code 18 = .ok (.iload_n 1, 1) := by decide +kernel
theorem eMd_seeks_19 : decode prog_14_method_51_code 19 = .ok (.iload_n 2, 1) := by decide +kernel
theorem eMd_seeks_20 : decode prog_14_method_51_code 20 = .ok (.ldc 72, 2) := by decide +kernel
theorem eMd_seeks_22 : decode prog_14_method_51_code 22 = .ok (.invokevirtual 296, 3) := by decide +kernel
theorem eMd_seeks_25 : decode prog_14_method_51_code 25 = .ok (.aload_n 0, 1) := by decide +kernel
theorem eMd_seeks_26 : decode prog_14_method_51_code 26 = .ok (.iload_n 1, 1) := by decide +kernel
theorem eMd_seeks_27 : decode prog_14_method_51_code 27 = .ok (.putfield 80, 3) := by decide +kernel
theorem eMd_seeks_30 : decode prog_14_method_51_code 30 = .ok (.aload_n 0, 1) := by decide +kernel
theorem eMd_seeks_31 : decode prog_14_method_51_code 31 = .ok (.iload_n 2, 1) := by decide +kernel
theorem eMd_seeks_32 : decode prog_14_method_51_code 32 = .ok (.putfield 293, 3) := by decide +kernel
theorem eMd_seeks_35 : decode prog_14_method_51_code 35 = .ok (.return_, 1) := by decide +kernel
theorem eMd_seeksFrom_0 : decode prog_14_method_52_code 0 = .ok (.aload_n 0, 1) := by decide +kernel
theorem eMd_seeksFrom_1 : decode prog_14_method_52_code 1 = .ok (.bipush (-2), 2) := by decide +kernel
theorem eMd_seeksFrom_3 : decode prog_14_method_52_code 3 = .ok (.putfield 80, 3) := by decide +kernel
theorem eMd_seeksFrom_6 : decode prog_14_method_52_code 6 = .ok (.aload_n 0, 1) := by decide +kernel
theorem eMd_seeksFrom_7 : decode prog_14_method_52_code 7 = .ok (.iconst 0, 1) := by decide +kernel
theorem eMd_seeksFrom_8 : decode prog_14_method_52_code 8 = .ok (.putfield 284, 3) := by decide +kernel
theorem eMd_seeksFrom_11 : decode prog_14_method_52_code 11 = .ok (.iconst 0, 1) := by decide +kernel
theorem eMd_seeksFrom_12 : decode prog_14_method_52_code 12 = .ok (.istore 4, 2) := by decide +kernel
theorem eMd_seeksFrom_14 : decode prog_14_method_52_code 14 = .ok (.iload 4, 2) := by decide +kernel
theorem eMd_seeksFrom_16 : decode prog_14_method_52_code 16 = .ok (.ldc 72, 2) := by decide +kernel
theorem eMd_seeksFrom_18 : decode prog_14_method_52_code 18 = .ok (.if_icmp .ge 19, 3) := by decide +kernel
theorem eMd_seeksFrom_21 : decode prog_14_method_52_code 21 = .ok (.aload_n 0, 1) := by decide +kernel
theorem eMd_seeksFrom_22 : decode prog_14_method_52_code 22 = .ok (.getfield 73, 3) := by decide +kernel
theorem eMd_seeksFrom_25 : decode prog_14_method_52_code 25 = .ok (.iload 4, 2) := by decide +kernel
theorem eMd_seeksFrom_27 : decode prog_14_method_52_code 27 = .ok (.sipush 30000, 3) := by decide +kernel
theorem eMd_seeksFrom_30 : decode prog_14_method_52_code 30 = .ok (.sastore, 1) := by decide +kernel
theorem eMd_seeksFrom_31 : decode prog_14_method_52_code 31 = .ok (.iinc 4 1, 3) := by decide +kernel
theorem eMd_seeksFrom_34 : decode prog_14_method_52_code 34 = .ok (.goto (-20), 3) := by decide +kernel
theorem eMd_seeksFrom_37 : decode prog_14_method_52_code 37 = .ok (.iconst 0, 1) := by decide +kernel
theorem eMd_seeksFrom_38 : decode prog_14_method_52_code 38 = .ok (.istore 4, 2) := by decide +kernel
theorem eMd_seeksFrom_40 : decode prog_14_method_52_code 40 = .ok (.iload 4, 2) := by decide +kernel
theorem eMd_seeksFrom_42 : decode prog_14_method_52_code 42 = .ok (.aload_n 0, 1) := by decide +kernel
theorem eMd_seeksFrom_43 : decode prog_14_method_52_code 43 = .ok (.getfield 13, 3) := by decide +kernel
theorem eMd_seeksFrom_46 : decode prog_14_method_52_code 46 = .ok (.iconst 0, 1) := by decide +kernel
theorem eMd_seeksFrom_47 : decode prog_14_method_52_code 47 = .ok (.iaload, 1) := by decide +kernel
theorem eMd_seeksFrom_48 : decode prog_14_method_52_code 48 = .ok (.if_icmp .ge 86, 3) := by decide +kernel
theorem eMd_seeksFrom_51 : decode prog_14_method_52_code 51 = .ok (.iconst 1, 1) := by decide +kernel
theorem eMd_seeksFrom_52 : decode prog_14_method_52_code 52 = .ok (.istore 5, 2) := by decide +kernel
theorem eMd_seeksFrom_54 : decode prog_14_method_52_code 54 = .ok (.iload 5, 2) := by decide +kernel
theorem eMd_seeksFrom_56 : decode prog_14_method_52_code 56 = .ok (.aload_n 0, 1) := by decide +kernel
theorem eMd_seeksFrom_57 : decode prog_14_method_52_code 57 = .ok (.getfield 13, 3) := by decide +kernel
theorem eMd_seeksFrom_60 : decode prog_14_method_52_code 60 = .ok (.iconst 1, 1) := by decide +kernel
theorem eMd_seeksFrom_61 : decode prog_14_method_52_code 61 = .ok (.iaload, 1) := by decide +kernel
theorem eMd_seeksFrom_62 : decode prog_14_method_52_code 62 = .ok (.if_icmp .gt 66, 3) := by decide +kernel
theorem eMd_seeksFrom_65 : decode prog_14_method_52_code 65 = .ok (.iload_n 1, 1) := by decide +kernel
theorem eMd_seeksFrom_66 : decode prog_14_method_52_code 66 = .ok (.iconst (-1), 1) := by decide +kernel
theorem eMd_seeksFrom_67 : decode prog_14_method_52_code 67 = .ok (.if_icmp .eq 15, 3) := by decide +kernel
theorem eMd_seeksFrom_70 : decode prog_14_method_52_code 70 = .ok (.iload_n 1, 1) := by decide +kernel
theorem eMd_seeksFrom_71 : decode prog_14_method_52_code 71 = .ok (.aload_n 0, 1) := by decide +kernel
theorem eMd_seeksFrom_72 : decode prog_14_method_52_code 72 = .ok (.iload 4, 2) := by decide +kernel
theorem eMd_seeksFrom_74 : decode prog_14_method_52_code 74 = .ok (.iload 5, 2) := by decide +kernel
theorem eMd_seeksFrom_76 : decode prog_14_method_52_code 76 = .ok (.invokevirtual 300, 3) := by decide +kernel
theorem eMd_seeksFrom_79 : decode prog_14_method_52_code 79 = .ok (.if_icmp .ne 7, 3) := by decide +kernel
theorem eMd_seeksFrom_82 : decode prog_14_method_52_code 82 = .ok (.iconst 1, 1) := by decide +kernel
theorem eMd_seeksFrom_83 : decode prog_14_method_52_code 83 = .ok (.goto 4, 3) := by decide +kernel
theorem eMd_seeksFrom_86 : decode prog_14_method_52_code 86 = .ok (.iconst 0, 1) := by decide +kernel
theorem eMd_seeksFrom_87 : decode prog_14_method_52_code 87 = .ok (.istore 6, 2) := by decide +kernel
theorem eMd_seeksFrom_89 : decode prog_14_method_52_code 89 = .ok (.iload 6, 2) := by decide +kernel
theorem eMd_seeksFrom_91 : decode prog_14_method_52_code 91 = .ok (.ifCond .eq 31, 3) := by decide +kernel
theorem eMd_seeksFrom_94 : decode prog_14_method_52_code 94 = .ok (.aload_n 0, 1) := by decide +kernel
theorem eMd_seeksFrom_95 : decode prog_14_method_52_code 95 = .ok (.aload_n 0, 1) := by decide +kernel
theorem eMd_seeksFrom_96 : decode prog_14_method_52_code 96 = .ok (.iload 4, 2) := by decide +kernel
theorem eMd_seeksFrom_98 : decode prog_14_method_52_code 98 = .ok (.iload 5, 2) := by decide +kernel
theorem eMd_seeksFrom_100 : decode prog_14_method_52_code 100 = .ok (.invokevirtual 300, 3) := by decide +kernel
theorem eMd_seeksFrom_103 : decode prog_14_method_52_code 103 = .ok (.invokevirtual 303, 3) := by decide +kernel
theorem eMd_seeksFrom_106 : decode prog_14_method_52_code 106 = .ok (.ifCond .eq 16, 3) := by decide +kernel
theorem eMd_seeksFrom_109 : decode prog_14_method_52_code 109 = .ok (.aload_n 0, 1) := by decide +kernel
theorem eMd_seeksFrom_110 : decode prog_14_method_52_code 110 = .ok (.aload_n 0, 1) := by decide +kernel
theorem eMd_seeksFrom_111 : decode prog_14_method_52_code 111 = .ok (.iload 4, 2) := by decide +kernel
theorem eMd_seeksFrom_113 : decode prog_14_method_52_code 113 = .ok (.iload 5, 2) := by decide +kernel
theorem eMd_seeksFrom_115 : decode prog_14_method_52_code 115 = .ok (.invokevirtual 300, 3) := by decide +kernel
theorem eMd_seeksFrom_118 : decode prog_14_method_52_code 118 = .ok (.iconst 0, 1) := by decide +kernel
theorem eMd_seeksFrom_119 : decode prog_14_method_52_code 119 = .ok (.invokevirtual 306, 3) := by decide +kernel
theorem eMd_seeksFrom_122 : decode prog_14_method_52_code 122 = .ok (.iinc 5 1, 3) := by decide +kernel
theorem eMd_seeksFrom_125 : decode prog_14_method_52_code 125 = .ok (.goto (-71), 3) := by decide +kernel
theorem eMd_seeksFrom_128 : decode prog_14_method_52_code 128 = .ok (.iinc 4 1, 3) := by decide +kernel
theorem eMd_seeksFrom_131 : decode prog_14_method_52_code 131 = .ok (.goto (-91), 3) := by decide +kernel
theorem eMd_seeksFrom_134 : decode prog_14_method_52_code 134 = .ok (.iconst 0, 1) := by decide +kernel
theorem eMd_seeksFrom_135 : decode prog_14_method_52_code 135 = .ok (.istore 4, 2) := by decide +kernel
theorem eMd_seeksFrom_137 : decode prog_14_method_52_code 137 = .ok (.iload 4, 2) := by decide +kernel
theorem eMd_seeksFrom_139 : decode prog_14_method_52_code 139 = .ok (.aload_n 0, 1) := by decide +kernel
theorem eMd_seeksFrom_140 : decode prog_14_method_52_code 140 = .ok (.getfield 284, 3) := by decide +kernel
theorem eMd_seeksFrom_143 : decode prog_14_method_52_code 143 = .ok (.if_icmp .ge 104, 3) := by decide +kernel
theorem eMd_seeksFrom_146 : decode prog_14_method_52_code 146 = .ok (.iload_n 3, 1) := by decide +kernel
theorem eMd_seeksFrom_147 : decode prog_14_method_52_code 147 = .ok (.ldc 72, 2) := by decide +kernel
theorem eMd_seeksFrom_149 : decode prog_14_method_52_code 149 = .ok (.if_icmp .eq 15, 3) := by decide +kernel
theorem eMd_seeksFrom_152 : decode prog_14_method_52_code 152 = .ok (.aload_n 0, 1) := by decide +kernel
theorem eMd_seeksFrom_153 : decode prog_14_method_52_code 153 = .ok (.getfield 73, 3) := by decide +kernel
theorem eMd_seeksFrom_156 : decode prog_14_method_52_code 156 = .ok (.iload_n 3, 1) := by decide +kernel
theorem eMd_seeksFrom_157 : decode prog_14_method_52_code 157 = .ok (.saload, 1) := by decide +kernel
theorem eMd_seeksFrom_158 : decode prog_14_method_52_code 158 = .ok (.sipush 30000, 3) := by decide +kernel
theorem eMd_seeksFrom_161 : decode prog_14_method_52_code 161 = .ok (.if_icmp .ne 86, 3) := by decide +kernel
theorem eMd_seeksFrom_164 : decode prog_14_method_52_code 164 = .ok (.iconst 0, 1) := by decide +kernel
theorem eMd_seeksFrom_165 : decode prog_14_method_52_code 165 = .ok (.istore 5, 2) := by decide +kernel
theorem eMd_seeksFrom_167 : decode prog_14_method_52_code 167 = .ok (.iload 5, 2) := by decide +kernel
theorem eMd_seeksFrom_169 : decode prog_14_method_52_code 169 = .ok (.bipush 9, 2) := by decide +kernel
theorem eMd_seeksFrom_171 : decode prog_14_method_52_code 171 = .ok (.if_icmp .ge 70, 3) := by decide +kernel
theorem eMd_seeksFrom_174 : decode prog_14_method_52_code 174 = .ok (.iload_n 2, 1) := by decide +kernel
theorem eMd_seeksFrom_175 : decode prog_14_method_52_code 175 = .ok (.ifCond .eq 14, 3) := by decide +kernel
theorem eMd_seeksFrom_178 : decode prog_14_method_52_code 178 = .ok (.iload 5, 2) := by decide +kernel
theorem eMd_seeksFrom_180 : decode prog_14_method_52_code 180 = .ok (.iconst 3, 1) := by decide +kernel
theorem eMd_seeksFrom_181 : decode prog_14_method_52_code 181 = .ok (.irem, 1) := by decide +kernel
theorem eMd_seeksFrom_182 : decode prog_14_method_52_code 182 = .ok (.iconst 1, 1) := by decide +kernel
theorem eMd_seeksFrom_183 : decode prog_14_method_52_code 183 = .ok (.if_icmp .eq 6, 3) := by decide +kernel
theorem eMd_seeksFrom_186 : decode prog_14_method_52_code 186 = .ok (.goto 49, 3) := by decide +kernel
theorem eMd_seeksFrom_189 : decode prog_14_method_52_code 189 = .ok (.aload_n 0, 1) := by decide +kernel
theorem eMd_seeksFrom_190 : decode prog_14_method_52_code 190 = .ok (.aload_n 0, 1) := by decide +kernel
theorem eMd_seeksFrom_191 : decode prog_14_method_52_code 191 = .ok (.getfield 77, 3) := by decide +kernel
theorem eMd_seeksFrom_194 : decode prog_14_method_52_code 194 = .ok (.iload 4, 2) := by decide +kernel
theorem eMd_seeksFrom_196 : decode prog_14_method_52_code 196 = .ok (.iaload, 1) := by decide +kernel
theorem eMd_seeksFrom_197 : decode prog_14_method_52_code 197 = .ok (.invokevirtual 287, 3) := by decide +kernel
theorem eMd_seeksFrom_200 : decode prog_14_method_52_code 200 = .ok (.aload_n 0, 1) := by decide +kernel
theorem eMd_seeksFrom_201 : decode prog_14_method_52_code 201 = .ok (.iload 5, 2) := by decide +kernel
theorem eMd_seeksFrom_203 : decode prog_14_method_52_code 203 = .ok (.invokevirtual 309, 3) := by decide +kernel
theorem eMd_seeksFrom_206 : decode prog_14_method_52_code 206 = .ok (.aload_n 0, 1) := by decide +kernel
theorem eMd_seeksFrom_207 : decode prog_14_method_52_code 207 = .ok (.invokevirtual 290, 3) := by decide +kernel
theorem eMd_seeksFrom_210 : decode prog_14_method_52_code 210 = .ok (.ifCond .eq 25, 3) := by decide +kernel
theorem eMd_seeksFrom_213 : decode prog_14_method_52_code 213 = .ok (.aload_n 0, 1) := by decide +kernel
theorem eMd_seeksFrom_214 : decode prog_14_method_52_code 214 = .ok (.aload_n 0, 1) := by decide +kernel
theorem eMd_seeksFrom_215 : decode prog_14_method_52_code 215 = .ok (.invokevirtual 312, 3) := by decide +kernel
theorem eMd_seeksFrom_218 : decode prog_14_method_52_code 218 = .ok (.aload_n 0, 1) := by decide +kernel
theorem eMd_seeksFrom_219 : decode prog_14_method_52_code 219 = .ok (.getfield 73, 3) := by decide +kernel
theorem eMd_seeksFrom_222 : decode prog_14_method_52_code 222 = .ok (.aload_n 0, 1) := by decide +kernel
theorem eMd_seeksFrom_223 : decode prog_14_method_52_code 223 = .ok (.getfield 77, 3) := by decide +kernel
theorem eMd_seeksFrom_226 : decode prog_14_method_52_code 226 = .ok (.iload 4, 2) := by decide +kernel
theorem eMd_seeksFrom_228 : decode prog_14_method_52_code 228 = .ok (.iaload, 1) := by decide +kernel
theorem eMd_seeksFrom_229 : decode prog_14_method_52_code 229 = .ok (.saload, 1) := by decide +kernel
theorem eMd_seeksFrom_230 : decode prog_14_method_52_code 230 = .ok (.iconst 1, 1) := by decide +kernel
theorem eMd_seeksFrom_231 : decode prog_14_method_52_code 231 = .ok (.iadd, 1) := by decide +kernel
theorem eMd_seeksFrom_232 : decode prog_14_method_52_code 232 = .ok (.invokevirtual 306, 3) := by decide +kernel
theorem eMd_seeksFrom_235 : decode prog_14_method_52_code 235 = .ok (.iinc 5 1, 3) := by decide +kernel
theorem eMd_seeksFrom_238 : decode prog_14_method_52_code 238 = .ok (.goto (-71), 3) := by decide +kernel
theorem eMd_seeksFrom_241 : decode prog_14_method_52_code 241 = .ok (.iinc 4 1, 3) := by decide +kernel
theorem eMd_seeksFrom_244 : decode prog_14_method_52_code 244 = .ok (.goto (-107), 3) := by decide +kernel
theorem eMd_seeksFrom_247 : decode prog_14_method_52_code 247 = .ok (.return_, 1) := by decide +kernel
theorem eMd_firstStep_0 : decode prog_14_method_54_code 0 = .ok (.aload_n 0, 1) := by decide +kernel
theorem eMd_firstStep_1 : decode prog_14_method_54_code 1 = .ok (.getfield 73, 3) := by decide +kernel
theorem eMd_firstStep_4 : decode prog_14_method_54_code 4 = .ok (.iload_n 1, 1) := by decide +kernel
theorem eMd_firstStep_5 : decode prog_14_method_54_code 5 = .ok (.saload, 1) := by decide +kernel
theorem eMd_firstStep_6 : decode prog_14_method_54_code 6 = .ok (.istore_n 2, 1) := by decide +kernel
theorem eMd_firstStep_7 : decode prog_14_method_54_code 7 = .ok (.iconst 0, 1) := by decide +kernel
theorem eMd_firstStep_8 : decode prog_14_method_54_code 8 = .ok (.istore_n 3, 1) := by decide +kernel
theorem eMd_firstStep_9 : decode prog_14_method_54_code 9 = .ok (.aload_n 0, 1) := by decide +kernel
theorem eMd_firstStep_10 : decode prog_14_method_54_code 10 = .ok (.iload_n 1, 1) := by decide +kernel
theorem eMd_firstStep_11 : decode prog_14_method_54_code 11 = .ok (.invokevirtual 287, 3) := by decide +kernel
theorem eMd_firstStep_14 : decode prog_14_method_54_code 14 = .ok (.aload_n 0, 1) := by decide +kernel
theorem eMd_firstStep_15 : decode prog_14_method_54_code 15 = .ok (.iload_n 3, 1) := by decide +kernel
theorem eMd_firstStep_16 : decode prog_14_method_54_code 16 = .ok (.iconst 0, 1) := by decide +kernel
theorem eMd_firstStep_17 : decode prog_14_method_54_code 17 = .ok (.invokevirtual 315, 3) := by decide +kernel
theorem eMd_firstStep_20 : decode prog_14_method_54_code 20 = .ok (.aload_n 0, 1) := by decide +kernel
theorem eMd_firstStep_21 : decode prog_14_method_54_code 21 = .ok (.invokevirtual 290, 3) := by decide +kernel
theorem eMd_firstStep_24 : decode prog_14_method_54_code 24 = .ok (.ifCond .eq 20, 3) := by decide +kernel
theorem eMd_firstStep_27 : decode prog_14_method_54_code 27 = .ok (.aload_n 0, 1) := by decide +kernel
theorem eMd_firstStep_28 : decode prog_14_method_54_code 28 = .ok (.getfield 73, 3) := by decide +kernel
theorem eMd_firstStep_31 : decode prog_14_method_54_code 31 = .ok (.aload_n 0, 1) := by decide +kernel
theorem eMd_firstStep_32 : decode prog_14_method_54_code 32 = .ok (.invokevirtual 312, 3) := by decide +kernel
theorem eMd_firstStep_35 : decode prog_14_method_54_code 35 = .ok (.saload, 1) := by decide +kernel
theorem eMd_firstStep_36 : decode prog_14_method_54_code 36 = .ok (.iload_n 2, 1) := by decide +kernel
theorem eMd_firstStep_37 : decode prog_14_method_54_code 37 = .ok (.iconst 1, 1) := by decide +kernel
theorem eMd_firstStep_38 : decode prog_14_method_54_code 38 = .ok (.isub, 1) := by decide +kernel
theorem eMd_firstStep_39 : decode prog_14_method_54_code 39 = .ok (.if_icmp .ne 5, 3) := by decide +kernel
theorem eMd_firstStep_42 : decode prog_14_method_54_code 42 = .ok (.iload_n 3, 1) := by decide +kernel
theorem eMd_firstStep_43 : decode prog_14_method_54_code 43 = .ok (.ireturn, 1) := by decide +kernel
theorem eMd_firstStep_44 : decode prog_14_method_54_code 44 = .ok (.iinc 3 1, 3) := by decide +kernel
theorem eMd_firstStep_47 : decode prog_14_method_54_code 47 = .ok (.goto (-38), 3) := by decide +kernel
theorem eMd_stepped_0 : decode prog_14_method_55_code 0 = .ok (.aload_n 0, 1) := by decide +kernel
theorem eMd_stepped_1 : decode prog_14_method_55_code 1 = .ok (.iload_n 1, 1) := by decide +kernel
theorem eMd_stepped_2 : decode prog_14_method_55_code 2 = .ok (.invokevirtual 287, 3) := by decide +kernel
theorem eMd_stepped_5 : decode prog_14_method_55_code 5 = .ok (.aload_n 0, 1) := by decide +kernel
theorem eMd_stepped_6 : decode prog_14_method_55_code 6 = .ok (.iload_n 2, 1) := by decide +kernel
theorem eMd_stepped_7 : decode prog_14_method_55_code 7 = .ok (.iconst 0, 1) := by decide +kernel
theorem eMd_stepped_8 : decode prog_14_method_55_code 8 = .ok (.invokevirtual 315, 3) := by decide +kernel
theorem eMd_stepped_11 : decode prog_14_method_55_code 11 = .ok (.aload_n 0, 1) := by decide +kernel
theorem eMd_stepped_12 : decode prog_14_method_55_code 12 = .ok (.invokevirtual 312, 3) := by decide +kernel
theorem eMd_stepped_15 : decode prog_14_method_55_code 15 = .ok (.ireturn, 1) := by decide +kernel
theorem eMd_begins_0 : decode prog_14_method_56_code 0 = .ok (.iconst 0, 1) := by decide +kernel
theorem eMd_begins_1 : decode prog_14_method_56_code 1 = .ok (.istore_n 1, 1) := by decide +kernel
theorem eMd_begins_2 : decode prog_14_method_56_code 2 = .ok (.iload_n 1, 1) := by decide +kernel
theorem eMd_begins_3 : decode prog_14_method_56_code 3 = .ok (.sipush 143, 3) := by decide +kernel
theorem eMd_begins_6 : decode prog_14_method_56_code 6 = .ok (.if_icmp .ge 16, 3) := by decide +kernel
theorem eMd_begins_9 : decode prog_14_method_56_code 9 = .ok (.aload_n 0, 1) := by decide +kernel
theorem eMd_begins_10 : decode prog_14_method_56_code 10 = .ok (.getfield 83, 3) := by decide +kernel
theorem eMd_begins_13 : decode prog_14_method_56_code 13 = .ok (.iload_n 1, 1) := by decide +kernel
theorem eMd_begins_14 : decode prog_14_method_56_code 14 = .ok (.iconst 0, 1) := by decide +kernel
theorem eMd_begins_15 : decode prog_14_method_56_code 15 = .ok (.iastore, 1) := by decide +kernel
theorem eMd_begins_16 : decode prog_14_method_56_code 16 = .ok (.iinc 1 1, 3) := by decide +kernel
theorem eMd_begins_19 : decode prog_14_method_56_code 19 = .ok (.goto (-17), 3) := by decide +kernel
theorem eMd_begins_22 : decode prog_14_method_56_code 22 = .ok (.aload_n 0, 1) := by decide +kernel
theorem eMd_begins_23 : decode prog_14_method_56_code 23 = .ok (.getfield 83, 3) := by decide +kernel
theorem eMd_begins_26 : decode prog_14_method_56_code 26 = .ok (.iconst 0, 1) := by decide +kernel
theorem eMd_begins_27 : decode prog_14_method_56_code 27 = .ok (.aload_n 0, 1) := by decide +kernel
theorem eMd_begins_28 : decode prog_14_method_56_code 28 = .ok (.aload_n 0, 1) := by decide +kernel
theorem eMd_begins_29 : decode prog_14_method_56_code 29 = .ok (.getfield 13, 3) := by decide +kernel
theorem eMd_begins_32 : decode prog_14_method_56_code 32 = .ok (.bipush 9, 2) := by decide +kernel
theorem eMd_begins_34 : decode prog_14_method_56_code 34 = .ok (.iaload, 1) := by decide +kernel
theorem eMd_begins_35 : decode prog_14_method_56_code 35 = .ok (.aload_n 0, 1) := by decide +kernel
theorem eMd_begins_36 : decode prog_14_method_56_code 36 = .ok (.getfield 13, 3) := by decide +kernel
theorem eMd_begins_39 : decode prog_14_method_56_code 39 = .ok (.bipush 10, 2) := by decide +kernel
theorem eMd_begins_41 : decode prog_14_method_56_code 41 = .ok (.iaload, 1) := by decide +kernel
theorem eMd_begins_42 : decode prog_14_method_56_code 42 = .ok (.invokevirtual 300, 3) := by decide +kernel
theorem eMd_begins_45 : decode prog_14_method_56_code 45 = .ok (.iastore, 1) := by decide +kernel
theorem eMd_begins_46 : decode prog_14_method_56_code 46 = .ok (.iconst 0, 1) := by decide +kernel
theorem eMd_begins_47 : decode prog_14_method_56_code 47 = .ok (.istore_n 1, 1) := by decide +kernel
theorem eMd_begins_48 : decode prog_14_method_56_code 48 = .ok (.iload_n 1, 1) := by decide +kernel
theorem eMd_begins_49 : decode prog_14_method_56_code 49 = .ok (.bipush 16, 2) := by decide +kernel
theorem eMd_begins_51 : decode prog_14_method_56_code 51 = .ok (.if_icmp .ge 24, 3) := by decide +kernel
theorem eMd_begins_54 : decode prog_14_method_56_code 54 = .ok (.aload_n 0, 1) := by decide +kernel
theorem eMd_begins_55 : decode prog_14_method_56_code 55 = .ok (.getfield 83, 3) := by decide +kernel
theorem eMd_begins_58 : decode prog_14_method_56_code 58 = .ok (.bipush 7, 2) := by decide +kernel
theorem eMd_begins_60 : decode prog_14_method_56_code 60 = .ok (.iload_n 1, 1) := by decide +kernel
theorem eMd_begins_61 : decode prog_14_method_56_code 61 = .ok (.iadd, 1) := by decide +kernel
theorem eMd_begins_62 : decode prog_14_method_56_code 62 = .ok (.aload_n 0, 1) := by decide +kernel
theorem eMd_begins_63 : decode prog_14_method_56_code 63 = .ok (.getfield 56, 3) := by decide +kernel
theorem eMd_begins_66 : decode prog_14_method_56_code 66 = .ok (.iload_n 1, 1) := by decide +kernel
theorem eMd_begins_67 : decode prog_14_method_56_code 67 = .ok (.iaload, 1) := by decide +kernel
theorem eMd_begins_68 : decode prog_14_method_56_code 68 = .ok (.iastore, 1) := by decide +kernel
theorem eMd_begins_69 : decode prog_14_method_56_code 69 = .ok (.iinc 1 1, 3) := by decide +kernel
theorem eMd_begins_72 : decode prog_14_method_56_code 72 = .ok (.goto (-24), 3) := by decide +kernel
theorem eMd_begins_75 : decode prog_14_method_56_code 75 = .ok (.aload_n 0, 1) := by decide +kernel
theorem eMd_begins_76 : decode prog_14_method_56_code 76 = .ok (.iconst 0, 1) := by decide +kernel
theorem eMd_begins_77 : decode prog_14_method_56_code 77 = .ok (.putfield 318, 3) := by decide +kernel
theorem eMd_begins_80 : decode prog_14_method_56_code 80 = .ok (.aload_n 0, 1) := by decide +kernel
theorem eMd_begins_81 : decode prog_14_method_56_code 81 = .ok (.iconst 0, 1) := by decide +kernel
theorem eMd_begins_82 : decode prog_14_method_56_code 82 = .ok (.putfield 321, 3) := by decide +kernel
theorem eMd_begins_85 : decode prog_14_method_56_code 85 = .ok (.aload_n 0, 1) := by decide +kernel
theorem eMd_begins_86 : decode prog_14_method_56_code 86 = .ok (.invokevirtual 324, 3) := by decide +kernel
theorem eMd_begins_89 : decode prog_14_method_56_code 89 = .ok (.return_, 1) := by decide +kernel
theorem eMd_asItIs_0 : decode prog_14_method_57_code 0 = .ok (.aload_n 0, 1) := by decide +kernel
theorem eMd_asItIs_1 : decode prog_14_method_57_code 1 = .ok (.aload_n 0, 1) := by decide +kernel
theorem eMd_asItIs_2 : decode prog_14_method_57_code 2 = .ok (.getfield 83, 3) := by decide +kernel
theorem eMd_asItIs_5 : decode prog_14_method_57_code 5 = .ok (.iconst 5, 1) := by decide +kernel
theorem eMd_asItIs_6 : decode prog_14_method_57_code 6 = .ok (.iaload, 1) := by decide +kernel
theorem eMd_asItIs_7 : decode prog_14_method_57_code 7 = .ok (.iconst 1, 1) := by decide +kernel
theorem eMd_asItIs_8 : decode prog_14_method_57_code 8 = .ok (.if_icmp .ne 7, 3) := by decide +kernel
theorem eMd_asItIs_11 : decode prog_14_method_57_code 11 = .ok (.iconst 1, 1) := by decide +kernel
theorem eMd_asItIs_12 : decode prog_14_method_57_code 12 = .ok (.goto 4, 3) := by decide +kernel
theorem eMd_asItIs_15 : decode prog_14_method_57_code 15 = .ok (.iconst 0, 1) := by decide +kernel
theorem eMd_asItIs_16 : decode prog_14_method_57_code 16 = .ok (.putfield 264, 3) := by decide +kernel
theorem eMd_asItIs_19 : decode prog_14_method_57_code 19 = .ok (.iconst 0, 1) := by decide +kernel
theorem eMd_asItIs_20 : decode prog_14_method_57_code 20 = .ok (.istore_n 1, 1) := by decide +kernel
theorem eMd_asItIs_21 : decode prog_14_method_57_code 21 = .ok (.iload_n 1, 1) := by decide +kernel
theorem eMd_asItIs_22 : decode prog_14_method_57_code 22 = .ok (.bipush 16, 2) := by decide +kernel
theorem eMd_asItIs_24 : decode prog_14_method_57_code 24 = .ok (.if_icmp .ge 24, 3) := by decide +kernel
theorem eMd_asItIs_27 : decode prog_14_method_57_code 27 = .ok (.aload_n 0, 1) := by decide +kernel
theorem eMd_asItIs_28 : decode prog_14_method_57_code 28 = .ok (.getfield 66, 3) := by decide +kernel
theorem eMd_asItIs_31 : decode prog_14_method_57_code 31 = .ok (.iload_n 1, 1) := by decide +kernel
theorem eMd_asItIs_32 : decode prog_14_method_57_code 32 = .ok (.aload_n 0, 1) := by decide +kernel
theorem eMd_asItIs_33 : decode prog_14_method_57_code 33 = .ok (.getfield 83, 3) := by decide +kernel
theorem eMd_asItIs_36 : decode prog_14_method_57_code 36 = .ok (.bipush 7, 2) := by decide +kernel
theorem eMd_asItIs_38 : decode prog_14_method_57_code 38 = .ok (.iload_n 1, 1) := by decide +kernel
theorem eMd_asItIs_39 : decode prog_14_method_57_code 39 = .ok (.iadd, 1) := by decide +kernel
theorem eMd_asItIs_40 : decode prog_14_method_57_code 40 = .ok (.iaload, 1) := by decide +kernel
theorem eMd_asItIs_41 : decode prog_14_method_57_code 41 = .ok (.iastore, 1) := by decide +kernel
theorem eMd_asItIs_42 : decode prog_14_method_57_code 42 = .ok (.iinc 1 1, 3) := by decide +kernel
theorem eMd_asItIs_45 : decode prog_14_method_57_code 45 = .ok (.goto (-24), 3) := by decide +kernel
theorem eMd_asItIs_48 : decode prog_14_method_57_code 48 = .ok (.aload_n 0, 1) := by decide +kernel
theorem eMd_asItIs_49 : decode prog_14_method_57_code 49 = .ok (.invokevirtual 327, 3) := by decide +kernel
theorem eMd_asItIs_52 : decode prog_14_method_57_code 52 = .ok (.return_, 1) := by decide +kernel
theorem eMd_laysKept_0 : decode prog_14_method_58_code 0 = .ok (.iconst 0, 1) := by decide +kernel
theorem eMd_laysKept_1 : decode prog_14_method_58_code 1 = .ok (.istore_n 2, 1) := by decide +kernel
theorem eMd_laysKept_2 : decode prog_14_method_58_code 2 = .ok (.iload_n 2, 1) := by decide +kernel
theorem eMd_laysKept_3 : decode prog_14_method_58_code 3 = .ok (.sipush 143, 3) := by decide +kernel
theorem eMd_laysKept_6 : decode prog_14_method_58_code 6 = .ok (.if_icmp .ge 27, 3) := by decide +kernel
theorem eMd_laysKept_9 : decode prog_14_method_58_code 9 = .ok (.aload_n 0, 1) := by decide +kernel
theorem eMd_laysKept_10 : decode prog_14_method_58_code 10 = .ok (.getfield 86, 3) := by decide +kernel
theorem eMd_laysKept_13 : decode prog_14_method_58_code 13 = .ok (.sipush 143, 3) := by decide +kernel
theorem eMd_laysKept_16 : decode prog_14_method_58_code 16 = .ok (.iload_n 1, 1) := by decide +kernel
theorem eMd_laysKept_17 : decode prog_14_method_58_code 17 = .ok (.imul, 1) := by decide +kernel
theorem eMd_laysKept_18 : decode prog_14_method_58_code 18 = .ok (.iload_n 2, 1) := by decide +kernel
theorem eMd_laysKept_19 : decode prog_14_method_58_code 19 = .ok (.iadd, 1) := by decide +kernel
theorem eMd_laysKept_20 : decode prog_14_method_58_code 20 = .ok (.aload_n 0, 1) := by decide +kernel
theorem eMd_laysKept_21 : decode prog_14_method_58_code 21 = .ok (.getfield 83, 3) := by decide +kernel
theorem eMd_laysKept_24 : decode prog_14_method_58_code 24 = .ok (.iload_n 2, 1) := by decide +kernel
theorem eMd_laysKept_25 : decode prog_14_method_58_code 25 = .ok (.iaload, 1) := by decide +kernel
theorem eMd_laysKept_26 : decode prog_14_method_58_code 26 = .ok (.iastore, 1) := by decide +kernel
theorem eMd_laysKept_27 : decode prog_14_method_58_code 27 = .ok (.iinc 2 1, 3) := by decide +kernel
theorem eMd_laysKept_30 : decode prog_14_method_58_code 30 = .ok (.goto (-28), 3) := by decide +kernel
theorem eMd_laysKept_33 : decode prog_14_method_58_code 33 = .ok (.return_, 1) := by decide +kernel
theorem eMd_laysBack_0 : decode prog_14_method_59_code 0 = .ok (.iconst 0, 1) := by decide +kernel
theorem eMd_laysBack_1 : decode prog_14_method_59_code 1 = .ok (.istore_n 2, 1) := by decide +kernel
theorem eMd_laysBack_2 : decode prog_14_method_59_code 2 = .ok (.iload_n 2, 1) := by decide +kernel
theorem eMd_laysBack_3 : decode prog_14_method_59_code 3 = .ok (.sipush 143, 3) := by decide +kernel
theorem eMd_laysBack_6 : decode prog_14_method_59_code 6 = .ok (.if_icmp .ge 27, 3) := by decide +kernel
theorem eMd_laysBack_9 : decode prog_14_method_59_code 9 = .ok (.aload_n 0, 1) := by decide +kernel
theorem eMd_laysBack_10 : decode prog_14_method_59_code 10 = .ok (.getfield 83, 3) := by decide +kernel
theorem eMd_laysBack_13 : decode prog_14_method_59_code 13 = .ok (.iload_n 2, 1) := by decide +kernel
theorem eMd_laysBack_14 : decode prog_14_method_59_code 14 = .ok (.aload_n 0, 1) := by decide +kernel
theorem eMd_laysBack_15 : decode prog_14_method_59_code 15 = .ok (.getfield 86, 3) := by decide +kernel
theorem eMd_laysBack_18 : decode prog_14_method_59_code 18 = .ok (.sipush 143, 3) := by decide +kernel
theorem eMd_laysBack_21 : decode prog_14_method_59_code 21 = .ok (.iload_n 1, 1) := by decide +kernel
theorem eMd_laysBack_22 : decode prog_14_method_59_code 22 = .ok (.imul, 1) := by decide +kernel
theorem eMd_laysBack_23 : decode prog_14_method_59_code 23 = .ok (.iload_n 2, 1) := by decide +kernel
theorem eMd_laysBack_24 : decode prog_14_method_59_code 24 = .ok (.iadd, 1) := by decide +kernel
theorem eMd_laysBack_25 : decode prog_14_method_59_code 25 = .ok (.iaload, 1) := by decide +kernel
theorem eMd_laysBack_26 : decode prog_14_method_59_code 26 = .ok (.iastore, 1) := by decide +kernel
theorem eMd_laysBack_27 : decode prog_14_method_59_code 27 = .ok (.iinc 2 1, 3) := by decide +kernel
theorem eMd_laysBack_30 : decode prog_14_method_59_code 30 = .ok (.goto (-28), 3) := by decide +kernel
theorem eMd_laysBack_33 : decode prog_14_method_59_code 33 = .ok (.aload_n 0, 1) := by decide +kernel
theorem eMd_laysBack_34 : decode prog_14_method_59_code 34 = .ok (.invokevirtual 324, 3) := by decide +kernel
theorem eMd_laysBack_37 : decode prog_14_method_59_code 37 = .ok (.return_, 1) := by decide +kernel
theorem eMd_remembers_0 : decode prog_14_method_60_code 0 = .ok (.aload_n 0, 1) := by decide +kernel
theorem eMd_remembers_1 : decode prog_14_method_60_code 1 = .ok (.getfield 318, 3) := by decide +kernel
theorem eMd_remembers_4 : decode prog_14_method_60_code 4 = .ok (.bipush 30, 2) := by decide +kernel
theorem eMd_remembers_6 : decode prog_14_method_60_code 6 = .ok (.if_icmp .ne 44, 3) := by decide +kernel
theorem eMd_remembers_9 : decode prog_14_method_60_code 9 = .ok (.iconst 0, 1) := by decide +kernel
theorem eMd_remembers_10 : decode prog_14_method_60_code 10 = .ok (.istore_n 1, 1) := by decide +kernel
theorem eMd_remembers_11 : decode prog_14_method_60_code 11 = .ok (.iload_n 1, 1) := by decide +kernel
theorem eMd_remembers_12 : decode prog_14_method_60_code 12 = .ok (.sipush 4147, 3) := by decide +kernel
theorem eMd_remembers_15 : decode prog_14_method_60_code 15 = .ok (.if_icmp .ge 25, 3) := by decide +kernel
theorem eMd_remembers_18 : decode prog_14_method_60_code 18 = .ok (.aload_n 0, 1) := by decide +kernel
theorem eMd_remembers_19 : decode prog_14_method_60_code 19 = .ok (.getfield 86, 3) := by decide +kernel
theorem eMd_remembers_22 : decode prog_14_method_60_code 22 = .ok (.iload_n 1, 1) := by decide +kernel
theorem eMd_remembers_23 : decode prog_14_method_60_code 23 = .ok (.aload_n 0, 1) := by decide +kernel
theorem eMd_remembers_24 : decode prog_14_method_60_code 24 = .ok (.getfield 86, 3) := by decide +kernel
theorem eMd_remembers_27 : decode prog_14_method_60_code 27 = .ok (.sipush 143, 3) := by decide +kernel
theorem eMd_remembers_30 : decode prog_14_method_60_code 30 = .ok (.iload_n 1, 1) := by decide +kernel
theorem eMd_remembers_31 : decode prog_14_method_60_code 31 = .ok (.iadd, 1) := by decide +kernel
theorem eMd_remembers_32 : decode prog_14_method_60_code 32 = .ok (.iaload, 1) := by decide +kernel
theorem eMd_remembers_33 : decode prog_14_method_60_code 33 = .ok (.iastore, 1) := by decide +kernel
theorem eMd_remembers_34 : decode prog_14_method_60_code 34 = .ok (.iinc 1 1, 3) := by decide +kernel
theorem eMd_remembers_37 : decode prog_14_method_60_code 37 = .ok (.goto (-26), 3) := by decide +kernel
theorem eMd_remembers_40 : decode prog_14_method_60_code 40 = .ok (.aload_n 0, 1) := by decide +kernel
theorem eMd_remembers_41 : decode prog_14_method_60_code 41 = .ok (.dup, 1) := by decide +kernel
theorem eMd_remembers_42 : decode prog_14_method_60_code 42 = .ok (.getfield 318, 3) := by decide +kernel
theorem eMd_remembers_45 : decode prog_14_method_60_code 45 = .ok (.iconst 1, 1) := by decide +kernel
theorem eMd_remembers_46 : decode prog_14_method_60_code 46 = .ok (.isub, 1) := by decide +kernel
theorem eMd_remembers_47 : decode prog_14_method_60_code 47 = .ok (.putfield 318, 3) := by decide +kernel
theorem eMd_remembers_50 : decode prog_14_method_60_code 50 = .ok (.aload_n 0, 1) := by decide +kernel
theorem eMd_remembers_51 : decode prog_14_method_60_code 51 = .ok (.aload_n 0, 1) := by decide +kernel
theorem eMd_remembers_52 : decode prog_14_method_60_code 52 = .ok (.getfield 318, 3) := by decide +kernel
theorem eMd_remembers_55 : decode prog_14_method_60_code 55 = .ok (.invokevirtual 330, 3) := by decide +kernel
theorem eMd_remembers_58 : decode prog_14_method_60_code 58 = .ok (.aload_n 0, 1) := by decide +kernel
theorem eMd_remembers_59 : decode prog_14_method_60_code 59 = .ok (.dup, 1) := by decide +kernel
theorem eMd_remembers_60 : decode prog_14_method_60_code 60 = .ok (.getfield 318, 3) := by decide +kernel
theorem eMd_remembers_63 : decode prog_14_method_60_code 63 = .ok (.iconst 1, 1) := by decide +kernel
theorem eMd_remembers_64 : decode prog_14_method_60_code 64 = .ok (.iadd, 1) := by decide +kernel
theorem eMd_remembers_65 : decode prog_14_method_60_code 65 = .ok (.putfield 318, 3) := by decide +kernel
theorem eMd_remembers_68 : decode prog_14_method_60_code 68 = .ok (.return_, 1) := by decide +kernel
theorem eMd_undo_0 : decode prog_14_method_61_code 0 = .ok (.aload_n 0, 1) := by decide +kernel
theorem eMd_undo_1 : decode prog_14_method_61_code 1 = .ok (.iconst 0, 1) := by decide +kernel
theorem eMd_undo_2 : decode prog_14_method_61_code 2 = .ok (.putfield 107, 3) := by decide +kernel
theorem eMd_undo_5 : decode prog_14_method_61_code 5 = .ok (.aload_n 0, 1) := by decide +kernel
theorem eMd_undo_6 : decode prog_14_method_61_code 6 = .ok (.getfield 318, 3) := by decide +kernel
theorem eMd_undo_9 : decode prog_14_method_61_code 9 = .ok (.ifCond .ne 5, 3) := by decide +kernel
theorem eMd_undo_12 : decode prog_14_method_61_code 12 = .ok (.iconst (-1), 1) := by decide +kernel
theorem eMd_undo_13 : decode prog_14_method_61_code 13 = .ok (.ireturn, 1) := by decide +kernel
theorem eMd_undo_14 : decode prog_14_method_61_code 14 = .ok (.aload_n 0, 1) := by decide +kernel
theorem eMd_undo_15 : decode prog_14_method_61_code 15 = .ok (.dup, 1) := by decide +kernel
theorem eMd_undo_16 : decode prog_14_method_61_code 16 = .ok (.getfield 318, 3) := by decide +kernel
theorem eMd_undo_19 : decode prog_14_method_61_code 19 = .ok (.iconst 1, 1) := by decide +kernel
theorem eMd_undo_20 : decode prog_14_method_61_code 20 = .ok (.isub, 1) := by decide +kernel
theorem eMd_undo_21 : decode prog_14_method_61_code 21 = .ok (.putfield 318, 3) := by decide +kernel
theorem eMd_undo_24 : decode prog_14_method_61_code 24 = .ok (.aload_n 0, 1) := by decide +kernel
theorem eMd_undo_25 : decode prog_14_method_61_code 25 = .ok (.aload_n 0, 1) := by decide +kernel
theorem eMd_undo_26 : decode prog_14_method_61_code 26 = .ok (.getfield 318, 3) := by decide +kernel
theorem eMd_undo_29 : decode prog_14_method_61_code 29 = .ok (.invokevirtual 333, 3) := by decide +kernel
theorem eMd_undo_32 : decode prog_14_method_61_code 32 = .ok (.aload_n 0, 1) := by decide +kernel
theorem eMd_undo_33 : decode prog_14_method_61_code 33 = .ok (.getfield 318, 3) := by decide +kernel
theorem eMd_undo_36 : decode prog_14_method_61_code 36 = .ok (.ireturn, 1) := by decide +kernel
theorem eMd_keep_0 : decode prog_14_method_62_code 0 = .ok (.aload_n 0, 1) := by decide +kernel
theorem eMd_keep_1 : decode prog_14_method_62_code 1 = .ok (.iconst 0, 1) := by decide +kernel
theorem eMd_keep_2 : decode prog_14_method_62_code 2 = .ok (.putfield 107, 3) := by decide +kernel
theorem eMd_keep_5 : decode prog_14_method_62_code 5 = .ok (.aload_n 0, 1) := by decide +kernel
theorem eMd_keep_6 : decode prog_14_method_62_code 6 = .ok (.bipush 30, 2) := by decide +kernel
theorem eMd_keep_8 : decode prog_14_method_62_code 8 = .ok (.invokevirtual 330, 3) := by decide +kernel
theorem eMd_keep_11 : decode prog_14_method_62_code 11 = .ok (.aload_n 0, 1) := by decide +kernel
theorem eMd_keep_12 : decode prog_14_method_62_code 12 = .ok (.iconst 1, 1) := by decide +kernel
theorem eMd_keep_13 : decode prog_14_method_62_code 13 = .ok (.putfield 321, 3) := by decide +kernel
theorem eMd_keep_16 : decode prog_14_method_62_code 16 = .ok (.aload_n 0, 1) := by decide +kernel
theorem eMd_keep_17 : decode prog_14_method_62_code 17 = .ok (.getfield 83, 3) := by decide +kernel
theorem eMd_keep_20 : decode prog_14_method_62_code 20 = .ok (.iconst 1, 1) := by decide +kernel
theorem eMd_keep_21 : decode prog_14_method_62_code 21 = .ok (.iaload, 1) := by decide +kernel
theorem eMd_keep_22 : decode prog_14_method_62_code 22 = .ok (.ireturn, 1) := by decide +kernel
theorem eMd_back_0 : decode prog_14_method_63_code 0 = .ok (.aload_n 0, 1) := by decide +kernel
theorem eMd_back_1 : decode prog_14_method_63_code 1 = .ok (.iconst 0, 1) := by decide +kernel
theorem eMd_back_2 : decode prog_14_method_63_code 2 = .ok (.putfield 107, 3) := by decide +kernel
theorem eMd_back_5 : decode prog_14_method_63_code 5 = .ok (.aload_n 0, 1) := by decide +kernel
theorem eMd_back_6 : decode prog_14_method_63_code 6 = .ok (.getfield 321, 3) := by decide +kernel
theorem eMd_back_9 : decode prog_14_method_63_code 9 = .ok (.ifCond .ne 5, 3) := by decide +kernel
theorem eMd_back_12 : decode prog_14_method_63_code 12 = .ok (.iconst (-1), 1) := by decide +kernel
theorem eMd_back_13 : decode prog_14_method_63_code 13 = .ok (.ireturn, 1) := by decide +kernel
theorem eMd_back_14 : decode prog_14_method_63_code 14 = .ok (.aload_n 0, 1) := by decide +kernel
theorem eMd_back_15 : decode prog_14_method_63_code 15 = .ok (.bipush 30, 2) := by decide +kernel
theorem eMd_back_17 : decode prog_14_method_63_code 17 = .ok (.invokevirtual 333, 3) := by decide +kernel
theorem eMd_back_20 : decode prog_14_method_63_code 20 = .ok (.aload_n 0, 1) := by decide +kernel
theorem eMd_back_21 : decode prog_14_method_63_code 21 = .ok (.iconst 0, 1) := by decide +kernel
theorem eMd_back_22 : decode prog_14_method_63_code 22 = .ok (.putfield 318, 3) := by decide +kernel
theorem eMd_back_25 : decode prog_14_method_63_code 25 = .ok (.aload_n 0, 1) := by decide +kernel
theorem eMd_back_26 : decode prog_14_method_63_code 26 = .ok (.getfield 83, 3) := by decide +kernel
theorem eMd_back_29 : decode prog_14_method_63_code 29 = .ok (.iconst 1, 1) := by decide +kernel
theorem eMd_back_30 : decode prog_14_method_63_code 30 = .ok (.iaload, 1) := by decide +kernel
theorem eMd_back_31 : decode prog_14_method_63_code 31 = .ok (.ireturn, 1) := by decide +kernel
theorem eMd_windAt_0 : decode prog_14_method_64_code 0 = .ok (.iconst 0, 1) := by decide +kernel
theorem eMd_windAt_1 : decode prog_14_method_64_code 1 = .ok (.istore_n 2, 1) := by decide +kernel
theorem eMd_windAt_2 : decode prog_14_method_64_code 2 = .ok (.iconst 0, 1) := by decide +kernel
theorem eMd_windAt_3 : decode prog_14_method_64_code 3 = .ok (.istore_n 3, 1) := by decide +kernel
theorem eMd_windAt_4 : decode prog_14_method_64_code 4 = .ok (.iload_n 3, 1) := by decide +kernel
theorem eMd_windAt_5 : decode prog_14_method_64_code 5 = .ok (.aload_n 0, 1) := by decide +kernel
theorem eMd_windAt_6 : decode prog_14_method_64_code 6 = .ok (.getfield 13, 3) := by decide +kernel
theorem eMd_windAt_9 : decode prog_14_method_64_code 9 = .ok (.bipush 6, 2) := by decide +kernel
theorem eMd_windAt_11 : decode prog_14_method_64_code 11 = .ok (.iaload, 1) := by decide +kernel
theorem eMd_windAt_12 : decode prog_14_method_64_code 12 = .ok (.if_icmp .ge 26, 3) := by decide +kernel
theorem eMd_windAt_15 : decode prog_14_method_64_code 15 = .ok (.aload_n 0, 1) := by decide +kernel
theorem eMd_windAt_16 : decode prog_14_method_64_code 16 = .ok (.getfield 38, 3) := by decide +kernel
theorem eMd_windAt_19 : decode prog_14_method_64_code 19 = .ok (.iload_n 3, 1) := by decide +kernel
theorem eMd_windAt_20 : decode prog_14_method_64_code 20 = .ok (.iaload, 1) := by decide +kernel
theorem eMd_windAt_21 : decode prog_14_method_64_code 21 = .ok (.iload_n 1, 1) := by decide +kernel
theorem eMd_windAt_22 : decode prog_14_method_64_code 22 = .ok (.if_icmp .ne 10, 3) := by decide +kernel
theorem eMd_windAt_25 : decode prog_14_method_64_code 25 = .ok (.aload_n 0, 1) := by decide +kernel
theorem eMd_windAt_26 : decode prog_14_method_64_code 26 = .ok (.getfield 41, 3) := by decide +kernel
theorem eMd_windAt_29 : decode prog_14_method_64_code 29 = .ok (.iload_n 3, 1) := by decide +kernel
theorem eMd_windAt_30 : decode prog_14_method_64_code 30 = .ok (.iaload, 1) := by decide +kernel
theorem eMd_windAt_31 : decode prog_14_method_64_code 31 = .ok (.istore_n 2, 1) := by decide +kernel
theorem eMd_windAt_32 : decode prog_14_method_64_code 32 = .ok (.iinc 3 1, 3) := by decide +kernel
theorem eMd_windAt_35 : decode prog_14_method_64_code 35 = .ok (.goto (-31), 3) := by decide +kernel
theorem eMd_windAt_38 : decode prog_14_method_64_code 38 = .ok (.iload_n 2, 1) := by decide +kernel
theorem eMd_windAt_39 : decode prog_14_method_64_code 39 = .ok (.ireturn, 1) := by decide +kernel
theorem eMd_gap_0 : decode prog_14_method_65_code 0 = .ok (.aload_n 0, 1) := by decide +kernel
theorem eMd_gap_1 : decode prog_14_method_65_code 1 = .ok (.iconst 0, 1) := by decide +kernel
theorem eMd_gap_2 : decode prog_14_method_65_code 2 = .ok (.putfield 107, 3) := by decide +kernel
theorem eMd_gap_5 : decode prog_14_method_65_code 5 = .ok (.aload_n 0, 1) := by decide +kernel
theorem eMd_gap_6 : decode prog_14_method_65_code 6 = .ok (.iload_n 1, 1) := by decide +kernel
theorem eMd_gap_7 : decode prog_14_method_65_code 7 = .ok (.invokevirtual 267, 3) := by decide +kernel
theorem eMd_gap_10 : decode prog_14_method_65_code 10 = .ok (.ifCond .eq 11, 3) := by decide +kernel
theorem eMd_gap_13 : decode prog_14_method_65_code 13 = .ok (.aload_n 0, 1) := by decide +kernel
theorem eMd_gap_14 : decode prog_14_method_65_code 14 = .ok (.iload_n 2, 1) := by decide +kernel
theorem eMd_gap_15 : decode prog_14_method_65_code 15 = .ok (.invokevirtual 267, 3) := by decide +kernel
theorem eMd_gap_18 : decode prog_14_method_65_code 18 = .ok (.ifCond .ne 5, 3) := by decide +kernel
theorem eMd_gap_21 : decode prog_14_method_65_code 21 = .ok (.iconst (-1), 1) := by decide +kernel
theorem eMd_gap_22 : decode prog_14_method_65_code 22 = .ok (.ireturn, 1) := by decide +kernel
theorem eMd_gap_23 : decode prog_14_method_65_code 23 = .ok (.aload_n 0, 1) := by decide +kernel
theorem eMd_gap_24 : decode prog_14_method_65_code 24 = .ok (.getfield 69, 3) := by decide +kernel
theorem eMd_gap_27 : decode prog_14_method_65_code 27 = .ok (.iload_n 1, 1) := by decide +kernel
theorem eMd_gap_28 : decode prog_14_method_65_code 28 = .ok (.iaload, 1) := by decide +kernel
theorem eMd_gap_29 : decode prog_14_method_65_code 29 = .ok (.istore_n 3, 1) := by decide +kernel
theorem eMd_gap_30 : decode prog_14_method_65_code 30 = .ok (.iload_n 1, 1) := by decide +kernel
theorem eMd_gap_31 : decode prog_14_method_65_code 31 = .ok (.istore 4, 2) := by decide +kernel
theorem eMd_gap_33 : decode prog_14_method_65_code 33 = .ok (.iload 4, 2) := by decide +kernel
theorem eMd_gap_35 : decode prog_14_method_65_code 35 = .ok (.iload_n 2, 1) := by decide +kernel
theorem eMd_gap_36 : decode prog_14_method_65_code 36 = .ok (.if_icmp .eq 44, 3) := by decide +kernel
theorem eMd_gap_39 : decode prog_14_method_65_code 39 = .ok (.aload_n 0, 1) := by decide +kernel
theorem eMd_gap_40 : decode prog_14_method_65_code 40 = .ok (.getfield 69, 3) := by decide +kernel
theorem eMd_gap_43 : decode prog_14_method_65_code 43 = .ok (.iload 4, 2) := by decide +kernel
theorem eMd_gap_45 : decode prog_14_method_65_code 45 = .ok (.iaload, 1) := by decide +kernel
theorem eMd_gap_46 : decode prog_14_method_65_code 46 = .ok (.iload_n 3, 1) := by decide +kernel
theorem eMd_gap_47 : decode prog_14_method_65_code 47 = .ok (.if_icmp .ge 13, 3) := by decide +kernel
theorem eMd_gap_50 : decode prog_14_method_65_code 50 = .ok (.aload_n 0, 1) := by decide +kernel
theorem eMd_gap_51 : decode prog_14_method_65_code 51 = .ok (.getfield 69, 3) := by decide +kernel
theorem eMd_gap_54 : decode prog_14_method_65_code 54 = .ok (.iload 4, 2) := by decide +kernel
theorem eMd_gap_56 : decode prog_14_method_65_code 56 = .ok (.iaload, 1) := by decide +kernel
theorem eMd_gap_57 : decode prog_14_method_65_code 57 = .ok (.goto 4, 3) := by decide +kernel
theorem eMd_gap_60 : decode prog_14_method_65_code 60 = .ok (.iload_n 3, 1) := by decide +kernel
theorem eMd_gap_61 : decode prog_14_method_65_code 61 = .ok (.istore_n 3, 1) := by decide +kernel
theorem eMd_gap_62 : decode prog_14_method_65_code 62 = .ok (.iload 4, 2) := by decide +kernel
theorem eMd_gap_64 : decode prog_14_method_65_code 64 = .ok (.iload_n 1, 1) := by decide +kernel
theorem eMd_gap_65 : decode prog_14_method_65_code 65 = .ok (.iload_n 2, 1) := by decide +kernel
theorem eMd_gap_66 : decode prog_14_method_65_code 66 = .ok (.if_icmp .ge 7, 3) := by decide +kernel
theorem eMd_gap_69 : decode prog_14_method_65_code 69 = .ok (.iconst 1, 1) := by decide +kernel
theorem eMd_gap_70 : decode prog_14_method_65_code 70 = .ok (.goto 4, 3) := by decide +kernel
theorem eMd_gap_73 : decode prog_14_method_65_code 73 = .ok (.iconst (-1), 1) := by decide +kernel
theorem eMd_gap_74 : decode prog_14_method_65_code 74 = .ok (.iadd, 1) := by decide +kernel
theorem eMd_gap_75 : decode prog_14_method_65_code 75 = .ok (.istore 4, 2) := by decide +kernel
theorem eMd_gap_77 : decode prog_14_method_65_code 77 = .ok (.goto (-44), 3) := by decide +kernel
theorem eMd_gap_80 : decode prog_14_method_65_code 80 = .ok (.aload_n 0, 1) := by decide +kernel
theorem eMd_gap_81 : decode prog_14_method_65_code 81 = .ok (.getfield 69, 3) := by decide +kernel
theorem eMd_gap_84 : decode prog_14_method_65_code 84 = .ok (.iload_n 2, 1) := by decide +kernel
theorem eMd_gap_85 : decode prog_14_method_65_code 85 = .ok (.iaload, 1) := by decide +kernel
theorem eMd_gap_86 : decode prog_14_method_65_code 86 = .ok (.iload_n 3, 1) := by decide +kernel
theorem eMd_gap_87 : decode prog_14_method_65_code 87 = .ok (.if_icmp .ge 12, 3) := by decide +kernel
theorem eMd_gap_90 : decode prog_14_method_65_code 90 = .ok (.aload_n 0, 1) := by decide +kernel
theorem eMd_gap_91 : decode prog_14_method_65_code 91 = .ok (.getfield 69, 3) := by decide +kernel
theorem eMd_gap_94 : decode prog_14_method_65_code 94 = .ok (.iload_n 2, 1) := by decide +kernel
theorem eMd_gap_95 : decode prog_14_method_65_code 95 = .ok (.iaload, 1) := by decide +kernel
theorem eMd_gap_96 : decode prog_14_method_65_code 96 = .ok (.goto 4, 3) := by decide +kernel
theorem eMd_gap_99 : decode prog_14_method_65_code 99 = .ok (.iload_n 3, 1) := by decide +kernel
theorem eMd_gap_100 : decode prog_14_method_65_code 100 = .ok (.ireturn, 1) := by decide +kernel
theorem eMd_wind_0 : decode prog_14_method_66_code 0 = .ok (.aload_n 0, 1) := by decide +kernel
theorem eMd_wind_1 : decode prog_14_method_66_code 1 = .ok (.iconst 0, 1) := by decide +kernel
theorem eMd_wind_2 : decode prog_14_method_66_code 2 = .ok (.putfield 107, 3) := by decide +kernel
theorem eMd_wind_5 : decode prog_14_method_66_code 5 = .ok (.aload_n 0, 1) := by decide +kernel
theorem eMd_wind_6 : decode prog_14_method_66_code 6 = .ok (.iload_n 1, 1) := by decide +kernel
theorem eMd_wind_7 : decode prog_14_method_66_code 7 = .ok (.invokevirtual 336, 3) := by decide +kernel
theorem eMd_wind_10 : decode prog_14_method_66_code 10 = .ok (.ireturn, 1) := by decide +kernel
theorem eMd_canStep_0 : decode prog_14_method_67_code 0 = .ok (.aload_n 0, 1) := by decide +kernel
theorem eMd_canStep_1 : decode prog_14_method_67_code 1 = .ok (.iload_n 1, 1) := by decide +kernel
theorem eMd_canStep_2 : decode prog_14_method_67_code 2 = .ok (.invokevirtual 287, 3) := by decide +kernel
theorem eMd_canStep_5 : decode prog_14_method_67_code 5 = .ok (.aload_n 0, 1) := by decide +kernel
theorem eMd_canStep_6 : decode prog_14_method_67_code 6 = .ok (.iload_n 2, 1) := by decide +kernel
theorem eMd_canStep_7 : decode prog_14_method_67_code 7 = .ok (.iload_n 3, 1) := by decide +kernel
theorem eMd_canStep_8 : decode prog_14_method_67_code 8 = .ok (.invokevirtual 315, 3) := by decide +kernel
theorem eMd_canStep_11 : decode prog_14_method_67_code 11 = .ok (.aload_n 0, 1) := by decide +kernel
theorem eMd_canStep_12 : decode prog_14_method_67_code 12 = .ok (.invokevirtual 277, 3) := by decide +kernel
theorem eMd_canStep_15 : decode prog_14_method_67_code 15 = .ok (.ifCond .ne 7, 3) := by decide +kernel
theorem eMd_canStep_18 : decode prog_14_method_67_code 18 = .ok (.iconst 1, 1) := by decide +kernel
theorem eMd_canStep_19 : decode prog_14_method_67_code 19 = .ok (.goto 4, 3) := by decide +kernel
theorem eMd_canStep_22 : decode prog_14_method_67_code 22 = .ok (.iconst 0, 1) := by decide +kernel
theorem eMd_canStep_23 : decode prog_14_method_67_code 23 = .ok (.ireturn, 1) := by decide +kernel
theorem eMd_notes_0 : decode prog_14_method_68_code 0 = .ok (.bipush 39, 2) := by decide +kernel
theorem eMd_notes_2 : decode prog_14_method_68_code 2 = .ok (.istore_n 2, 1) := by decide +kernel
theorem eMd_notes_3 : decode prog_14_method_68_code 3 = .ok (.iload_n 2, 1) := by decide +kernel
theorem eMd_notes_4 : decode prog_14_method_68_code 4 = .ok (.ifCond .le 69, 3) := by decide +kernel
theorem eMd_notes_7 : decode prog_14_method_68_code 7 = .ok (.aload_n 0, 1) := by decide +kernel
theorem eMd_notes_8 : decode prog_14_method_68_code 8 = .ok (.getfield 83, 3) := by decide +kernel
theorem eMd_notes_11 : decode prog_14_method_68_code 11 = .ok (.bipush 23, 2) := by decide +kernel
theorem eMd_notes_13 : decode prog_14_method_68_code 13 = .ok (.iload_n 2, 1) := by decide +kernel
theorem eMd_notes_14 : decode prog_14_method_68_code 14 = .ok (.iadd, 1) := by decide +kernel
theorem eMd_notes_15 : decode prog_14_method_68_code 15 = .ok (.aload_n 0, 1) := by decide +kernel
theorem eMd_notes_16 : decode prog_14_method_68_code 16 = .ok (.getfield 83, 3) := by decide +kernel
theorem eMd_notes_19 : decode prog_14_method_68_code 19 = .ok (.bipush 23, 2) := by decide +kernel
theorem eMd_notes_21 : decode prog_14_method_68_code 21 = .ok (.iload_n 2, 1) := by decide +kernel
theorem eMd_notes_22 : decode prog_14_method_68_code 22 = .ok (.iadd, 1) := by decide +kernel
theorem eMd_notes_23 : decode prog_14_method_68_code 23 = .ok (.iconst 1, 1) := by decide +kernel
theorem eMd_notes_24 : decode prog_14_method_68_code 24 = .ok (.isub, 1) := by decide +kernel
theorem eMd_notes_25 : decode prog_14_method_68_code 25 = .ok (.iaload, 1) := by decide +kernel
theorem eMd_notes_26 : decode prog_14_method_68_code 26 = .ok (.iastore, 1) := by decide +kernel
theorem eMd_notes_27 : decode prog_14_method_68_code 27 = .ok (.aload_n 0, 1) := by decide +kernel
theorem eMd_notes_28 : decode prog_14_method_68_code 28 = .ok (.getfield 83, 3) := by decide +kernel
theorem eMd_notes_31 : decode prog_14_method_68_code 31 = .ok (.bipush 63, 2) := by decide +kernel
theorem eMd_notes_33 : decode prog_14_method_68_code 33 = .ok (.iload_n 2, 1) := by decide +kernel
theorem eMd_notes_34 : decode prog_14_method_68_code 34 = .ok (.iadd, 1) := by decide +kernel
theorem eMd_notes_35 : decode prog_14_method_68_code 35 = .ok (.aload_n 0, 1) := by decide +kernel
theorem eMd_notes_36 : decode prog_14_method_68_code 36 = .ok (.getfield 83, 3) := by decide +kernel
theorem eMd_notes_39 : decode prog_14_method_68_code 39 = .ok (.bipush 63, 2) := by decide +kernel
theorem eMd_notes_41 : decode prog_14_method_68_code 41 = .ok (.iload_n 2, 1) := by decide +kernel
theorem eMd_notes_42 : decode prog_14_method_68_code 42 = .ok (.iadd, 1) := by decide +kernel
theorem eMd_notes_43 : decode prog_14_method_68_code 43 = .ok (.iconst 1, 1) := by decide +kernel
theorem eMd_notes_44 : decode prog_14_method_68_code 44 = .ok (.isub, 1) := by decide +kernel
theorem eMd_notes_45 : decode prog_14_method_68_code 45 = .ok (.iaload, 1) := by decide +kernel
theorem eMd_notes_46 : decode prog_14_method_68_code 46 = .ok (.iastore, 1) := by decide +kernel
theorem eMd_notes_47 : decode prog_14_method_68_code 47 = .ok (.aload_n 0, 1) := by decide +kernel
theorem eMd_notes_48 : decode prog_14_method_68_code 48 = .ok (.getfield 83, 3) := by decide +kernel
theorem eMd_notes_51 : decode prog_14_method_68_code 51 = .ok (.bipush 103, 2) := by decide +kernel
theorem eMd_notes_53 : decode prog_14_method_68_code 53 = .ok (.iload_n 2, 1) := by decide +kernel
theorem eMd_notes_54 : decode prog_14_method_68_code 54 = .ok (.iadd, 1) := by decide +kernel
theorem eMd_notes_55 : decode prog_14_method_68_code 55 = .ok (.aload_n 0, 1) := by decide +kernel
theorem eMd_notes_56 : decode prog_14_method_68_code 56 = .ok (.getfield 83, 3) := by decide +kernel
theorem eMd_notes_59 : decode prog_14_method_68_code 59 = .ok (.bipush 103, 2) := by decide +kernel
theorem eMd_notes_61 : decode prog_14_method_68_code 61 = .ok (.iload_n 2, 1) := by decide +kernel
theorem eMd_notes_62 : decode prog_14_method_68_code 62 = .ok (.iadd, 1) := by decide +kernel
theorem eMd_notes_63 : decode prog_14_method_68_code 63 = .ok (.iconst 1, 1) := by decide +kernel
theorem eMd_notes_64 : decode prog_14_method_68_code 64 = .ok (.isub, 1) := by decide +kernel
theorem eMd_notes_65 : decode prog_14_method_68_code 65 = .ok (.iaload, 1) := by decide +kernel
theorem eMd_notes_66 : decode prog_14_method_68_code 66 = .ok (.iastore, 1) := by decide +kernel
theorem eMd_notes_67 : decode prog_14_method_68_code 67 = .ok (.iinc 2 (-1), 3) := by decide +kernel
theorem eMd_notes_70 : decode prog_14_method_68_code 70 = .ok (.goto (-67), 3) := by decide +kernel
theorem eMd_notes_73 : decode prog_14_method_68_code 73 = .ok (.iload_n 1, 1) := by decide +kernel
theorem eMd_notes_74 : decode prog_14_method_68_code 74 = .ok (.iconst 3, 1) := by decide +kernel
theorem eMd_notes_75 : decode prog_14_method_68_code 75 = .ok (.idiv, 1) := by decide +kernel
theorem eMd_notes_76 : decode prog_14_method_68_code 76 = .ok (.ifCond .ne 8, 3) := by decide +kernel
theorem eMd_notes_79 : decode prog_14_method_68_code 79 = .ok (.bipush 119, 2) := by decide +kernel
theorem eMd_notes_81 : decode prog_14_method_68_code 81 = .ok (.goto 17, 3) := by decide +kernel
theorem eMd_notes_84 : decode prog_14_method_68_code 84 = .ok (.iload_n 1, 1) := by decide +kernel
theorem eMd_notes_85 : decode prog_14_method_68_code 85 = .ok (.iconst 3, 1) := by decide +kernel
theorem eMd_notes_86 : decode prog_14_method_68_code 86 = .ok (.idiv, 1) := by decide +kernel
theorem eMd_notes_87 : decode prog_14_method_68_code 87 = .ok (.iconst 1, 1) := by decide +kernel
theorem eMd_notes_88 : decode prog_14_method_68_code 88 = .ok (.if_icmp .ne 8, 3) := by decide +kernel
theorem eMd_notes_91 : decode prog_14_method_68_code 91 = .ok (.bipush 110, 2) := by decide +kernel
theorem eMd_notes_93 : decode prog_14_method_68_code 93 = .ok (.goto 5, 3) := by decide +kernel
theorem eMd_notes_96 : decode prog_14_method_68_code 96 = .ok (.bipush 101, 2) := by decide +kernel
theorem eMd_notes_98 : decode prog_14_method_68_code 98 = .ok (.istore_n 2, 1) := by decide +kernel
theorem eMd_notes_99 : decode prog_14_method_68_code 99 = .ok (.aload_n 0, 1) := by decide +kernel
theorem eMd_notes_100 : decode prog_14_method_68_code 100 = .ok (.getfield 83, 3) := by decide +kernel
theorem eMd_notes_103 : decode prog_14_method_68_code 103 = .ok (.bipush 23, 2) := by decide +kernel
theorem eMd_notes_105 : decode prog_14_method_68_code 105 = .ok (.iload_n 1, 1) := by decide +kernel
theorem eMd_notes_106 : decode prog_14_method_68_code 106 = .ok (.iconst 3, 1) := by decide +kernel
theorem eMd_notes_107 : decode prog_14_method_68_code 107 = .ok (.irem, 1) := by decide +kernel
theorem eMd_notes_108 : decode prog_14_method_68_code 108 = .ok (.iconst 2, 1) := by decide +kernel
theorem eMd_notes_109 : decode prog_14_method_68_code 109 = .ok (.if_icmp .ne 10, 3) := by decide +kernel
theorem eMd_notes_112 : decode prog_14_method_68_code 112 = .ok (.iload_n 2, 1) := by decide +kernel
theorem eMd_notes_113 : decode prog_14_method_68_code 113 = .ok (.bipush 32, 2) := by decide +kernel
theorem eMd_notes_115 : decode prog_14_method_68_code 115 = .ok (.isub, 1) := by decide +kernel
theorem eMd_notes_116 : decode prog_14_method_68_code 116 = .ok (.goto 4, 3) := by decide +kernel
theorem eMd_notes_119 : decode prog_14_method_68_code 119 = .ok (.iload_n 2, 1) := by decide +kernel
theorem eMd_notes_120 : decode prog_14_method_68_code 120 = .ok (.iastore, 1) := by decide +kernel
theorem eMd_notes_121 : decode prog_14_method_68_code 121 = .ok (.aload_n 0, 1) := by decide +kernel
theorem eMd_notes_122 : decode prog_14_method_68_code 122 = .ok (.getfield 83, 3) := by decide +kernel
theorem eMd_notes_125 : decode prog_14_method_68_code 125 = .ok (.bipush 63, 2) := by decide +kernel
theorem eMd_notes_127 : decode prog_14_method_68_code 127 = .ok (.iload_n 1, 1) := by decide +kernel
theorem eMd_notes_128 : decode prog_14_method_68_code 128 = .ok (.iconst 3, 1) := by decide +kernel
theorem eMd_notes_129 : decode prog_14_method_68_code 129 = .ok (.irem, 1) := by decide +kernel
theorem eMd_notes_130 : decode prog_14_method_68_code 130 = .ok (.ifCond .ne 7, 3) := by decide +kernel
theorem eMd_notes_133 : decode prog_14_method_68_code 133 = .ok (.iconst 1, 1) := by decide +kernel
theorem eMd_notes_134 : decode prog_14_method_68_code 134 = .ok (.goto 4, 3) := by decide +kernel
theorem eMd_notes_137 : decode prog_14_method_68_code 137 = .ok (.iconst 0, 1) := by decide +kernel
theorem eMd_notes_138 : decode prog_14_method_68_code 138 = .ok (.iastore, 1) := by decide +kernel
theorem eMd_notes_139 : decode prog_14_method_68_code 139 = .ok (.aload_n 0, 1) := by decide +kernel
theorem eMd_notes_140 : decode prog_14_method_68_code 140 = .ok (.getfield 83, 3) := by decide +kernel
theorem eMd_notes_143 : decode prog_14_method_68_code 143 = .ok (.bipush 103, 2) := by decide +kernel
theorem eMd_notes_145 : decode prog_14_method_68_code 145 = .ok (.aload_n 0, 1) := by decide +kernel
theorem eMd_notes_146 : decode prog_14_method_68_code 146 = .ok (.getfield 83, 3) := by decide +kernel
theorem eMd_notes_149 : decode prog_14_method_68_code 149 = .ok (.iconst 1, 1) := by decide +kernel
theorem eMd_notes_150 : decode prog_14_method_68_code 150 = .ok (.iaload, 1) := by decide +kernel
theorem eMd_notes_151 : decode prog_14_method_68_code 151 = .ok (.iastore, 1) := by decide +kernel
theorem eMd_notes_152 : decode prog_14_method_68_code 152 = .ok (.aload_n 0, 1) := by decide +kernel
theorem eMd_notes_153 : decode prog_14_method_68_code 153 = .ok (.getfield 83, 3) := by decide +kernel
theorem eMd_notes_156 : decode prog_14_method_68_code 156 = .ok (.bipush 6, 2) := by decide +kernel
theorem eMd_notes_158 : decode prog_14_method_68_code 158 = .ok (.aload_n 0, 1) := by decide +kernel
theorem eMd_notes_159 : decode prog_14_method_68_code 159 = .ok (.getfield 83, 3) := by decide +kernel
theorem eMd_notes_162 : decode prog_14_method_68_code 162 = .ok (.bipush 6, 2) := by decide +kernel
theorem eMd_notes_164 : decode prog_14_method_68_code 164 = .ok (.iaload, 1) := by decide +kernel
theorem eMd_notes_165 : decode prog_14_method_68_code 165 = .ok (.bipush 40, 2) := by decide +kernel
theorem eMd_notes_167 : decode prog_14_method_68_code 167 = .ok (.if_icmp .ge 15, 3) := by decide +kernel
theorem eMd_notes_170 : decode prog_14_method_68_code 170 = .ok (.aload_n 0, 1) := by decide +kernel
theorem eMd_notes_171 : decode prog_14_method_68_code 171 = .ok (.getfield 83, 3) := by decide +kernel
theorem eMd_notes_174 : decode prog_14_method_68_code 174 = .ok (.bipush 6, 2) := by decide +kernel
theorem eMd_notes_176 : decode prog_14_method_68_code 176 = .ok (.iaload, 1) := by decide +kernel
theorem eMd_notes_177 : decode prog_14_method_68_code 177 = .ok (.iconst 1, 1) := by decide +kernel
theorem eMd_notes_178 : decode prog_14_method_68_code 178 = .ok (.iadd, 1) := by decide +kernel
theorem eMd_notes_179 : decode prog_14_method_68_code 179 = .ok (.goto 5, 3) := by decide +kernel
theorem eMd_notes_182 : decode prog_14_method_68_code 182 = .ok (.bipush 40, 2) := by decide +kernel
theorem eMd_notes_184 : decode prog_14_method_68_code 184 = .ok (.iastore, 1) := by decide +kernel
theorem eMd_notes_185 : decode prog_14_method_68_code 185 = .ok (.return_, 1) := by decide +kernel
theorem eMd_ticks_0 : decode prog_14_method_69_code 0 = .ok (.aload_n 0, 1) := by decide +kernel
theorem eMd_ticks_1 : decode prog_14_method_69_code 1 = .ok (.getfield 83, 3) := by decide +kernel
theorem eMd_ticks_4 : decode prog_14_method_69_code 4 = .ok (.iconst 1, 1) := by decide +kernel
theorem eMd_ticks_5 : decode prog_14_method_69_code 5 = .ok (.iaload, 1) := by decide +kernel
theorem eMd_ticks_6 : decode prog_14_method_69_code 6 = .ok (.sipush 9999, 3) := by decide +kernel
theorem eMd_ticks_9 : decode prog_14_method_69_code 9 = .ok (.if_icmp .eq 27, 3) := by decide +kernel
theorem eMd_ticks_12 : decode prog_14_method_69_code 12 = .ok (.aload_n 0, 1) := by decide +kernel
theorem eMd_ticks_13 : decode prog_14_method_69_code 13 = .ok (.aload_n 0, 1) := by decide +kernel
theorem eMd_ticks_14 : decode prog_14_method_69_code 14 = .ok (.getfield 83, 3) := by decide +kernel
theorem eMd_ticks_17 : decode prog_14_method_69_code 17 = .ok (.iconst 0, 1) := by decide +kernel
theorem eMd_ticks_18 : decode prog_14_method_69_code 18 = .ok (.iaload, 1) := by decide +kernel
theorem eMd_ticks_19 : decode prog_14_method_69_code 19 = .ok (.iload_n 1, 1) := by decide +kernel
theorem eMd_ticks_20 : decode prog_14_method_69_code 20 = .ok (.aload_n 0, 1) := by decide +kernel
theorem eMd_ticks_21 : decode prog_14_method_69_code 21 = .ok (.aload_n 0, 1) := by decide +kernel
theorem eMd_ticks_22 : decode prog_14_method_69_code 22 = .ok (.getfield 83, 3) := by decide +kernel
theorem eMd_ticks_25 : decode prog_14_method_69_code 25 = .ok (.iconst 1, 1) := by decide +kernel
theorem eMd_ticks_26 : decode prog_14_method_69_code 26 = .ok (.iaload, 1) := by decide +kernel
theorem eMd_ticks_27 : decode prog_14_method_69_code 27 = .ok (.invokevirtual 336, 3) := by decide +kernel
theorem eMd_ticks_30 : decode prog_14_method_69_code 30 = .ok (.invokevirtual 338, 3) := by decide +kernel
theorem eMd_ticks_33 : decode prog_14_method_69_code 33 = .ok (.ifCond .ne 5, 3) := by decide +kernel
theorem eMd_ticks_36 : decode prog_14_method_69_code 36 = .ok (.iconst 0, 1) := by decide +kernel
theorem eMd_ticks_37 : decode prog_14_method_69_code 37 = .ok (.ireturn, 1) := by decide +kernel
theorem eMd_ticks_38 : decode prog_14_method_69_code 38 = .ok (.aload_n 0, 1) := by decide +kernel
theorem eMd_ticks_39 : decode prog_14_method_69_code 39 = .ok (.invokevirtual 312, 3) := by decide +kernel
theorem eMd_ticks_42 : decode prog_14_method_69_code 42 = .ok (.istore_n 2, 1) := by decide +kernel
theorem eMd_ticks_43 : decode prog_14_method_69_code 43 = .ok (.aload_n 0, 1) := by decide +kernel
theorem eMd_ticks_44 : decode prog_14_method_69_code 44 = .ok (.invokevirtual 342, 3) := by decide +kernel
theorem eMd_ticks_47 : decode prog_14_method_69_code 47 = .ok (.aload_n 0, 1) := by decide +kernel
theorem eMd_ticks_48 : decode prog_14_method_69_code 48 = .ok (.getfield 83, 3) := by decide +kernel
theorem eMd_ticks_51 : decode prog_14_method_69_code 51 = .ok (.iconst 0, 1) := by decide +kernel
theorem eMd_ticks_52 : decode prog_14_method_69_code 52 = .ok (.iload_n 2, 1) := by decide +kernel
theorem eMd_ticks_53 : decode prog_14_method_69_code 53 = .ok (.iastore, 1) := by decide +kernel
theorem eMd_ticks_54 : decode prog_14_method_69_code 54 = .ok (.aload_n 0, 1) := by decide +kernel
theorem eMd_ticks_55 : decode prog_14_method_69_code 55 = .ok (.iload_n 1, 1) := by decide +kernel
theorem eMd_ticks_56 : decode prog_14_method_69_code 56 = .ok (.invokevirtual 345, 3) := by decide +kernel
theorem eMd_ticks_59 : decode prog_14_method_69_code 59 = .ok (.aload_n 0, 1) := by decide +kernel
theorem eMd_ticks_60 : decode prog_14_method_69_code 60 = .ok (.getfield 83, 3) := by decide +kernel
theorem eMd_ticks_63 : decode prog_14_method_69_code 63 = .ok (.iconst 1, 1) := by decide +kernel
theorem eMd_ticks_64 : decode prog_14_method_69_code 64 = .ok (.dup2, 1) := by decide +kernel
theorem eMd_ticks_65 : decode prog_14_method_69_code 65 = .ok (.iaload, 1) := by decide +kernel
theorem eMd_ticks_66 : decode prog_14_method_69_code 66 = .ok (.iconst 1, 1) := by decide +kernel
theorem eMd_ticks_67 : decode prog_14_method_69_code 67 = .ok (.iadd, 1) := by decide +kernel
theorem eMd_ticks_68 : decode prog_14_method_69_code 68 = .ok (.iastore, 1) := by decide +kernel
theorem eMd_ticks_69 : decode prog_14_method_69_code 69 = .ok (.iconst 1, 1) := by decide +kernel
theorem eMd_ticks_70 : decode prog_14_method_69_code 70 = .ok (.ireturn, 1) := by decide +kernel
theorem eMd_step_0 : decode prog_14_method_70_code 0 = .ok (.aload_n 0, 1) := by decide +kernel
theorem eMd_step_1 : decode prog_14_method_70_code 1 = .ok (.iconst 0, 1) := by decide +kernel
theorem eMd_step_2 : decode prog_14_method_70_code 2 = .ok (.putfield 107, 3) := by decide +kernel
theorem eMd_step_5 : decode prog_14_method_70_code 5 = .ok (.iload_n 1, 1) := by decide +kernel
theorem eMd_step_6 : decode prog_14_method_70_code 6 = .ok (.iconst (-1), 1) := by decide +kernel
theorem eMd_step_7 : decode prog_14_method_70_code 7 = .ok (.if_icmp .lt 18, 3) := by decide +kernel
theorem eMd_step_10 : decode prog_14_method_70_code 10 = .ok (.iload_n 1, 1) := by decide +kernel
theorem eMd_step_11 : decode prog_14_method_70_code 11 = .ok (.iconst 1, 1) := by decide +kernel
theorem eMd_step_12 : decode prog_14_method_70_code 12 = .ok (.if_icmp .gt 13, 3) := by decide +kernel
theorem eMd_step_15 : decode prog_14_method_70_code 15 = .ok (.iload_n 2, 1) := by decide +kernel
theorem eMd_step_16 : decode prog_14_method_70_code 16 = .ok (.iconst (-1), 1) := by decide +kernel
theorem eMd_step_17 : decode prog_14_method_70_code 17 = .ok (.if_icmp .lt 8, 3) := by decide +kernel
theorem eMd_step_20 : decode prog_14_method_70_code 20 = .ok (.iload_n 2, 1) := by decide +kernel
theorem eMd_step_21 : decode prog_14_method_70_code 21 = .ok (.iconst 1, 1) := by decide +kernel
theorem eMd_step_22 : decode prog_14_method_70_code 22 = .ok (.if_icmp .le 5, 3) := by decide +kernel
theorem eMd_step_25 : decode prog_14_method_70_code 25 = .ok (.iconst (-1), 1) := by decide +kernel
theorem eMd_step_26 : decode prog_14_method_70_code 26 = .ok (.ireturn, 1) := by decide +kernel
theorem eMd_step_27 : decode prog_14_method_70_code 27 = .ok (.aload_n 0, 1) := by decide +kernel
theorem eMd_step_28 : decode prog_14_method_70_code 28 = .ok (.iconst 3, 1) := by decide +kernel
theorem eMd_step_29 : decode prog_14_method_70_code 29 = .ok (.iload_n 1, 1) := by decide +kernel
theorem eMd_step_30 : decode prog_14_method_70_code 30 = .ok (.iconst 1, 1) := by decide +kernel
theorem eMd_step_31 : decode prog_14_method_70_code 31 = .ok (.iadd, 1) := by decide +kernel
theorem eMd_step_32 : decode prog_14_method_70_code 32 = .ok (.imul, 1) := by decide +kernel
theorem eMd_step_33 : decode prog_14_method_70_code 33 = .ok (.iload_n 2, 1) := by decide +kernel
theorem eMd_step_34 : decode prog_14_method_70_code 34 = .ok (.iadd, 1) := by decide +kernel
theorem eMd_step_35 : decode prog_14_method_70_code 35 = .ok (.iconst 1, 1) := by decide +kernel
theorem eMd_step_36 : decode prog_14_method_70_code 36 = .ok (.iadd, 1) := by decide +kernel
theorem eMd_step_37 : decode prog_14_method_70_code 37 = .ok (.invokevirtual 348, 3) := by decide +kernel
theorem eMd_step_40 : decode prog_14_method_70_code 40 = .ok (.ifCond .eq 12, 3) := by decide +kernel
theorem eMd_step_43 : decode prog_14_method_70_code 43 = .ok (.aload_n 0, 1) := by decide +kernel
theorem eMd_step_44 : decode prog_14_method_70_code 44 = .ok (.getfield 83, 3) := by decide +kernel
theorem eMd_step_47 : decode prog_14_method_70_code 47 = .ok (.iconst 1, 1) := by decide +kernel
theorem eMd_step_48 : decode prog_14_method_70_code 48 = .ok (.iaload, 1) := by decide +kernel
theorem eMd_step_49 : decode prog_14_method_70_code 49 = .ok (.goto 5, 3) := by decide +kernel
theorem eMd_step_52 : decode prog_14_method_70_code 52 = .ok (.bipush (-2), 2) := by decide +kernel
theorem eMd_step_54 : decode prog_14_method_70_code 54 = .ok (.ireturn, 1) := by decide +kernel
theorem eMd_stillStep_0 : decode prog_14_method_71_code 0 = .ok (.aload_n 0, 1) := by decide +kernel
theorem eMd_stillStep_1 : decode prog_14_method_71_code 1 = .ok (.iload_n 1, 1) := by decide +kernel
theorem eMd_stillStep_2 : decode prog_14_method_71_code 2 = .ok (.invokevirtual 303, 3) := by decide +kernel
theorem eMd_stillStep_5 : decode prog_14_method_71_code 5 = .ok (.ifCond .ne 5, 3) := by decide +kernel
theorem eMd_stillStep_8 : decode prog_14_method_71_code 8 = .ok (.iconst 4, 1) := by decide +kernel
theorem eMd_stillStep_9 : decode prog_14_method_71_code 9 = .ok (.ireturn, 1) := by decide +kernel
theorem eMd_stillStep_10 : decode prog_14_method_71_code 10 = .ok (.aload_n 0, 1) := by decide +kernel
theorem eMd_stillStep_11 : decode prog_14_method_71_code 11 = .ok (.iconst (-1), 1) := by decide +kernel
theorem eMd_stillStep_12 : decode prog_14_method_71_code 12 = .ok (.iconst 0, 1) := by decide +kernel
theorem eMd_stillStep_13 : decode prog_14_method_71_code 13 = .ok (.invokevirtual 351, 3) := by decide +kernel
theorem eMd_stillStep_16 : decode prog_14_method_71_code 16 = .ok (.aload_n 0, 1) := by decide +kernel
theorem eMd_stillStep_17 : decode prog_14_method_71_code 17 = .ok (.getfield 73, 3) := by decide +kernel
theorem eMd_stillStep_20 : decode prog_14_method_71_code 20 = .ok (.iload_n 1, 1) := by decide +kernel
theorem eMd_stillStep_21 : decode prog_14_method_71_code 21 = .ok (.saload, 1) := by decide +kernel
theorem eMd_stillStep_22 : decode prog_14_method_71_code 22 = .ok (.ifCond .eq 15, 3) := by decide +kernel
theorem eMd_stillStep_25 : decode prog_14_method_71_code 25 = .ok (.aload_n 0, 1) := by decide +kernel
theorem eMd_stillStep_26 : decode prog_14_method_71_code 26 = .ok (.getfield 73, 3) := by decide +kernel
theorem eMd_stillStep_29 : decode prog_14_method_71_code 29 = .ok (.iload_n 1, 1) := by decide +kernel
theorem eMd_stillStep_30 : decode prog_14_method_71_code 30 = .ok (.saload, 1) := by decide +kernel
theorem eMd_stillStep_31 : decode prog_14_method_71_code 31 = .ok (.sipush 30000, 3) := by decide +kernel
theorem eMd_stillStep_34 : decode prog_14_method_71_code 34 = .ok (.if_icmp .ne 7, 3) := by decide +kernel
theorem eMd_stillStep_37 : decode prog_14_method_71_code 37 = .ok (.iconst 4, 1) := by decide +kernel
theorem eMd_stillStep_38 : decode prog_14_method_71_code 38 = .ok (.goto 8, 3) := by decide +kernel
theorem eMd_stillStep_41 : decode prog_14_method_71_code 41 = .ok (.aload_n 0, 1) := by decide +kernel
theorem eMd_stillStep_42 : decode prog_14_method_71_code 42 = .ok (.iload_n 1, 1) := by decide +kernel
theorem eMd_stillStep_43 : decode prog_14_method_71_code 43 = .ok (.invokevirtual 355, 3) := by decide +kernel
theorem eMd_stillStep_46 : decode prog_14_method_71_code 46 = .ok (.ireturn, 1) := by decide +kernel
theorem eMd_codeOf_0 : decode prog_14_method_72_code 0 = .ok (.iload_n 1, 1) := by decide +kernel
theorem eMd_codeOf_1 : decode prog_14_method_72_code 1 = .ok (.tableswitch 46 12 16 #[35, 38, 40, 42, 44], 35) := by decide +kernel
theorem eMd_codeOf_36 : decode prog_14_method_72_code 36 = .ok (.bipush 7, 2) := by decide +kernel
theorem eMd_codeOf_38 : decode prog_14_method_72_code 38 = .ok (.ireturn, 1) := by decide +kernel
theorem eMd_codeOf_39 : decode prog_14_method_72_code 39 = .ok (.iconst 1, 1) := by decide +kernel
theorem eMd_codeOf_40 : decode prog_14_method_72_code 40 = .ok (.ireturn, 1) := by decide +kernel
theorem eMd_codeOf_41 : decode prog_14_method_72_code 41 = .ok (.iconst 3, 1) := by decide +kernel
theorem eMd_codeOf_42 : decode prog_14_method_72_code 42 = .ok (.ireturn, 1) := by decide +kernel
theorem eMd_codeOf_43 : decode prog_14_method_72_code 43 = .ok (.iconst 5, 1) := by decide +kernel
theorem eMd_codeOf_44 : decode prog_14_method_72_code 44 = .ok (.ireturn, 1) := by decide +kernel
theorem eMd_codeOf_45 : decode prog_14_method_72_code 45 = .ok (.iconst 4, 1) := by decide +kernel
theorem eMd_codeOf_46 : decode prog_14_method_72_code 46 = .ok (.ireturn, 1) := by decide +kernel
theorem eMd_codeOf_47 : decode prog_14_method_72_code 47 = .ok (.aload_n 0, 1) := by decide +kernel
theorem eMd_codeOf_48 : decode prog_14_method_72_code 48 = .ok (.aload_n 0, 1) := by decide +kernel
theorem eMd_codeOf_49 : decode prog_14_method_72_code 49 = .ok (.getfield 83, 3) := by decide +kernel
theorem eMd_codeOf_52 : decode prog_14_method_72_code 52 = .ok (.iconst 0, 1) := by decide +kernel
theorem eMd_codeOf_53 : decode prog_14_method_72_code 53 = .ok (.iaload, 1) := by decide +kernel
theorem eMd_codeOf_54 : decode prog_14_method_72_code 54 = .ok (.invokevirtual 358, 3) := by decide +kernel
theorem eMd_codeOf_57 : decode prog_14_method_72_code 57 = .ok (.ireturn, 1) := by decide +kernel
theorem eMd_flow_0 : decode prog_14_method_73_code 0 = .ok (.aload_n 0, 1) := by decide +kernel
theorem eMd_flow_1 : decode prog_14_method_73_code 1 = .ok (.iconst 0, 1) := by decide +kernel
theorem eMd_flow_2 : decode prog_14_method_73_code 2 = .ok (.putfield 107, 3) := by decide +kernel
theorem eMd_flow_5 : decode prog_14_method_73_code 5 = .ok (.iload_n 1, 1) := by decide +kernel
theorem eMd_flow_6 : decode prog_14_method_73_code 6 = .ok (.iconst 1, 1) := by decide +kernel
theorem eMd_flow_7 : decode prog_14_method_73_code 7 = .ok (.if_icmp .lt 9, 3) := by decide +kernel
theorem eMd_flow_10 : decode prog_14_method_73_code 10 = .ok (.iload_n 1, 1) := by decide +kernel
theorem eMd_flow_11 : decode prog_14_method_73_code 11 = .ok (.bipush 40, 2) := by decide +kernel
theorem eMd_flow_13 : decode prog_14_method_73_code 13 = .ok (.if_icmp .le 5, 3) := by decide +kernel
theorem eMd_flow_16 : decode prog_14_method_73_code 16 = .ok (.iconst (-1), 1) := by decide +kernel
theorem eMd_flow_17 : decode prog_14_method_73_code 17 = .ok (.ireturn, 1) := by decide +kernel
theorem eMd_flow_18 : decode prog_14_method_73_code 18 = .ok (.iconst 0, 1) := by decide +kernel
theorem eMd_flow_19 : decode prog_14_method_73_code 19 = .ok (.istore_n 2, 1) := by decide +kernel
theorem eMd_flow_20 : decode prog_14_method_73_code 20 = .ok (.iload_n 2, 1) := by decide +kernel
theorem eMd_flow_21 : decode prog_14_method_73_code 21 = .ok (.iload_n 1, 1) := by decide +kernel
theorem eMd_flow_22 : decode prog_14_method_73_code 22 = .ok (.if_icmp .ge 103, 3) := by decide +kernel
theorem eMd_flow_25 : decode prog_14_method_73_code 25 = .ok (.aload_n 0, 1) := by decide +kernel
theorem eMd_flow_26 : decode prog_14_method_73_code 26 = .ok (.getfield 83, 3) := by decide +kernel
theorem eMd_flow_29 : decode prog_14_method_73_code 29 = .ok (.iconst 2, 1) := by decide +kernel
theorem eMd_flow_30 : decode prog_14_method_73_code 30 = .ok (.iaload, 1) := by decide +kernel
theorem eMd_flow_31 : decode prog_14_method_73_code 31 = .ok (.aload_n 0, 1) := by decide +kernel
theorem eMd_flow_32 : decode prog_14_method_73_code 32 = .ok (.getfield 13, 3) := by decide +kernel
theorem eMd_flow_35 : decode prog_14_method_73_code 35 = .ok (.iconst 5, 1) := by decide +kernel
theorem eMd_flow_36 : decode prog_14_method_73_code 36 = .ok (.iaload, 1) := by decide +kernel
theorem eMd_flow_37 : decode prog_14_method_73_code 37 = .ok (.if_icmp .ge 88, 3) := by decide +kernel
theorem eMd_flow_40 : decode prog_14_method_73_code 40 = .ok (.aload_n 0, 1) := by decide +kernel
theorem eMd_flow_41 : decode prog_14_method_73_code 41 = .ok (.aload_n 0, 1) := by decide +kernel
theorem eMd_flow_42 : decode prog_14_method_73_code 42 = .ok (.aload_n 0, 1) := by decide +kernel
theorem eMd_flow_43 : decode prog_14_method_73_code 43 = .ok (.getfield 44, 3) := by decide +kernel
theorem eMd_flow_46 : decode prog_14_method_73_code 46 = .ok (.aload_n 0, 1) := by decide +kernel
theorem eMd_flow_47 : decode prog_14_method_73_code 47 = .ok (.getfield 83, 3) := by decide +kernel
theorem eMd_flow_50 : decode prog_14_method_73_code 50 = .ok (.iconst 2, 1) := by decide +kernel
theorem eMd_flow_51 : decode prog_14_method_73_code 51 = .ok (.iaload, 1) := by decide +kernel
theorem eMd_flow_52 : decode prog_14_method_73_code 52 = .ok (.iaload, 1) := by decide +kernel
theorem eMd_flow_53 : decode prog_14_method_73_code 53 = .ok (.invokevirtual 361, 3) := by decide +kernel
theorem eMd_flow_56 : decode prog_14_method_73_code 56 = .ok (.invokevirtual 348, 3) := by decide +kernel
theorem eMd_flow_59 : decode prog_14_method_73_code 59 = .ok (.ifCond .eq 66, 3) := by decide +kernel
theorem eMd_flow_62 : decode prog_14_method_73_code 62 = .ok (.iinc 2 1, 3) := by decide +kernel
theorem eMd_flow_65 : decode prog_14_method_73_code 65 = .ok (.aload_n 0, 1) := by decide +kernel
theorem eMd_flow_66 : decode prog_14_method_73_code 66 = .ok (.getfield 83, 3) := by decide +kernel
theorem eMd_flow_69 : decode prog_14_method_73_code 69 = .ok (.iconst 4, 1) := by decide +kernel
theorem eMd_flow_70 : decode prog_14_method_73_code 70 = .ok (.dup2, 1) := by decide +kernel
theorem eMd_flow_71 : decode prog_14_method_73_code 71 = .ok (.iaload, 1) := by decide +kernel
theorem eMd_flow_72 : decode prog_14_method_73_code 72 = .ok (.iconst 1, 1) := by decide +kernel
theorem eMd_flow_73 : decode prog_14_method_73_code 73 = .ok (.iadd, 1) := by decide +kernel
theorem eMd_flow_74 : decode prog_14_method_73_code 74 = .ok (.iastore, 1) := by decide +kernel
theorem eMd_flow_75 : decode prog_14_method_73_code 75 = .ok (.aload_n 0, 1) := by decide +kernel
theorem eMd_flow_76 : decode prog_14_method_73_code 76 = .ok (.getfield 83, 3) := by decide +kernel
theorem eMd_flow_79 : decode prog_14_method_73_code 79 = .ok (.iconst 3, 1) := by decide +kernel
theorem eMd_flow_80 : decode prog_14_method_73_code 80 = .ok (.dup2, 1) := by decide +kernel
theorem eMd_flow_81 : decode prog_14_method_73_code 81 = .ok (.iaload, 1) := by decide +kernel
theorem eMd_flow_82 : decode prog_14_method_73_code 82 = .ok (.iconst 1, 1) := by decide +kernel
theorem eMd_flow_83 : decode prog_14_method_73_code 83 = .ok (.iadd, 1) := by decide +kernel
theorem eMd_flow_84 : decode prog_14_method_73_code 84 = .ok (.iastore, 1) := by decide +kernel
theorem eMd_flow_85 : decode prog_14_method_73_code 85 = .ok (.aload_n 0, 1) := by decide +kernel
theorem eMd_flow_86 : decode prog_14_method_73_code 86 = .ok (.getfield 83, 3) := by decide +kernel
theorem eMd_flow_89 : decode prog_14_method_73_code 89 = .ok (.iconst 3, 1) := by decide +kernel
theorem eMd_flow_90 : decode prog_14_method_73_code 90 = .ok (.iaload, 1) := by decide +kernel
theorem eMd_flow_91 : decode prog_14_method_73_code 91 = .ok (.aload_n 0, 1) := by decide +kernel
theorem eMd_flow_92 : decode prog_14_method_73_code 92 = .ok (.getfield 47, 3) := by decide +kernel
theorem eMd_flow_95 : decode prog_14_method_73_code 95 = .ok (.aload_n 0, 1) := by decide +kernel
theorem eMd_flow_96 : decode prog_14_method_73_code 96 = .ok (.getfield 83, 3) := by decide +kernel
theorem eMd_flow_99 : decode prog_14_method_73_code 99 = .ok (.iconst 2, 1) := by decide +kernel
theorem eMd_flow_100 : decode prog_14_method_73_code 100 = .ok (.iaload, 1) := by decide +kernel
theorem eMd_flow_101 : decode prog_14_method_73_code 101 = .ok (.iaload, 1) := by decide +kernel
theorem eMd_flow_102 : decode prog_14_method_73_code 102 = .ok (.if_icmp .ne (-82), 3) := by decide +kernel
theorem eMd_flow_105 : decode prog_14_method_73_code 105 = .ok (.aload_n 0, 1) := by decide +kernel
theorem eMd_flow_106 : decode prog_14_method_73_code 106 = .ok (.getfield 83, 3) := by decide +kernel
theorem eMd_flow_109 : decode prog_14_method_73_code 109 = .ok (.iconst 3, 1) := by decide +kernel
theorem eMd_flow_110 : decode prog_14_method_73_code 110 = .ok (.iconst 0, 1) := by decide +kernel
theorem eMd_flow_111 : decode prog_14_method_73_code 111 = .ok (.iastore, 1) := by decide +kernel
theorem eMd_flow_112 : decode prog_14_method_73_code 112 = .ok (.aload_n 0, 1) := by decide +kernel
theorem eMd_flow_113 : decode prog_14_method_73_code 113 = .ok (.getfield 83, 3) := by decide +kernel
theorem eMd_flow_116 : decode prog_14_method_73_code 116 = .ok (.iconst 2, 1) := by decide +kernel
theorem eMd_flow_117 : decode prog_14_method_73_code 117 = .ok (.dup2, 1) := by decide +kernel
theorem eMd_flow_118 : decode prog_14_method_73_code 118 = .ok (.iaload, 1) := by decide +kernel
theorem eMd_flow_119 : decode prog_14_method_73_code 119 = .ok (.iconst 1, 1) := by decide +kernel
theorem eMd_flow_120 : decode prog_14_method_73_code 120 = .ok (.iadd, 1) := by decide +kernel
theorem eMd_flow_121 : decode prog_14_method_73_code 121 = .ok (.iastore, 1) := by decide +kernel
theorem eMd_flow_122 : decode prog_14_method_73_code 122 = .ok (.goto (-102), 3) := by decide +kernel
theorem eMd_flow_125 : decode prog_14_method_73_code 125 = .ok (.iload_n 2, 1) := by decide +kernel
theorem eMd_flow_126 : decode prog_14_method_73_code 126 = .ok (.ireturn, 1) := by decide +kernel
theorem eMd_isStillNow_0 : decode prog_14_method_74_code 0 = .ok (.aload_n 0, 1) := by decide +kernel
theorem eMd_isStillNow_1 : decode prog_14_method_74_code 1 = .ok (.aload_n 0, 1) := by decide +kernel
theorem eMd_isStillNow_2 : decode prog_14_method_74_code 2 = .ok (.getfield 83, 3) := by decide +kernel
theorem eMd_isStillNow_5 : decode prog_14_method_74_code 5 = .ok (.iconst 0, 1) := by decide +kernel
theorem eMd_isStillNow_6 : decode prog_14_method_74_code 6 = .ok (.iaload, 1) := by decide +kernel
theorem eMd_isStillNow_7 : decode prog_14_method_74_code 7 = .ok (.invokevirtual 287, 3) := by decide +kernel
theorem eMd_isStillNow_10 : decode prog_14_method_74_code 10 = .ok (.aload_n 0, 1) := by decide +kernel
theorem eMd_isStillNow_11 : decode prog_14_method_74_code 11 = .ok (.getfield 255, 3) := by decide +kernel
theorem eMd_isStillNow_14 : decode prog_14_method_74_code 14 = .ok (.ifCond .ne 21, 3) := by decide +kernel
theorem eMd_isStillNow_17 : decode prog_14_method_74_code 17 = .ok (.aload_n 0, 1) := by decide +kernel
theorem eMd_isStillNow_18 : decode prog_14_method_74_code 18 = .ok (.getfield 252, 3) := by decide +kernel
theorem eMd_isStillNow_21 : decode prog_14_method_74_code 21 = .ok (.ifCond .ne 14, 3) := by decide +kernel
theorem eMd_isStillNow_24 : decode prog_14_method_74_code 24 = .ok (.aload_n 0, 1) := by decide +kernel
theorem eMd_isStillNow_25 : decode prog_14_method_74_code 25 = .ok (.getfield 249, 3) := by decide +kernel
theorem eMd_isStillNow_28 : decode prog_14_method_74_code 28 = .ok (.ifCond .ne 7, 3) := by decide +kernel
theorem eMd_isStillNow_31 : decode prog_14_method_74_code 31 = .ok (.iconst 1, 1) := by decide +kernel
theorem eMd_isStillNow_32 : decode prog_14_method_74_code 32 = .ok (.goto 4, 3) := by decide +kernel
theorem eMd_isStillNow_35 : decode prog_14_method_74_code 35 = .ok (.iconst 0, 1) := by decide +kernel
theorem eMd_isStillNow_36 : decode prog_14_method_74_code 36 = .ok (.ireturn, 1) := by decide +kernel
theorem eMd_whyNow_0 : decode prog_14_method_75_code 0 = .ok (.aload_n 0, 1) := by decide +kernel
theorem eMd_whyNow_1 : decode prog_14_method_75_code 1 = .ok (.aload_n 0, 1) := by decide +kernel
theorem eMd_whyNow_2 : decode prog_14_method_75_code 2 = .ok (.getfield 83, 3) := by decide +kernel
theorem eMd_whyNow_5 : decode prog_14_method_75_code 5 = .ok (.iconst 0, 1) := by decide +kernel
theorem eMd_whyNow_6 : decode prog_14_method_75_code 6 = .ok (.iaload, 1) := by decide +kernel
theorem eMd_whyNow_7 : decode prog_14_method_75_code 7 = .ok (.invokevirtual 287, 3) := by decide +kernel
theorem eMd_whyNow_10 : decode prog_14_method_75_code 10 = .ok (.aload_n 0, 1) := by decide +kernel
theorem eMd_whyNow_11 : decode prog_14_method_75_code 11 = .ok (.invokevirtual 277, 3) := by decide +kernel
theorem eMd_whyNow_14 : decode prog_14_method_75_code 14 = .ok (.ireturn, 1) := by decide +kernel
theorem eMd_now_0 : decode prog_14_method_76_code 0 = .ok (.aload_n 0, 1) := by decide +kernel
theorem eMd_now_1 : decode prog_14_method_76_code 1 = .ok (.iconst 0, 1) := by decide +kernel
theorem eMd_now_2 : decode prog_14_method_76_code 2 = .ok (.putfield 107, 3) := by decide +kernel
theorem eMd_now_5 : decode prog_14_method_76_code 5 = .ok (.iload_n 1, 1) := by decide +kernel
theorem eMd_now_6 : decode prog_14_method_76_code 6 = .ok (.ifCond .ge 10, 3) := by decide +kernel
theorem eMd_now_9 : decode prog_14_method_76_code 9 = .ok (.aload_n 0, 1) := by decide +kernel
theorem eMd_now_10 : decode prog_14_method_76_code 10 = .ok (.iconst 1, 1) := by decide +kernel
theorem eMd_now_11 : decode prog_14_method_76_code 11 = .ok (.putfield 107, 3) := by decide +kernel
theorem eMd_now_14 : decode prog_14_method_76_code 14 = .ok (.iconst 0, 1) := by decide +kernel
theorem eMd_now_15 : decode prog_14_method_76_code 15 = .ok (.ireturn, 1) := by decide +kernel
theorem eMd_now_16 : decode prog_14_method_76_code 16 = .ok (.iload_n 1, 1) := by decide +kernel
theorem eMd_now_17 : decode prog_14_method_76_code 17 = .ok (.bipush 8, 2) := by decide +kernel
theorem eMd_now_19 : decode prog_14_method_76_code 19 = .ok (.if_icmp .le 10, 3) := by decide +kernel
theorem eMd_now_22 : decode prog_14_method_76_code 22 = .ok (.aload_n 0, 1) := by decide +kernel
theorem eMd_now_23 : decode prog_14_method_76_code 23 = .ok (.iconst 2, 1) := by decide +kernel
theorem eMd_now_24 : decode prog_14_method_76_code 24 = .ok (.putfield 107, 3) := by decide +kernel
theorem eMd_now_27 : decode prog_14_method_76_code 27 = .ok (.iconst 0, 1) := by decide +kernel
theorem eMd_now_28 : decode prog_14_method_76_code 28 = .ok (.ireturn, 1) := by decide +kernel
theorem eMd_now_29 : decode prog_14_method_76_code 29 = .ok (.aload_n 0, 1) := by decide +kernel
theorem eMd_now_30 : decode prog_14_method_76_code 30 = .ok (.invokevirtual 364, 3) := by decide +kernel
theorem eMd_now_33 : decode prog_14_method_76_code 33 = .ok (.istore_n 2, 1) := by decide +kernel
theorem eMd_now_34 : decode prog_14_method_76_code 34 = .ok (.iload_n 1, 1) := by decide +kernel
theorem eMd_now_35 : decode prog_14_method_76_code 35 = .ok (.tableswitch 95 0 7 #[45, 50, 55, 60, 65, 70, 80, 93], 45) := by decide +kernel
theorem eMd_now_80 : decode prog_14_method_76_code 80 = .ok (.aload_n 0, 1) := by decide +kernel
theorem eMd_now_81 : decode prog_14_method_76_code 81 = .ok (.getfield 258, 3) := by decide +kernel
theorem eMd_now_84 : decode prog_14_method_76_code 84 = .ok (.ireturn, 1) := by decide +kernel
theorem eMd_now_85 : decode prog_14_method_76_code 85 = .ok (.aload_n 0, 1) := by decide +kernel
theorem eMd_now_86 : decode prog_14_method_76_code 86 = .ok (.getfield 255, 3) := by decide +kernel
theorem eMd_now_89 : decode prog_14_method_76_code 89 = .ok (.ireturn, 1) := by decide +kernel
theorem eMd_now_90 : decode prog_14_method_76_code 90 = .ok (.aload_n 0, 1) := by decide +kernel
theorem eMd_now_91 : decode prog_14_method_76_code 91 = .ok (.getfield 252, 3) := by decide +kernel
theorem eMd_now_94 : decode prog_14_method_76_code 94 = .ok (.ireturn, 1) := by decide +kernel
theorem eMd_now_95 : decode prog_14_method_76_code 95 = .ok (.aload_n 0, 1) := by decide +kernel
theorem eMd_now_96 : decode prog_14_method_76_code 96 = .ok (.getfield 249, 3) := by decide +kernel
theorem eMd_now_99 : decode prog_14_method_76_code 99 = .ok (.ireturn, 1) := by decide +kernel
theorem eMd_now_100 : decode prog_14_method_76_code 100 = .ok (.aload_n 0, 1) := by decide +kernel
theorem eMd_now_101 : decode prog_14_method_76_code 101 = .ok (.getfield 246, 3) := by decide +kernel
theorem eMd_now_104 : decode prog_14_method_76_code 104 = .ok (.ireturn, 1) := by decide +kernel
theorem eMd_now_105 : decode prog_14_method_76_code 105 = .ok (.aload_n 0, 1) := by decide +kernel
theorem eMd_now_106 : decode prog_14_method_76_code 106 = .ok (.getfield 258, 3) := by decide +kernel
theorem eMd_now_109 : decode prog_14_method_76_code 109 = .ok (.aload_n 0, 1) := by decide +kernel
theorem eMd_now_110 : decode prog_14_method_76_code 110 = .ok (.getfield 252, 3) := by decide +kernel
theorem eMd_now_113 : decode prog_14_method_76_code 113 = .ok (.iadd, 1) := by decide +kernel
theorem eMd_now_114 : decode prog_14_method_76_code 114 = .ok (.ireturn, 1) := by decide +kernel
theorem eMd_now_115 : decode prog_14_method_76_code 115 = .ok (.aload_n 0, 1) := by decide +kernel
theorem eMd_now_116 : decode prog_14_method_76_code 116 = .ok (.invokevirtual 367, 3) := by decide +kernel
theorem eMd_now_119 : decode prog_14_method_76_code 119 = .ok (.ifCond .eq 7, 3) := by decide +kernel
theorem eMd_now_122 : decode prog_14_method_76_code 122 = .ok (.iconst 1, 1) := by decide +kernel
theorem eMd_now_123 : decode prog_14_method_76_code 123 = .ok (.goto 4, 3) := by decide +kernel
theorem eMd_now_126 : decode prog_14_method_76_code 126 = .ok (.iconst 0, 1) := by decide +kernel
theorem eMd_now_127 : decode prog_14_method_76_code 127 = .ok (.ireturn, 1) := by decide +kernel
theorem eMd_now_128 : decode prog_14_method_76_code 128 = .ok (.iload_n 2, 1) := by decide +kernel
theorem eMd_now_129 : decode prog_14_method_76_code 129 = .ok (.ireturn, 1) := by decide +kernel
theorem eMd_now_130 : decode prog_14_method_76_code 130 = .ok (.aload_n 0, 1) := by decide +kernel
theorem eMd_now_131 : decode prog_14_method_76_code 131 = .ok (.getfield 83, 3) := by decide +kernel
theorem eMd_now_134 : decode prog_14_method_76_code 134 = .ok (.iconst 5, 1) := by decide +kernel
theorem eMd_now_135 : decode prog_14_method_76_code 135 = .ok (.iaload, 1) := by decide +kernel
theorem eMd_now_136 : decode prog_14_method_76_code 136 = .ok (.ireturn, 1) := by decide +kernel
theorem eMd_canGrab_0 : decode prog_14_method_77_code 0 = .ok (.aload_n 0, 1) := by decide +kernel
theorem eMd_canGrab_1 : decode prog_14_method_77_code 1 = .ok (.invokevirtual 364, 3) := by decide +kernel
theorem eMd_canGrab_4 : decode prog_14_method_77_code 4 = .ok (.ifCond .ne 49, 3) := by decide +kernel
theorem eMd_canGrab_7 : decode prog_14_method_77_code 7 = .ok (.aload_n 0, 1) := by decide +kernel
theorem eMd_canGrab_8 : decode prog_14_method_77_code 8 = .ok (.invokevirtual 367, 3) := by decide +kernel
theorem eMd_canGrab_11 : decode prog_14_method_77_code 11 = .ok (.ifCond .eq 42, 3) := by decide +kernel
theorem eMd_canGrab_14 : decode prog_14_method_77_code 14 = .ok (.aload_n 0, 1) := by decide +kernel
theorem eMd_canGrab_15 : decode prog_14_method_77_code 15 = .ok (.getfield 264, 3) := by decide +kernel
theorem eMd_canGrab_18 : decode prog_14_method_77_code 18 = .ok (.ifCond .ne 35, 3) := by decide +kernel
theorem eMd_canGrab_21 : decode prog_14_method_77_code 21 = .ok (.aload_n 0, 1) := by decide +kernel
theorem eMd_canGrab_22 : decode prog_14_method_77_code 22 = .ok (.getfield 66, 3) := by decide +kernel
theorem eMd_canGrab_25 : decode prog_14_method_77_code 25 = .ok (.aload_n 0, 1) := by decide +kernel
theorem eMd_canGrab_26 : decode prog_14_method_77_code 26 = .ok (.getfield 258, 3) := by decide +kernel
theorem eMd_canGrab_29 : decode prog_14_method_77_code 29 = .ok (.iaload, 1) := by decide +kernel
theorem eMd_canGrab_30 : decode prog_14_method_77_code 30 = .ok (.ifCond .le 23, 3) := by decide +kernel
theorem eMd_canGrab_33 : decode prog_14_method_77_code 33 = .ok (.aload_n 0, 1) := by decide +kernel
theorem eMd_canGrab_34 : decode prog_14_method_77_code 34 = .ok (.getfield 246, 3) := by decide +kernel
theorem eMd_canGrab_37 : decode prog_14_method_77_code 37 = .ok (.aload_n 0, 1) := by decide +kernel
theorem eMd_canGrab_38 : decode prog_14_method_77_code 38 = .ok (.getfield 69, 3) := by decide +kernel
theorem eMd_canGrab_41 : decode prog_14_method_77_code 41 = .ok (.aload_n 0, 1) := by decide +kernel
theorem eMd_canGrab_42 : decode prog_14_method_77_code 42 = .ok (.getfield 258, 3) := by decide +kernel
theorem eMd_canGrab_45 : decode prog_14_method_77_code 45 = .ok (.iaload, 1) := by decide +kernel
theorem eMd_canGrab_46 : decode prog_14_method_77_code 46 = .ok (.if_icmp .ne 7, 3) := by decide +kernel
theorem eMd_canGrab_49 : decode prog_14_method_77_code 49 = .ok (.iconst 1, 1) := by decide +kernel
theorem eMd_canGrab_50 : decode prog_14_method_77_code 50 = .ok (.goto 4, 3) := by decide +kernel
theorem eMd_canGrab_53 : decode prog_14_method_77_code 53 = .ok (.iconst 0, 1) := by decide +kernel
theorem eMd_canGrab_54 : decode prog_14_method_77_code 54 = .ok (.ireturn, 1) := by decide +kernel
theorem eMd_canDrop_0 : decode prog_14_method_78_code 0 = .ok (.aload_n 0, 1) := by decide +kernel
theorem eMd_canDrop_1 : decode prog_14_method_78_code 1 = .ok (.invokevirtual 364, 3) := by decide +kernel
theorem eMd_canDrop_4 : decode prog_14_method_78_code 4 = .ok (.ifCond .ne 39, 3) := by decide +kernel
theorem eMd_canDrop_7 : decode prog_14_method_78_code 7 = .ok (.aload_n 0, 1) := by decide +kernel
theorem eMd_canDrop_8 : decode prog_14_method_78_code 8 = .ok (.invokevirtual 367, 3) := by decide +kernel
theorem eMd_canDrop_11 : decode prog_14_method_78_code 11 = .ok (.ifCond .eq 32, 3) := by decide +kernel
theorem eMd_canDrop_14 : decode prog_14_method_78_code 14 = .ok (.aload_n 0, 1) := by decide +kernel
theorem eMd_canDrop_15 : decode prog_14_method_78_code 15 = .ok (.getfield 264, 3) := by decide +kernel
theorem eMd_canDrop_18 : decode prog_14_method_78_code 18 = .ok (.ifCond .eq 25, 3) := by decide +kernel
theorem eMd_canDrop_21 : decode prog_14_method_78_code 21 = .ok (.aload_n 0, 1) := by decide +kernel
theorem eMd_canDrop_22 : decode prog_14_method_78_code 22 = .ok (.getfield 246, 3) := by decide +kernel
theorem eMd_canDrop_25 : decode prog_14_method_78_code 25 = .ok (.iconst 1, 1) := by decide +kernel
theorem eMd_canDrop_26 : decode prog_14_method_78_code 26 = .ok (.iadd, 1) := by decide +kernel
theorem eMd_canDrop_27 : decode prog_14_method_78_code 27 = .ok (.aload_n 0, 1) := by decide +kernel
theorem eMd_canDrop_28 : decode prog_14_method_78_code 28 = .ok (.getfield 69, 3) := by decide +kernel
theorem eMd_canDrop_31 : decode prog_14_method_78_code 31 = .ok (.aload_n 0, 1) := by decide +kernel
theorem eMd_canDrop_32 : decode prog_14_method_78_code 32 = .ok (.getfield 258, 3) := by decide +kernel
theorem eMd_canDrop_35 : decode prog_14_method_78_code 35 = .ok (.iaload, 1) := by decide +kernel
theorem eMd_canDrop_36 : decode prog_14_method_78_code 36 = .ok (.if_icmp .ne 7, 3) := by decide +kernel
theorem eMd_canDrop_39 : decode prog_14_method_78_code 39 = .ok (.iconst 1, 1) := by decide +kernel
theorem eMd_canDrop_40 : decode prog_14_method_78_code 40 = .ok (.goto 4, 3) := by decide +kernel
theorem eMd_canDrop_43 : decode prog_14_method_78_code 43 = .ok (.iconst 0, 1) := by decide +kernel
theorem eMd_canDrop_44 : decode prog_14_method_78_code 44 = .ok (.ireturn, 1) := by decide +kernel
theorem eMd_takes_0 : decode prog_14_method_79_code 0 = .ok (.aload_n 0, 1) := by decide +kernel
theorem eMd_takes_1 : decode prog_14_method_79_code 1 = .ok (.invokevirtual 342, 3) := by decide +kernel
theorem eMd_takes_4 : decode prog_14_method_79_code 4 = .ok (.aload_n 0, 1) := by decide +kernel
theorem eMd_takes_5 : decode prog_14_method_79_code 5 = .ok (.getfield 83, 3) := by decide +kernel
theorem eMd_takes_8 : decode prog_14_method_79_code 8 = .ok (.bipush 7, 2) := by decide +kernel
theorem eMd_takes_10 : decode prog_14_method_79_code 10 = .ok (.iload_n 1, 1) := by decide +kernel
theorem eMd_takes_11 : decode prog_14_method_79_code 11 = .ok (.iadd, 1) := by decide +kernel
theorem eMd_takes_12 : decode prog_14_method_79_code 12 = .ok (.dup2, 1) := by decide +kernel
theorem eMd_takes_13 : decode prog_14_method_79_code 13 = .ok (.iaload, 1) := by decide +kernel
theorem eMd_takes_14 : decode prog_14_method_79_code 14 = .ok (.iload_n 2, 1) := by decide +kernel
theorem eMd_takes_15 : decode prog_14_method_79_code 15 = .ok (.ifCond .eq 7, 3) := by decide +kernel
theorem eMd_takes_18 : decode prog_14_method_79_code 18 = .ok (.iconst (-1), 1) := by decide +kernel
theorem eMd_takes_19 : decode prog_14_method_79_code 19 = .ok (.goto 4, 3) := by decide +kernel
theorem eMd_takes_22 : decode prog_14_method_79_code 22 = .ok (.iconst 1, 1) := by decide +kernel
theorem eMd_takes_23 : decode prog_14_method_79_code 23 = .ok (.iadd, 1) := by decide +kernel
theorem eMd_takes_24 : decode prog_14_method_79_code 24 = .ok (.iastore, 1) := by decide +kernel
theorem eMd_takes_25 : decode prog_14_method_79_code 25 = .ok (.aload_n 0, 1) := by decide +kernel
theorem eMd_takes_26 : decode prog_14_method_79_code 26 = .ok (.getfield 83, 3) := by decide +kernel
theorem eMd_takes_29 : decode prog_14_method_79_code 29 = .ok (.iconst 5, 1) := by decide +kernel
theorem eMd_takes_30 : decode prog_14_method_79_code 30 = .ok (.iload_n 2, 1) := by decide +kernel
theorem eMd_takes_31 : decode prog_14_method_79_code 31 = .ok (.ifCond .eq 7, 3) := by decide +kernel
theorem eMd_takes_34 : decode prog_14_method_79_code 34 = .ok (.iconst 1, 1) := by decide +kernel
theorem eMd_takes_35 : decode prog_14_method_79_code 35 = .ok (.goto 4, 3) := by decide +kernel
theorem eMd_takes_38 : decode prog_14_method_79_code 38 = .ok (.iconst 0, 1) := by decide +kernel
theorem eMd_takes_39 : decode prog_14_method_79_code 39 = .ok (.iastore, 1) := by decide +kernel
theorem eMd_takes_40 : decode prog_14_method_79_code 40 = .ok (.aload_n 0, 1) := by decide +kernel
theorem eMd_takes_41 : decode prog_14_method_79_code 41 = .ok (.invokevirtual 324, 3) := by decide +kernel
theorem eMd_takes_44 : decode prog_14_method_79_code 44 = .ok (.return_, 1) := by decide +kernel
theorem eMd_grab_0 : decode prog_14_method_80_code 0 = .ok (.aload_n 0, 1) := by decide +kernel
theorem eMd_grab_1 : decode prog_14_method_80_code 1 = .ok (.iconst 0, 1) := by decide +kernel
theorem eMd_grab_2 : decode prog_14_method_80_code 2 = .ok (.putfield 107, 3) := by decide +kernel
theorem eMd_grab_5 : decode prog_14_method_80_code 5 = .ok (.aload_n 0, 1) := by decide +kernel
theorem eMd_grab_6 : decode prog_14_method_80_code 6 = .ok (.invokevirtual 370, 3) := by decide +kernel
theorem eMd_grab_9 : decode prog_14_method_80_code 9 = .ok (.ifCond .ne 5, 3) := by decide +kernel
theorem eMd_grab_12 : decode prog_14_method_80_code 12 = .ok (.iconst 0, 1) := by decide +kernel
theorem eMd_grab_13 : decode prog_14_method_80_code 13 = .ok (.ireturn, 1) := by decide +kernel
theorem eMd_grab_14 : decode prog_14_method_80_code 14 = .ok (.aload_n 0, 1) := by decide +kernel
theorem eMd_grab_15 : decode prog_14_method_80_code 15 = .ok (.aload_n 0, 1) := by decide +kernel
theorem eMd_grab_16 : decode prog_14_method_80_code 16 = .ok (.getfield 258, 3) := by decide +kernel
theorem eMd_grab_19 : decode prog_14_method_80_code 19 = .ok (.iconst 1, 1) := by decide +kernel
theorem eMd_grab_20 : decode prog_14_method_80_code 20 = .ok (.invokevirtual 373, 3) := by decide +kernel
theorem eMd_grab_23 : decode prog_14_method_80_code 23 = .ok (.iconst 1, 1) := by decide +kernel
theorem eMd_grab_24 : decode prog_14_method_80_code 24 = .ok (.ireturn, 1) := by decide +kernel
theorem eMd_drop_0 : decode prog_14_method_81_code 0 = .ok (.aload_n 0, 1) := by decide +kernel
theorem eMd_drop_1 : decode prog_14_method_81_code 1 = .ok (.iconst 0, 1) := by decide +kernel
theorem eMd_drop_2 : decode prog_14_method_81_code 2 = .ok (.putfield 107, 3) := by decide +kernel
theorem eMd_drop_5 : decode prog_14_method_81_code 5 = .ok (.aload_n 0, 1) := by decide +kernel
theorem eMd_drop_6 : decode prog_14_method_81_code 6 = .ok (.invokevirtual 376, 3) := by decide +kernel
theorem eMd_drop_9 : decode prog_14_method_81_code 9 = .ok (.ifCond .ne 5, 3) := by decide +kernel
theorem eMd_drop_12 : decode prog_14_method_81_code 12 = .ok (.iconst 0, 1) := by decide +kernel
theorem eMd_drop_13 : decode prog_14_method_81_code 13 = .ok (.ireturn, 1) := by decide +kernel
theorem eMd_drop_14 : decode prog_14_method_81_code 14 = .ok (.aload_n 0, 1) := by decide +kernel
theorem eMd_drop_15 : decode prog_14_method_81_code 15 = .ok (.aload_n 0, 1) := by decide +kernel
theorem eMd_drop_16 : decode prog_14_method_81_code 16 = .ok (.getfield 258, 3) := by decide +kernel
theorem eMd_drop_19 : decode prog_14_method_81_code 19 = .ok (.iconst 0, 1) := by decide +kernel
theorem eMd_drop_20 : decode prog_14_method_81_code 20 = .ok (.invokevirtual 373, 3) := by decide +kernel
theorem eMd_drop_23 : decode prog_14_method_81_code 23 = .ok (.iconst 1, 1) := by decide +kernel
theorem eMd_drop_24 : decode prog_14_method_81_code 24 = .ok (.ireturn, 1) := by decide +kernel
theorem eMd_pile_0 : decode prog_14_method_82_code 0 = .ok (.aload_n 0, 1) := by decide +kernel
theorem eMd_pile_1 : decode prog_14_method_82_code 1 = .ok (.iconst 0, 1) := by decide +kernel
theorem eMd_pile_2 : decode prog_14_method_82_code 2 = .ok (.putfield 107, 3) := by decide +kernel
theorem eMd_pile_5 : decode prog_14_method_82_code 5 = .ok (.aload_n 0, 1) := by decide +kernel
theorem eMd_pile_6 : decode prog_14_method_82_code 6 = .ok (.iload_n 1, 1) := by decide +kernel
theorem eMd_pile_7 : decode prog_14_method_82_code 7 = .ok (.invokevirtual 267, 3) := by decide +kernel
theorem eMd_pile_10 : decode prog_14_method_82_code 10 = .ok (.ifCond .eq 12, 3) := by decide +kernel
theorem eMd_pile_13 : decode prog_14_method_82_code 13 = .ok (.aload_n 0, 1) := by decide +kernel
theorem eMd_pile_14 : decode prog_14_method_82_code 14 = .ok (.getfield 66, 3) := by decide +kernel
theorem eMd_pile_17 : decode prog_14_method_82_code 17 = .ok (.iload_n 1, 1) := by decide +kernel
theorem eMd_pile_18 : decode prog_14_method_82_code 18 = .ok (.iaload, 1) := by decide +kernel
theorem eMd_pile_19 : decode prog_14_method_82_code 19 = .ok (.goto 4, 3) := by decide +kernel
theorem eMd_pile_22 : decode prog_14_method_82_code 22 = .ok (.iconst (-1), 1) := by decide +kernel
theorem eMd_pile_23 : decode prog_14_method_82_code 23 = .ok (.ireturn, 1) := by decide +kernel
theorem eMd_free_0 : decode prog_14_method_83_code 0 = .ok (.aload_n 0, 1) := by decide +kernel
theorem eMd_free_1 : decode prog_14_method_83_code 1 = .ok (.iconst 0, 1) := by decide +kernel
theorem eMd_free_2 : decode prog_14_method_83_code 2 = .ok (.putfield 107, 3) := by decide +kernel
theorem eMd_free_5 : decode prog_14_method_83_code 5 = .ok (.aload_n 0, 1) := by decide +kernel
theorem eMd_free_6 : decode prog_14_method_83_code 6 = .ok (.iload_n 1, 1) := by decide +kernel
theorem eMd_free_7 : decode prog_14_method_83_code 7 = .ok (.invokevirtual 267, 3) := by decide +kernel
theorem eMd_free_10 : decode prog_14_method_83_code 10 = .ok (.ifCond .eq 12, 3) := by decide +kernel
theorem eMd_free_13 : decode prog_14_method_83_code 13 = .ok (.aload_n 0, 1) := by decide +kernel
theorem eMd_free_14 : decode prog_14_method_83_code 14 = .ok (.getfield 69, 3) := by decide +kernel
theorem eMd_free_17 : decode prog_14_method_83_code 17 = .ok (.iload_n 1, 1) := by decide +kernel
theorem eMd_free_18 : decode prog_14_method_83_code 18 = .ok (.iaload, 1) := by decide +kernel
theorem eMd_free_19 : decode prog_14_method_83_code 19 = .ok (.goto 4, 3) := by decide +kernel
theorem eMd_free_22 : decode prog_14_method_83_code 22 = .ok (.iconst (-1), 1) := by decide +kernel
theorem eMd_free_23 : decode prog_14_method_83_code 23 = .ok (.ireturn, 1) := by decide +kernel
theorem eMd_why_0 : decode prog_14_method_84_code 0 = .ok (.aload_n 0, 1) := by decide +kernel
theorem eMd_why_1 : decode prog_14_method_84_code 1 = .ok (.iconst 0, 1) := by decide +kernel
theorem eMd_why_2 : decode prog_14_method_84_code 2 = .ok (.putfield 107, 3) := by decide +kernel
theorem eMd_why_5 : decode prog_14_method_84_code 5 = .ok (.iload_n 1, 1) := by decide +kernel
theorem eMd_why_6 : decode prog_14_method_84_code 6 = .ok (.ifCond .lt 9, 3) := by decide +kernel
theorem eMd_why_9 : decode prog_14_method_84_code 9 = .ok (.iload_n 1, 1) := by decide +kernel
theorem eMd_why_10 : decode prog_14_method_84_code 10 = .ok (.bipush 8, 2) := by decide +kernel
theorem eMd_why_12 : decode prog_14_method_84_code 12 = .ok (.if_icmp .le 5, 3) := by decide +kernel
theorem eMd_why_15 : decode prog_14_method_84_code 15 = .ok (.iconst (-1), 1) := by decide +kernel
theorem eMd_why_16 : decode prog_14_method_84_code 16 = .ok (.ireturn, 1) := by decide +kernel
theorem eMd_why_17 : decode prog_14_method_84_code 17 = .ok (.aload_n 0, 1) := by decide +kernel
theorem eMd_why_18 : decode prog_14_method_84_code 18 = .ok (.aload_n 0, 1) := by decide +kernel
theorem eMd_why_19 : decode prog_14_method_84_code 19 = .ok (.getfield 83, 3) := by decide +kernel
theorem eMd_why_22 : decode prog_14_method_84_code 22 = .ok (.iconst 0, 1) := by decide +kernel
theorem eMd_why_23 : decode prog_14_method_84_code 23 = .ok (.iaload, 1) := by decide +kernel
theorem eMd_why_24 : decode prog_14_method_84_code 24 = .ok (.invokevirtual 287, 3) := by decide +kernel
theorem eMd_why_27 : decode prog_14_method_84_code 27 = .ok (.aload_n 0, 1) := by decide +kernel
theorem eMd_why_28 : decode prog_14_method_84_code 28 = .ok (.iload_n 1, 1) := by decide +kernel
theorem eMd_why_29 : decode prog_14_method_84_code 29 = .ok (.iconst 0, 1) := by decide +kernel
theorem eMd_why_30 : decode prog_14_method_84_code 30 = .ok (.invokevirtual 315, 3) := by decide +kernel
theorem eMd_why_33 : decode prog_14_method_84_code 33 = .ok (.aload_n 0, 1) := by decide +kernel
theorem eMd_why_34 : decode prog_14_method_84_code 34 = .ok (.invokevirtual 277, 3) := by decide +kernel
theorem eMd_why_37 : decode prog_14_method_84_code 37 = .ok (.ireturn, 1) := by decide +kernel
theorem eMd_can_0 : decode prog_14_method_85_code 0 = .ok (.aload_n 0, 1) := by decide +kernel
theorem eMd_can_1 : decode prog_14_method_85_code 1 = .ok (.iconst 0, 1) := by decide +kernel
theorem eMd_can_2 : decode prog_14_method_85_code 2 = .ok (.putfield 107, 3) := by decide +kernel
theorem eMd_can_5 : decode prog_14_method_85_code 5 = .ok (.iconst 0, 1) := by decide +kernel
theorem eMd_can_6 : decode prog_14_method_85_code 6 = .ok (.istore_n 1, 1) := by decide +kernel
theorem eMd_can_7 : decode prog_14_method_85_code 7 = .ok (.iconst 0, 1) := by decide +kernel
theorem eMd_can_8 : decode prog_14_method_85_code 8 = .ok (.istore_n 2, 1) := by decide +kernel
theorem eMd_can_9 : decode prog_14_method_85_code 9 = .ok (.iload_n 2, 1) := by decide +kernel
theorem eMd_can_10 : decode prog_14_method_85_code 10 = .ok (.bipush 9, 2) := by decide +kernel
theorem eMd_can_12 : decode prog_14_method_85_code 12 = .ok (.if_icmp .ge 30, 3) := by decide +kernel
theorem eMd_can_15 : decode prog_14_method_85_code 15 = .ok (.aload_n 0, 1) := by decide +kernel
theorem eMd_can_16 : decode prog_14_method_85_code 16 = .ok (.aload_n 0, 1) := by decide +kernel
theorem eMd_can_17 : decode prog_14_method_85_code 17 = .ok (.getfield 83, 3) := by decide +kernel
theorem eMd_can_20 : decode prog_14_method_85_code 20 = .ok (.iconst 0, 1) := by decide +kernel
theorem eMd_can_21 : decode prog_14_method_85_code 21 = .ok (.iaload, 1) := by decide +kernel
theorem eMd_can_22 : decode prog_14_method_85_code 22 = .ok (.iload_n 2, 1) := by decide +kernel
theorem eMd_can_23 : decode prog_14_method_85_code 23 = .ok (.iconst 0, 1) := by decide +kernel
theorem eMd_can_24 : decode prog_14_method_85_code 24 = .ok (.invokevirtual 338, 3) := by decide +kernel
theorem eMd_can_27 : decode prog_14_method_85_code 27 = .ok (.ifCond .eq 9, 3) := by decide +kernel
theorem eMd_can_30 : decode prog_14_method_85_code 30 = .ok (.iload_n 1, 1) := by decide +kernel
theorem eMd_can_31 : decode prog_14_method_85_code 31 = .ok (.iconst 1, 1) := by decide +kernel
theorem eMd_can_32 : decode prog_14_method_85_code 32 = .ok (.iload_n 2, 1) := by decide +kernel
theorem eMd_can_33 : decode prog_14_method_85_code 33 = .ok (.ishl, 1) := by decide +kernel
theorem eMd_can_34 : decode prog_14_method_85_code 34 = .ok (.ior, 1) := by decide +kernel
theorem eMd_can_35 : decode prog_14_method_85_code 35 = .ok (.istore_n 1, 1) := by decide +kernel
theorem eMd_can_36 : decode prog_14_method_85_code 36 = .ok (.iinc 2 1, 3) := by decide +kernel
theorem eMd_can_39 : decode prog_14_method_85_code 39 = .ok (.goto (-30), 3) := by decide +kernel
theorem eMd_can_42 : decode prog_14_method_85_code 42 = .ok (.iload_n 1, 1) := by decide +kernel
theorem eMd_can_43 : decode prog_14_method_85_code 43 = .ok (.ireturn, 1) := by decide +kernel
theorem eMd_sway_0 : decode prog_14_method_86_code 0 = .ok (.aload_n 0, 1) := by decide +kernel
theorem eMd_sway_1 : decode prog_14_method_86_code 1 = .ok (.iconst 0, 1) := by decide +kernel
theorem eMd_sway_2 : decode prog_14_method_86_code 2 = .ok (.putfield 107, 3) := by decide +kernel
theorem eMd_sway_5 : decode prog_14_method_86_code 5 = .ok (.iload_n 1, 1) := by decide +kernel
theorem eMd_sway_6 : decode prog_14_method_86_code 6 = .ok (.ifCond .lt 9, 3) := by decide +kernel
theorem eMd_sway_9 : decode prog_14_method_86_code 9 = .ok (.iload_n 1, 1) := by decide +kernel
theorem eMd_sway_10 : decode prog_14_method_86_code 10 = .ok (.bipush 60, 2) := by decide +kernel
theorem eMd_sway_12 : decode prog_14_method_86_code 12 = .ok (.if_icmp .le 6, 3) := by decide +kernel
theorem eMd_sway_15 : decode prog_14_method_86_code 15 = .ok (.bipush (-100), 2) := by decide +kernel
theorem eMd_sway_17 : decode prog_14_method_86_code 17 = .ok (.ireturn, 1) := by decide +kernel
theorem eMd_sway_18 : decode prog_14_method_86_code 18 = .ok (.aload_n 0, 1) := by decide +kernel
theorem eMd_sway_19 : decode prog_14_method_86_code 19 = .ok (.aload_n 0, 1) := by decide +kernel
theorem eMd_sway_20 : decode prog_14_method_86_code 20 = .ok (.getfield 83, 3) := by decide +kernel
theorem eMd_sway_23 : decode prog_14_method_86_code 23 = .ok (.iconst 0, 1) := by decide +kernel
theorem eMd_sway_24 : decode prog_14_method_86_code 24 = .ok (.iaload, 1) := by decide +kernel
theorem eMd_sway_25 : decode prog_14_method_86_code 25 = .ok (.invokevirtual 287, 3) := by decide +kernel
theorem eMd_sway_28 : decode prog_14_method_86_code 28 = .ok (.iconst 0, 1) := by decide +kernel
theorem eMd_sway_29 : decode prog_14_method_86_code 29 = .ok (.istore_n 2, 1) := by decide +kernel
theorem eMd_sway_30 : decode prog_14_method_86_code 30 = .ok (.iload_n 2, 1) := by decide +kernel
theorem eMd_sway_31 : decode prog_14_method_86_code 31 = .ok (.iload_n 1, 1) := by decide +kernel
theorem eMd_sway_32 : decode prog_14_method_86_code 32 = .ok (.if_icmp .ge 15, 3) := by decide +kernel
theorem eMd_sway_35 : decode prog_14_method_86_code 35 = .ok (.aload_n 0, 1) := by decide +kernel
theorem eMd_sway_36 : decode prog_14_method_86_code 36 = .ok (.iconst 4, 1) := by decide +kernel
theorem eMd_sway_37 : decode prog_14_method_86_code 37 = .ok (.iconst 0, 1) := by decide +kernel
theorem eMd_sway_38 : decode prog_14_method_86_code 38 = .ok (.invokevirtual 315, 3) := by decide +kernel
theorem eMd_sway_41 : decode prog_14_method_86_code 41 = .ok (.iinc 2 1, 3) := by decide +kernel
theorem eMd_sway_44 : decode prog_14_method_86_code 44 = .ok (.goto (-14), 3) := by decide +kernel
theorem eMd_sway_47 : decode prog_14_method_86_code 47 = .ok (.aload_n 0, 1) := by decide +kernel
theorem eMd_sway_48 : decode prog_14_method_86_code 48 = .ok (.getfield 252, 3) := by decide +kernel
theorem eMd_sway_51 : decode prog_14_method_86_code 51 = .ok (.ireturn, 1) := by decide +kernel
theorem eMd_drift_0 : decode prog_14_method_87_code 0 = .ok (.aload_n 0, 1) := by decide +kernel
theorem eMd_drift_1 : decode prog_14_method_87_code 1 = .ok (.iconst 0, 1) := by decide +kernel
theorem eMd_drift_2 : decode prog_14_method_87_code 2 = .ok (.putfield 107, 3) := by decide +kernel
theorem eMd_drift_5 : decode prog_14_method_87_code 5 = .ok (.aload_n 0, 1) := by decide +kernel
theorem eMd_drift_6 : decode prog_14_method_87_code 6 = .ok (.getfield 83, 3) := by decide +kernel
theorem eMd_drift_9 : decode prog_14_method_87_code 9 = .ok (.iconst 0, 1) := by decide +kernel
theorem eMd_drift_10 : decode prog_14_method_87_code 10 = .ok (.iaload, 1) := by decide +kernel
theorem eMd_drift_11 : decode prog_14_method_87_code 11 = .ok (.istore_n 1, 1) := by decide +kernel
theorem eMd_drift_12 : decode prog_14_method_87_code 12 = .ok (.iconst 0, 1) := by decide +kernel
theorem eMd_drift_13 : decode prog_14_method_87_code 13 = .ok (.istore_n 2, 1) := by decide +kernel
theorem eMd_drift_14 : decode prog_14_method_87_code 14 = .ok (.iload_n 2, 1) := by decide +kernel
theorem eMd_drift_15 : decode prog_14_method_87_code 15 = .ok (.bipush 60, 2) := by decide +kernel
theorem eMd_drift_17 : decode prog_14_method_87_code 17 = .ok (.if_icmp .ge 49, 3) := by decide +kernel
theorem eMd_drift_20 : decode prog_14_method_87_code 20 = .ok (.aload_n 0, 1) := by decide +kernel
theorem eMd_drift_21 : decode prog_14_method_87_code 21 = .ok (.getfield 83, 3) := by decide +kernel
theorem eMd_drift_24 : decode prog_14_method_87_code 24 = .ok (.iconst 1, 1) := by decide +kernel
theorem eMd_drift_25 : decode prog_14_method_87_code 25 = .ok (.iaload, 1) := by decide +kernel
theorem eMd_drift_26 : decode prog_14_method_87_code 26 = .ok (.iload_n 2, 1) := by decide +kernel
theorem eMd_drift_27 : decode prog_14_method_87_code 27 = .ok (.iadd, 1) := by decide +kernel
theorem eMd_drift_28 : decode prog_14_method_87_code 28 = .ok (.sipush 9999, 3) := by decide +kernel
theorem eMd_drift_31 : decode prog_14_method_87_code 31 = .ok (.if_icmp .ge 35, 3) := by decide +kernel
theorem eMd_drift_34 : decode prog_14_method_87_code 34 = .ok (.aload_n 0, 1) := by decide +kernel
theorem eMd_drift_35 : decode prog_14_method_87_code 35 = .ok (.iload_n 1, 1) := by decide +kernel
theorem eMd_drift_36 : decode prog_14_method_87_code 36 = .ok (.iconst 4, 1) := by decide +kernel
theorem eMd_drift_37 : decode prog_14_method_87_code 37 = .ok (.aload_n 0, 1) := by decide +kernel
theorem eMd_drift_38 : decode prog_14_method_87_code 38 = .ok (.aload_n 0, 1) := by decide +kernel
theorem eMd_drift_39 : decode prog_14_method_87_code 39 = .ok (.getfield 83, 3) := by decide +kernel
theorem eMd_drift_42 : decode prog_14_method_87_code 42 = .ok (.iconst 1, 1) := by decide +kernel
theorem eMd_drift_43 : decode prog_14_method_87_code 43 = .ok (.iaload, 1) := by decide +kernel
theorem eMd_drift_44 : decode prog_14_method_87_code 44 = .ok (.iload_n 2, 1) := by decide +kernel
theorem eMd_drift_45 : decode prog_14_method_87_code 45 = .ok (.iadd, 1) := by decide +kernel
theorem eMd_drift_46 : decode prog_14_method_87_code 46 = .ok (.invokevirtual 336, 3) := by decide +kernel
theorem eMd_drift_49 : decode prog_14_method_87_code 49 = .ok (.invokevirtual 338, 3) := by decide +kernel
theorem eMd_drift_52 : decode prog_14_method_87_code 52 = .ok (.ifCond .eq 14, 3) := by decide +kernel
theorem eMd_drift_55 : decode prog_14_method_87_code 55 = .ok (.aload_n 0, 1) := by decide +kernel
theorem eMd_drift_56 : decode prog_14_method_87_code 56 = .ok (.invokevirtual 312, 3) := by decide +kernel
theorem eMd_drift_59 : decode prog_14_method_87_code 59 = .ok (.istore_n 1, 1) := by decide +kernel
theorem eMd_drift_60 : decode prog_14_method_87_code 60 = .ok (.iinc 2 1, 3) := by decide +kernel
theorem eMd_drift_63 : decode prog_14_method_87_code 63 = .ok (.goto (-49), 3) := by decide +kernel
theorem eMd_drift_66 : decode prog_14_method_87_code 66 = .ok (.iload_n 2, 1) := by decide +kernel
theorem eMd_drift_67 : decode prog_14_method_87_code 67 = .ok (.ireturn, 1) := by decide +kernel
theorem eMd_isSpot_0 : decode prog_14_method_88_code 0 = .ok (.iload_n 1, 1) := by decide +kernel
theorem eMd_isSpot_1 : decode prog_14_method_88_code 1 = .ok (.ifCond .lt 17, 3) := by decide +kernel
theorem eMd_isSpot_4 : decode prog_14_method_88_code 4 = .ok (.iload_n 1, 1) := by decide +kernel
theorem eMd_isSpot_5 : decode prog_14_method_88_code 5 = .ok (.aload_n 0, 1) := by decide +kernel
theorem eMd_isSpot_6 : decode prog_14_method_88_code 6 = .ok (.getfield 13, 3) := by decide +kernel
theorem eMd_isSpot_9 : decode prog_14_method_88_code 9 = .ok (.iconst 4, 1) := by decide +kernel
theorem eMd_isSpot_10 : decode prog_14_method_88_code 10 = .ok (.iaload, 1) := by decide +kernel
theorem eMd_isSpot_11 : decode prog_14_method_88_code 11 = .ok (.if_icmp .ge 7, 3) := by decide +kernel
theorem eMd_isSpot_14 : decode prog_14_method_88_code 14 = .ok (.iconst 1, 1) := by decide +kernel
theorem eMd_isSpot_15 : decode prog_14_method_88_code 15 = .ok (.goto 4, 3) := by decide +kernel
theorem eMd_isSpot_18 : decode prog_14_method_88_code 18 = .ok (.iconst 0, 1) := by decide +kernel
theorem eMd_isSpot_19 : decode prog_14_method_88_code 19 = .ok (.ireturn, 1) := by decide +kernel
theorem eMd_spotState_0 : decode prog_14_method_89_code 0 = .ok (.aload_n 0, 1) := by decide +kernel
theorem eMd_spotState_1 : decode prog_14_method_89_code 1 = .ok (.aload_n 0, 1) := by decide +kernel
theorem eMd_spotState_2 : decode prog_14_method_89_code 2 = .ok (.getfield 23, 3) := by decide +kernel
theorem eMd_spotState_5 : decode prog_14_method_89_code 5 = .ok (.iload_n 1, 1) := by decide +kernel
theorem eMd_spotState_6 : decode prog_14_method_89_code 6 = .ok (.iaload, 1) := by decide +kernel
theorem eMd_spotState_7 : decode prog_14_method_89_code 7 = .ok (.aload_n 0, 1) := by decide +kernel
theorem eMd_spotState_8 : decode prog_14_method_89_code 8 = .ok (.getfield 26, 3) := by decide +kernel
theorem eMd_spotState_11 : decode prog_14_method_89_code 11 = .ok (.iload_n 1, 1) := by decide +kernel
theorem eMd_spotState_12 : decode prog_14_method_89_code 12 = .ok (.iaload, 1) := by decide +kernel
theorem eMd_spotState_13 : decode prog_14_method_89_code 13 = .ok (.invokevirtual 300, 3) := by decide +kernel
theorem eMd_spotState_16 : decode prog_14_method_89_code 16 = .ok (.ireturn, 1) := by decide +kernel
theorem eMd_fewestTo_0 : decode prog_14_method_90_code 0 = .ok (.aload_n 0, 1) := by decide +kernel
theorem eMd_fewestTo_1 : decode prog_14_method_90_code 1 = .ok (.invokevirtual 364, 3) := by decide +kernel
theorem eMd_fewestTo_4 : decode prog_14_method_90_code 4 = .ok (.ifCond .eq 6, 3) := by decide +kernel
theorem eMd_fewestTo_7 : decode prog_14_method_90_code 7 = .ok (.bipush (-2), 2) := by decide +kernel
theorem eMd_fewestTo_9 : decode prog_14_method_90_code 9 = .ok (.ireturn, 1) := by decide +kernel
theorem eMd_fewestTo_10 : decode prog_14_method_90_code 10 = .ok (.aload_n 0, 1) := by decide +kernel
theorem eMd_fewestTo_11 : decode prog_14_method_90_code 11 = .ok (.iload_n 1, 1) := by decide +kernel
theorem eMd_fewestTo_12 : decode prog_14_method_90_code 12 = .ok (.iload_n 2, 1) := by decide +kernel
theorem eMd_fewestTo_13 : decode prog_14_method_90_code 13 = .ok (.invokevirtual 351, 3) := by decide +kernel
theorem eMd_fewestTo_16 : decode prog_14_method_90_code 16 = .ok (.aload_n 0, 1) := by decide +kernel
theorem eMd_fewestTo_17 : decode prog_14_method_90_code 17 = .ok (.getfield 73, 3) := by decide +kernel
theorem eMd_fewestTo_20 : decode prog_14_method_90_code 20 = .ok (.aload_n 0, 1) := by decide +kernel
theorem eMd_fewestTo_21 : decode prog_14_method_90_code 21 = .ok (.getfield 83, 3) := by decide +kernel
theorem eMd_fewestTo_24 : decode prog_14_method_90_code 24 = .ok (.iconst 0, 1) := by decide +kernel
theorem eMd_fewestTo_25 : decode prog_14_method_90_code 25 = .ok (.iaload, 1) := by decide +kernel
theorem eMd_fewestTo_26 : decode prog_14_method_90_code 26 = .ok (.saload, 1) := by decide +kernel
theorem eMd_fewestTo_27 : decode prog_14_method_90_code 27 = .ok (.istore_n 3, 1) := by decide +kernel
theorem eMd_fewestTo_28 : decode prog_14_method_90_code 28 = .ok (.iload_n 3, 1) := by decide +kernel
theorem eMd_fewestTo_29 : decode prog_14_method_90_code 29 = .ok (.sipush 30000, 3) := by decide +kernel
theorem eMd_fewestTo_32 : decode prog_14_method_90_code 32 = .ok (.if_icmp .ne 8, 3) := by decide +kernel
theorem eMd_fewestTo_35 : decode prog_14_method_90_code 35 = .ok (.bipush (-2), 2) := by decide +kernel
theorem eMd_fewestTo_37 : decode prog_14_method_90_code 37 = .ok (.goto 4, 3) := by decide +kernel
theorem eMd_fewestTo_40 : decode prog_14_method_90_code 40 = .ok (.iload_n 3, 1) := by decide +kernel
theorem eMd_fewestTo_41 : decode prog_14_method_90_code 41 = .ok (.ireturn, 1) := by decide +kernel
theorem eMd_fewest_0 : decode prog_14_method_91_code 0 = .ok (.aload_n 0, 1) := by decide +kernel
theorem eMd_fewest_1 : decode prog_14_method_91_code 1 = .ok (.iconst 0, 1) := by decide +kernel
theorem eMd_fewest_2 : decode prog_14_method_91_code 2 = .ok (.putfield 107, 3) := by decide +kernel
theorem eMd_fewest_5 : decode prog_14_method_91_code 5 = .ok (.aload_n 0, 1) := by decide +kernel
theorem eMd_fewest_6 : decode prog_14_method_91_code 6 = .ok (.iload_n 1, 1) := by decide +kernel
theorem eMd_fewest_7 : decode prog_14_method_91_code 7 = .ok (.invokevirtual 379, 3) := by decide +kernel
theorem eMd_fewest_10 : decode prog_14_method_91_code 10 = .ok (.ifCond .eq 16, 3) := by decide +kernel
theorem eMd_fewest_13 : decode prog_14_method_91_code 13 = .ok (.aload_n 0, 1) := by decide +kernel
theorem eMd_fewest_14 : decode prog_14_method_91_code 14 = .ok (.aload_n 0, 1) := by decide +kernel
theorem eMd_fewest_15 : decode prog_14_method_91_code 15 = .ok (.iload_n 1, 1) := by decide +kernel
theorem eMd_fewest_16 : decode prog_14_method_91_code 16 = .ok (.invokevirtual 382, 3) := by decide +kernel
theorem eMd_fewest_19 : decode prog_14_method_91_code 19 = .ok (.iconst 0, 1) := by decide +kernel
theorem eMd_fewest_20 : decode prog_14_method_91_code 20 = .ok (.invokevirtual 385, 3) := by decide +kernel
theorem eMd_fewest_23 : decode prog_14_method_91_code 23 = .ok (.goto 4, 3) := by decide +kernel
theorem eMd_fewest_26 : decode prog_14_method_91_code 26 = .ok (.iconst (-1), 1) := by decide +kernel
theorem eMd_fewest_27 : decode prog_14_method_91_code 27 = .ok (.ireturn, 1) := by decide +kernel
theorem eMd_level_0 : decode prog_14_method_92_code 0 = .ok (.aload_n 0, 1) := by decide +kernel
theorem eMd_level_1 : decode prog_14_method_92_code 1 = .ok (.iconst 0, 1) := by decide +kernel
theorem eMd_level_2 : decode prog_14_method_92_code 2 = .ok (.putfield 107, 3) := by decide +kernel
theorem eMd_level_5 : decode prog_14_method_92_code 5 = .ok (.aload_n 0, 1) := by decide +kernel
theorem eMd_level_6 : decode prog_14_method_92_code 6 = .ok (.iload_n 1, 1) := by decide +kernel
theorem eMd_level_7 : decode prog_14_method_92_code 7 = .ok (.invokevirtual 379, 3) := by decide +kernel
theorem eMd_level_10 : decode prog_14_method_92_code 10 = .ok (.ifCond .eq 16, 3) := by decide +kernel
theorem eMd_level_13 : decode prog_14_method_92_code 13 = .ok (.aload_n 0, 1) := by decide +kernel
theorem eMd_level_14 : decode prog_14_method_92_code 14 = .ok (.aload_n 0, 1) := by decide +kernel
theorem eMd_level_15 : decode prog_14_method_92_code 15 = .ok (.iload_n 1, 1) := by decide +kernel
theorem eMd_level_16 : decode prog_14_method_92_code 16 = .ok (.invokevirtual 382, 3) := by decide +kernel
theorem eMd_level_19 : decode prog_14_method_92_code 19 = .ok (.iconst 1, 1) := by decide +kernel
theorem eMd_level_20 : decode prog_14_method_92_code 20 = .ok (.invokevirtual 385, 3) := by decide +kernel
theorem eMd_level_23 : decode prog_14_method_92_code 23 = .ok (.goto 4, 3) := by decide +kernel
theorem eMd_level_26 : decode prog_14_method_92_code 26 = .ok (.iconst (-1), 1) := by decide +kernel
theorem eMd_level_27 : decode prog_14_method_92_code 27 = .ok (.ireturn, 1) := by decide +kernel
theorem eMd_by_0 : decode prog_14_method_93_code 0 = .ok (.aload_n 0, 1) := by decide +kernel
theorem eMd_by_1 : decode prog_14_method_93_code 1 = .ok (.iconst 0, 1) := by decide +kernel
theorem eMd_by_2 : decode prog_14_method_93_code 2 = .ok (.putfield 107, 3) := by decide +kernel
theorem eMd_by_5 : decode prog_14_method_93_code 5 = .ok (.aload_n 0, 1) := by decide +kernel
theorem eMd_by_6 : decode prog_14_method_93_code 6 = .ok (.iload_n 1, 1) := by decide +kernel
theorem eMd_by_7 : decode prog_14_method_93_code 7 = .ok (.invokevirtual 379, 3) := by decide +kernel
theorem eMd_by_10 : decode prog_14_method_93_code 10 = .ok (.ifCond .eq 7, 3) := by decide +kernel
theorem eMd_by_13 : decode prog_14_method_93_code 13 = .ok (.iload_n 2, 1) := by decide +kernel
theorem eMd_by_14 : decode prog_14_method_93_code 14 = .ok (.ifCond .ge 5, 3) := by decide +kernel
theorem eMd_by_17 : decode prog_14_method_93_code 17 = .ok (.iconst (-1), 1) := by decide +kernel
theorem eMd_by_18 : decode prog_14_method_93_code 18 = .ok (.ireturn, 1) := by decide +kernel
theorem eMd_by_19 : decode prog_14_method_93_code 19 = .ok (.aload_n 0, 1) := by decide +kernel
theorem eMd_by_20 : decode prog_14_method_93_code 20 = .ok (.aload_n 0, 1) := by decide +kernel
theorem eMd_by_21 : decode prog_14_method_93_code 21 = .ok (.iload_n 1, 1) := by decide +kernel
theorem eMd_by_22 : decode prog_14_method_93_code 22 = .ok (.invokevirtual 382, 3) := by decide +kernel
theorem eMd_by_25 : decode prog_14_method_93_code 25 = .ok (.iconst 0, 1) := by decide +kernel
theorem eMd_by_26 : decode prog_14_method_93_code 26 = .ok (.invokevirtual 385, 3) := by decide +kernel
theorem eMd_by_29 : decode prog_14_method_93_code 29 = .ok (.istore_n 3, 1) := by decide +kernel
theorem eMd_by_30 : decode prog_14_method_93_code 30 = .ok (.iload_n 2, 1) := by decide +kernel
theorem eMd_by_31 : decode prog_14_method_93_code 31 = .ok (.iload_n 3, 1) := by decide +kernel
theorem eMd_by_32 : decode prog_14_method_93_code 32 = .ok (.if_icmp .lt 6, 3) := by decide +kernel
theorem eMd_by_35 : decode prog_14_method_93_code 35 = .ok (.bipush (-2), 2) := by decide +kernel
theorem eMd_by_37 : decode prog_14_method_93_code 37 = .ok (.ireturn, 1) := by decide +kernel
theorem eMd_by_38 : decode prog_14_method_93_code 38 = .ok (.aload_n 0, 1) := by decide +kernel
theorem eMd_by_39 : decode prog_14_method_93_code 39 = .ok (.getfield 83, 3) := by decide +kernel
theorem eMd_by_42 : decode prog_14_method_93_code 42 = .ok (.iconst 0, 1) := by decide +kernel
theorem eMd_by_43 : decode prog_14_method_93_code 43 = .ok (.iaload, 1) := by decide +kernel
theorem eMd_by_44 : decode prog_14_method_93_code 44 = .ok (.istore 4, 2) := by decide +kernel
theorem eMd_by_46 : decode prog_14_method_93_code 46 = .ok (.iconst 0, 1) := by decide +kernel
theorem eMd_by_47 : decode prog_14_method_93_code 47 = .ok (.istore 5, 2) := by decide +kernel
theorem eMd_by_49 : decode prog_14_method_93_code 49 = .ok (.iload 5, 2) := by decide +kernel
theorem eMd_by_51 : decode prog_14_method_93_code 51 = .ok (.iload_n 2, 1) := by decide +kernel
theorem eMd_by_52 : decode prog_14_method_93_code 52 = .ok (.if_icmp .ge 23, 3) := by decide +kernel
theorem eMd_by_55 : decode prog_14_method_93_code 55 = .ok (.aload_n 0, 1) := by decide +kernel
theorem eMd_by_56 : decode prog_14_method_93_code 56 = .ok (.iload 4, 2) := by decide +kernel
theorem eMd_by_58 : decode prog_14_method_93_code 58 = .ok (.aload_n 0, 1) := by decide +kernel
theorem eMd_by_59 : decode prog_14_method_93_code 59 = .ok (.iload 4, 2) := by decide +kernel
theorem eMd_by_61 : decode prog_14_method_93_code 61 = .ok (.invokevirtual 355, 3) := by decide +kernel
theorem eMd_by_64 : decode prog_14_method_93_code 64 = .ok (.invokevirtual 389, 3) := by decide +kernel
theorem eMd_by_67 : decode prog_14_method_93_code 67 = .ok (.istore 4, 2) := by decide +kernel
theorem eMd_by_69 : decode prog_14_method_93_code 69 = .ok (.iinc 5 1, 3) := by decide +kernel
theorem eMd_by_72 : decode prog_14_method_93_code 72 = .ok (.goto (-23), 3) := by decide +kernel
theorem eMd_by_75 : decode prog_14_method_93_code 75 = .ok (.aload_n 0, 1) := by decide +kernel
theorem eMd_by_76 : decode prog_14_method_93_code 76 = .ok (.iload 4, 2) := by decide +kernel
theorem eMd_by_78 : decode prog_14_method_93_code 78 = .ok (.invokevirtual 355, 3) := by decide +kernel
theorem eMd_by_81 : decode prog_14_method_93_code 81 = .ok (.ireturn, 1) := by decide +kernel
theorem eMd_halt_0 : decode prog_14_method_94_code 0 = .ok (.aload_n 0, 1) := by decide +kernel
theorem eMd_halt_1 : decode prog_14_method_94_code 1 = .ok (.iconst 0, 1) := by decide +kernel
theorem eMd_halt_2 : decode prog_14_method_94_code 2 = .ok (.putfield 107, 3) := by decide +kernel
theorem eMd_halt_5 : decode prog_14_method_94_code 5 = .ok (.aload_n 0, 1) := by decide +kernel
theorem eMd_halt_6 : decode prog_14_method_94_code 6 = .ok (.iconst (-1), 1) := by decide +kernel
theorem eMd_halt_7 : decode prog_14_method_94_code 7 = .ok (.iconst 0, 1) := by decide +kernel
theorem eMd_halt_8 : decode prog_14_method_94_code 8 = .ok (.invokevirtual 385, 3) := by decide +kernel
theorem eMd_halt_11 : decode prog_14_method_94_code 11 = .ok (.ireturn, 1) := by decide +kernel
theorem eMd_rests_0 : decode prog_14_method_95_code 0 = .ok (.aload_n 0, 1) := by decide +kernel
theorem eMd_rests_1 : decode prog_14_method_95_code 1 = .ok (.iconst 0, 1) := by decide +kernel
theorem eMd_rests_2 : decode prog_14_method_95_code 2 = .ok (.putfield 107, 3) := by decide +kernel
theorem eMd_rests_5 : decode prog_14_method_95_code 5 = .ok (.iload_n 1, 1) := by decide +kernel
theorem eMd_rests_6 : decode prog_14_method_95_code 6 = .ok (.ifCond .lt 8, 3) := by decide +kernel
theorem eMd_rests_9 : decode prog_14_method_95_code 9 = .ok (.iload_n 1, 1) := by decide +kernel
theorem eMd_rests_10 : decode prog_14_method_95_code 10 = .ok (.iconst 1, 1) := by decide +kernel
theorem eMd_rests_11 : decode prog_14_method_95_code 11 = .ok (.if_icmp .le 5, 3) := by decide +kernel
theorem eMd_rests_14 : decode prog_14_method_95_code 14 = .ok (.iconst (-1), 1) := by decide +kernel
theorem eMd_rests_15 : decode prog_14_method_95_code 15 = .ok (.ireturn, 1) := by decide +kernel
theorem eMd_rests_16 : decode prog_14_method_95_code 16 = .ok (.aload_n 0, 1) := by decide +kernel
theorem eMd_rests_17 : decode prog_14_method_95_code 17 = .ok (.iconst (-1), 1) := by decide +kernel
theorem eMd_rests_18 : decode prog_14_method_95_code 18 = .ok (.iconst 0, 1) := by decide +kernel
theorem eMd_rests_19 : decode prog_14_method_95_code 19 = .ok (.invokevirtual 385, 3) := by decide +kernel
theorem eMd_rests_22 : decode prog_14_method_95_code 22 = .ok (.istore_n 2, 1) := by decide +kernel
theorem eMd_rests_23 : decode prog_14_method_95_code 23 = .ok (.iload_n 2, 1) := by decide +kernel
theorem eMd_rests_24 : decode prog_14_method_95_code 24 = .ok (.bipush (-2), 2) := by decide +kernel
theorem eMd_rests_26 : decode prog_14_method_95_code 26 = .ok (.if_icmp .ne 6, 3) := by decide +kernel
theorem eMd_rests_29 : decode prog_14_method_95_code 29 = .ok (.bipush (-2), 2) := by decide +kernel
theorem eMd_rests_31 : decode prog_14_method_95_code 31 = .ok (.ireturn, 1) := by decide +kernel
theorem eMd_rests_32 : decode prog_14_method_95_code 32 = .ok (.aload_n 0, 1) := by decide +kernel
theorem eMd_rests_33 : decode prog_14_method_95_code 33 = .ok (.getfield 83, 3) := by decide +kernel
theorem eMd_rests_36 : decode prog_14_method_95_code 36 = .ok (.iconst 0, 1) := by decide +kernel
theorem eMd_rests_37 : decode prog_14_method_95_code 37 = .ok (.iaload, 1) := by decide +kernel
theorem eMd_rests_38 : decode prog_14_method_95_code 38 = .ok (.istore_n 3, 1) := by decide +kernel
theorem eMd_rests_39 : decode prog_14_method_95_code 39 = .ok (.iconst 0, 1) := by decide +kernel
theorem eMd_rests_40 : decode prog_14_method_95_code 40 = .ok (.istore 4, 2) := by decide +kernel
theorem eMd_rests_42 : decode prog_14_method_95_code 42 = .ok (.iload 4, 2) := by decide +kernel
theorem eMd_rests_44 : decode prog_14_method_95_code 44 = .ok (.iload_n 2, 1) := by decide +kernel
theorem eMd_rests_45 : decode prog_14_method_95_code 45 = .ok (.if_icmp .ge 20, 3) := by decide +kernel
theorem eMd_rests_48 : decode prog_14_method_95_code 48 = .ok (.aload_n 0, 1) := by decide +kernel
theorem eMd_rests_49 : decode prog_14_method_95_code 49 = .ok (.iload_n 3, 1) := by decide +kernel
theorem eMd_rests_50 : decode prog_14_method_95_code 50 = .ok (.aload_n 0, 1) := by decide +kernel
theorem eMd_rests_51 : decode prog_14_method_95_code 51 = .ok (.iload_n 3, 1) := by decide +kernel
theorem eMd_rests_52 : decode prog_14_method_95_code 52 = .ok (.invokevirtual 355, 3) := by decide +kernel
theorem eMd_rests_55 : decode prog_14_method_95_code 55 = .ok (.invokevirtual 389, 3) := by decide +kernel
theorem eMd_rests_58 : decode prog_14_method_95_code 58 = .ok (.istore_n 3, 1) := by decide +kernel
theorem eMd_rests_59 : decode prog_14_method_95_code 59 = .ok (.iinc 4 1, 3) := by decide +kernel
theorem eMd_rests_62 : decode prog_14_method_95_code 62 = .ok (.goto (-20), 3) := by decide +kernel
theorem eMd_rests_65 : decode prog_14_method_95_code 65 = .ok (.aload_n 0, 1) := by decide +kernel
theorem eMd_rests_66 : decode prog_14_method_95_code 66 = .ok (.iload_n 3, 1) := by decide +kernel
theorem eMd_rests_67 : decode prog_14_method_95_code 67 = .ok (.invokevirtual 287, 3) := by decide +kernel
theorem eMd_rests_70 : decode prog_14_method_95_code 70 = .ok (.iload_n 1, 1) := by decide +kernel
theorem eMd_rests_71 : decode prog_14_method_95_code 71 = .ok (.ifCond .ne 10, 3) := by decide +kernel
theorem eMd_rests_74 : decode prog_14_method_95_code 74 = .ok (.aload_n 0, 1) := by decide +kernel
theorem eMd_rests_75 : decode prog_14_method_95_code 75 = .ok (.getfield 258, 3) := by decide +kernel
theorem eMd_rests_78 : decode prog_14_method_95_code 78 = .ok (.goto 7, 3) := by decide +kernel
theorem eMd_rests_81 : decode prog_14_method_95_code 81 = .ok (.aload_n 0, 1) := by decide +kernel
theorem eMd_rests_82 : decode prog_14_method_95_code 82 = .ok (.getfield 246, 3) := by decide +kernel
theorem eMd_rests_85 : decode prog_14_method_95_code 85 = .ok (.ireturn, 1) := by decide +kernel
theorem eMd_fewestFrom_0 : decode prog_14_method_96_code 0 = .ok (.aload_n 0, 1) := by decide +kernel
theorem eMd_fewestFrom_1 : decode prog_14_method_96_code 1 = .ok (.iload_n 1, 1) := by decide +kernel
theorem eMd_fewestFrom_2 : decode prog_14_method_96_code 2 = .ok (.invokevirtual 303, 3) := by decide +kernel
theorem eMd_fewestFrom_5 : decode prog_14_method_96_code 5 = .ok (.ifCond .ne 6, 3) := by decide +kernel
theorem eMd_fewestFrom_8 : decode prog_14_method_96_code 8 = .ok (.bipush (-2), 2) := by decide +kernel
theorem eMd_fewestFrom_10 : decode prog_14_method_96_code 10 = .ok (.ireturn, 1) := by decide +kernel
theorem eMd_fewestFrom_11 : decode prog_14_method_96_code 11 = .ok (.iload_n 1, 1) := by decide +kernel
theorem eMd_fewestFrom_12 : decode prog_14_method_96_code 12 = .ok (.iload_n 2, 1) := by decide +kernel
theorem eMd_fewestFrom_13 : decode prog_14_method_96_code 13 = .ok (.if_icmp .ne 5, 3) := by decide +kernel
theorem eMd_fewestFrom_16 : decode prog_14_method_96_code 16 = .ok (.iconst 0, 1) := by decide +kernel
theorem eMd_fewestFrom_17 : decode prog_14_method_96_code 17 = .ok (.ireturn, 1) := by decide +kernel
theorem eMd_fewestFrom_18 : decode prog_14_method_96_code 18 = .ok (.aload_n 0, 1) := by decide +kernel
theorem eMd_fewestFrom_19 : decode prog_14_method_96_code 19 = .ok (.iload_n 2, 1) := by decide +kernel
theorem eMd_fewestFrom_20 : decode prog_14_method_96_code 20 = .ok (.iconst 0, 1) := by decide +kernel
theorem eMd_fewestFrom_21 : decode prog_14_method_96_code 21 = .ok (.iload_n 1, 1) := by decide +kernel
theorem eMd_fewestFrom_22 : decode prog_14_method_96_code 22 = .ok (.invokevirtual 296, 3) := by decide +kernel
theorem eMd_fewestFrom_25 : decode prog_14_method_96_code 25 = .ok (.aload_n 0, 1) := by decide +kernel
theorem eMd_fewestFrom_26 : decode prog_14_method_96_code 26 = .ok (.getfield 73, 3) := by decide +kernel
theorem eMd_fewestFrom_29 : decode prog_14_method_96_code 29 = .ok (.iload_n 1, 1) := by decide +kernel
theorem eMd_fewestFrom_30 : decode prog_14_method_96_code 30 = .ok (.saload, 1) := by decide +kernel
theorem eMd_fewestFrom_31 : decode prog_14_method_96_code 31 = .ok (.sipush 30000, 3) := by decide +kernel
theorem eMd_fewestFrom_34 : decode prog_14_method_96_code 34 = .ok (.if_icmp .ne 8, 3) := by decide +kernel
theorem eMd_fewestFrom_37 : decode prog_14_method_96_code 37 = .ok (.bipush (-2), 2) := by decide +kernel
theorem eMd_fewestFrom_39 : decode prog_14_method_96_code 39 = .ok (.goto 9, 3) := by decide +kernel
theorem eMd_fewestFrom_42 : decode prog_14_method_96_code 42 = .ok (.aload_n 0, 1) := by decide +kernel
theorem eMd_fewestFrom_43 : decode prog_14_method_96_code 43 = .ok (.getfield 73, 3) := by decide +kernel
theorem eMd_fewestFrom_46 : decode prog_14_method_96_code 46 = .ok (.iload_n 1, 1) := by decide +kernel
theorem eMd_fewestFrom_47 : decode prog_14_method_96_code 47 = .ok (.saload, 1) := by decide +kernel
theorem eMd_fewestFrom_48 : decode prog_14_method_96_code 48 = .ok (.ireturn, 1) := by decide +kernel
theorem eMd_between_0 : decode prog_14_method_97_code 0 = .ok (.aload_n 0, 1) := by decide +kernel
theorem eMd_between_1 : decode prog_14_method_97_code 1 = .ok (.iconst 0, 1) := by decide +kernel
theorem eMd_between_2 : decode prog_14_method_97_code 2 = .ok (.putfield 107, 3) := by decide +kernel
theorem eMd_between_5 : decode prog_14_method_97_code 5 = .ok (.aload_n 0, 1) := by decide +kernel
theorem eMd_between_6 : decode prog_14_method_97_code 6 = .ok (.iload_n 1, 1) := by decide +kernel
theorem eMd_between_7 : decode prog_14_method_97_code 7 = .ok (.invokevirtual 379, 3) := by decide +kernel
theorem eMd_between_10 : decode prog_14_method_97_code 10 = .ok (.ifCond .eq 11, 3) := by decide +kernel
theorem eMd_between_13 : decode prog_14_method_97_code 13 = .ok (.aload_n 0, 1) := by decide +kernel
theorem eMd_between_14 : decode prog_14_method_97_code 14 = .ok (.iload_n 2, 1) := by decide +kernel
theorem eMd_between_15 : decode prog_14_method_97_code 15 = .ok (.invokevirtual 379, 3) := by decide +kernel
theorem eMd_between_18 : decode prog_14_method_97_code 18 = .ok (.ifCond .ne 5, 3) := by decide +kernel
theorem eMd_between_21 : decode prog_14_method_97_code 21 = .ok (.iconst (-1), 1) := by decide +kernel
theorem eMd_between_22 : decode prog_14_method_97_code 22 = .ok (.ireturn, 1) := by decide +kernel
theorem eMd_between_23 : decode prog_14_method_97_code 23 = .ok (.iload_n 1, 1) := by decide +kernel
theorem eMd_between_24 : decode prog_14_method_97_code 24 = .ok (.iload_n 2, 1) := by decide +kernel
theorem eMd_between_25 : decode prog_14_method_97_code 25 = .ok (.if_icmp .ne 7, 3) := by decide +kernel
theorem eMd_between_28 : decode prog_14_method_97_code 28 = .ok (.iconst 0, 1) := by decide +kernel
theorem eMd_between_29 : decode prog_14_method_97_code 29 = .ok (.goto 17, 3) := by decide +kernel
theorem eMd_between_32 : decode prog_14_method_97_code 32 = .ok (.aload_n 0, 1) := by decide +kernel
theorem eMd_between_33 : decode prog_14_method_97_code 33 = .ok (.aload_n 0, 1) := by decide +kernel
theorem eMd_between_34 : decode prog_14_method_97_code 34 = .ok (.iload_n 1, 1) := by decide +kernel
theorem eMd_between_35 : decode prog_14_method_97_code 35 = .ok (.invokevirtual 382, 3) := by decide +kernel
theorem eMd_between_38 : decode prog_14_method_97_code 38 = .ok (.aload_n 0, 1) := by decide +kernel
theorem eMd_between_39 : decode prog_14_method_97_code 39 = .ok (.iload_n 2, 1) := by decide +kernel
theorem eMd_between_40 : decode prog_14_method_97_code 40 = .ok (.invokevirtual 382, 3) := by decide +kernel
theorem eMd_between_43 : decode prog_14_method_97_code 43 = .ok (.invokevirtual 392, 3) := by decide +kernel
theorem eMd_between_46 : decode prog_14_method_97_code 46 = .ok (.ireturn, 1) := by decide +kernel
theorem eMd_laysTour_0 : decode prog_14_method_98_code 0 = .ok (.aload_n 0, 1) := by decide +kernel
theorem eMd_laysTour_1 : decode prog_14_method_98_code 1 = .ok (.getfield 13, 3) := by decide +kernel
theorem eMd_laysTour_4 : decode prog_14_method_98_code 4 = .ok (.iconst 4, 1) := by decide +kernel
theorem eMd_laysTour_5 : decode prog_14_method_98_code 5 = .ok (.iaload, 1) := by decide +kernel
theorem eMd_laysTour_6 : decode prog_14_method_98_code 6 = .ok (.istore_n 1, 1) := by decide +kernel
theorem eMd_laysTour_7 : decode prog_14_method_98_code 7 = .ok (.iconst 0, 1) := by decide +kernel
theorem eMd_laysTour_8 : decode prog_14_method_98_code 8 = .ok (.istore_n 2, 1) := by decide +kernel
theorem eMd_laysTour_9 : decode prog_14_method_98_code 9 = .ok (.iload_n 2, 1) := by decide +kernel
theorem eMd_laysTour_10 : decode prog_14_method_98_code 10 = .ok (.iload_n 1, 1) := by decide +kernel
theorem eMd_laysTour_11 : decode prog_14_method_98_code 11 = .ok (.if_icmp .ge 143, 3) := by decide +kernel
theorem eMd_laysTour_14 : decode prog_14_method_98_code 14 = .ok (.aload_n 0, 1) := by decide +kernel
theorem eMd_laysTour_15 : decode prog_14_method_98_code 15 = .ok (.aload_n 0, 1) := by decide +kernel
theorem eMd_laysTour_16 : decode prog_14_method_98_code 16 = .ok (.iload_n 2, 1) := by decide +kernel
theorem eMd_laysTour_17 : decode prog_14_method_98_code 17 = .ok (.invokevirtual 382, 3) := by decide +kernel
theorem eMd_laysTour_20 : decode prog_14_method_98_code 20 = .ok (.iconst 0, 1) := by decide +kernel
theorem eMd_laysTour_21 : decode prog_14_method_98_code 21 = .ok (.invokevirtual 385, 3) := by decide +kernel
theorem eMd_laysTour_24 : decode prog_14_method_98_code 24 = .ok (.istore_n 3, 1) := by decide +kernel
theorem eMd_laysTour_25 : decode prog_14_method_98_code 25 = .ok (.aload_n 0, 1) := by decide +kernel
theorem eMd_laysTour_26 : decode prog_14_method_98_code 26 = .ok (.getfield 89, 3) := by decide +kernel
theorem eMd_laysTour_29 : decode prog_14_method_98_code 29 = .ok (.bipush 36, 2) := by decide +kernel
theorem eMd_laysTour_31 : decode prog_14_method_98_code 31 = .ok (.iload_n 2, 1) := by decide +kernel
theorem eMd_laysTour_32 : decode prog_14_method_98_code 32 = .ok (.iadd, 1) := by decide +kernel
theorem eMd_laysTour_33 : decode prog_14_method_98_code 33 = .ok (.iload_n 3, 1) := by decide +kernel
theorem eMd_laysTour_34 : decode prog_14_method_98_code 34 = .ok (.bipush (-2), 2) := by decide +kernel
theorem eMd_laysTour_36 : decode prog_14_method_98_code 36 = .ok (.if_icmp .ne 9, 3) := by decide +kernel
theorem eMd_laysTour_39 : decode prog_14_method_98_code 39 = .ok (.sipush 30000, 3) := by decide +kernel
theorem eMd_laysTour_42 : decode prog_14_method_98_code 42 = .ok (.goto 4, 3) := by decide +kernel
theorem eMd_laysTour_45 : decode prog_14_method_98_code 45 = .ok (.iload_n 3, 1) := by decide +kernel
theorem eMd_laysTour_46 : decode prog_14_method_98_code 46 = .ok (.iastore, 1) := by decide +kernel
theorem eMd_laysTour_47 : decode prog_14_method_98_code 47 = .ok (.iconst 0, 1) := by decide +kernel
theorem eMd_laysTour_48 : decode prog_14_method_98_code 48 = .ok (.istore 4, 2) := by decide +kernel
theorem eMd_laysTour_50 : decode prog_14_method_98_code 50 = .ok (.iload 4, 2) := by decide +kernel
theorem eMd_laysTour_52 : decode prog_14_method_98_code 52 = .ok (.iload_n 1, 1) := by decide +kernel
theorem eMd_laysTour_53 : decode prog_14_method_98_code 53 = .ok (.if_icmp .ge 95, 3) := by decide +kernel
theorem eMd_laysTour_56 : decode prog_14_method_98_code 56 = .ok (.aload_n 0, 1) := by decide +kernel
theorem eMd_laysTour_57 : decode prog_14_method_98_code 57 = .ok (.iload 4, 2) := by decide +kernel
theorem eMd_laysTour_59 : decode prog_14_method_98_code 59 = .ok (.invokevirtual 382, 3) := by decide +kernel
theorem eMd_laysTour_62 : decode prog_14_method_98_code 62 = .ok (.aload_n 0, 1) := by decide +kernel
theorem eMd_laysTour_63 : decode prog_14_method_98_code 63 = .ok (.iload_n 2, 1) := by decide +kernel
theorem eMd_laysTour_64 : decode prog_14_method_98_code 64 = .ok (.invokevirtual 382, 3) := by decide +kernel
theorem eMd_laysTour_67 : decode prog_14_method_98_code 67 = .ok (.if_icmp .eq 16, 3) := by decide +kernel
theorem eMd_laysTour_70 : decode prog_14_method_98_code 70 = .ok (.aload_n 0, 1) := by decide +kernel
theorem eMd_laysTour_71 : decode prog_14_method_98_code 71 = .ok (.aload_n 0, 1) := by decide +kernel
theorem eMd_laysTour_72 : decode prog_14_method_98_code 72 = .ok (.iload 4, 2) := by decide +kernel
theorem eMd_laysTour_74 : decode prog_14_method_98_code 74 = .ok (.invokevirtual 382, 3) := by decide +kernel
theorem eMd_laysTour_77 : decode prog_14_method_98_code 77 = .ok (.invokevirtual 303, 3) := by decide +kernel
theorem eMd_laysTour_80 : decode prog_14_method_98_code 80 = .ok (.ifCond .eq 7, 3) := by decide +kernel
theorem eMd_laysTour_83 : decode prog_14_method_98_code 83 = .ok (.iconst 1, 1) := by decide +kernel
theorem eMd_laysTour_84 : decode prog_14_method_98_code 84 = .ok (.goto 4, 3) := by decide +kernel
theorem eMd_laysTour_87 : decode prog_14_method_98_code 87 = .ok (.iconst 0, 1) := by decide +kernel
theorem eMd_laysTour_88 : decode prog_14_method_98_code 88 = .ok (.istore 5, 2) := by decide +kernel
theorem eMd_laysTour_90 : decode prog_14_method_98_code 90 = .ok (.aload_n 0, 1) := by decide +kernel
theorem eMd_laysTour_91 : decode prog_14_method_98_code 91 = .ok (.getfield 89, 3) := by decide +kernel
theorem eMd_laysTour_94 : decode prog_14_method_98_code 94 = .ok (.bipush 6, 2) := by decide +kernel
theorem eMd_laysTour_96 : decode prog_14_method_98_code 96 = .ok (.iload 4, 2) := by decide +kernel
theorem eMd_laysTour_98 : decode prog_14_method_98_code 98 = .ok (.imul, 1) := by decide +kernel
theorem eMd_laysTour_99 : decode prog_14_method_98_code 99 = .ok (.iload_n 2, 1) := by decide +kernel
theorem eMd_laysTour_100 : decode prog_14_method_98_code 100 = .ok (.iadd, 1) := by decide +kernel
theorem eMd_laysTour_101 : decode prog_14_method_98_code 101 = .ok (.aload_n 0, 1) := by decide +kernel
theorem eMd_laysTour_102 : decode prog_14_method_98_code 102 = .ok (.iload 4, 2) := by decide +kernel
theorem eMd_laysTour_104 : decode prog_14_method_98_code 104 = .ok (.invokevirtual 382, 3) := by decide +kernel
theorem eMd_laysTour_107 : decode prog_14_method_98_code 107 = .ok (.aload_n 0, 1) := by decide +kernel
theorem eMd_laysTour_108 : decode prog_14_method_98_code 108 = .ok (.iload_n 2, 1) := by decide +kernel
theorem eMd_laysTour_109 : decode prog_14_method_98_code 109 = .ok (.invokevirtual 382, 3) := by decide +kernel
theorem eMd_laysTour_112 : decode prog_14_method_98_code 112 = .ok (.if_icmp .ne 7, 3) := by decide +kernel
theorem eMd_laysTour_115 : decode prog_14_method_98_code 115 = .ok (.iconst 0, 1) := by decide +kernel
theorem eMd_laysTour_116 : decode prog_14_method_98_code 116 = .ok (.goto 25, 3) := by decide +kernel
theorem eMd_laysTour_119 : decode prog_14_method_98_code 119 = .ok (.iload 5, 2) := by decide +kernel
theorem eMd_laysTour_121 : decode prog_14_method_98_code 121 = .ok (.ifCond .eq 17, 3) := by decide +kernel
theorem eMd_laysTour_124 : decode prog_14_method_98_code 124 = .ok (.aload_n 0, 1) := by decide +kernel
theorem eMd_laysTour_125 : decode prog_14_method_98_code 125 = .ok (.getfield 73, 3) := by decide +kernel
theorem eMd_laysTour_128 : decode prog_14_method_98_code 128 = .ok (.aload_n 0, 1) := by decide +kernel
theorem eMd_laysTour_129 : decode prog_14_method_98_code 129 = .ok (.iload 4, 2) := by decide +kernel
theorem eMd_laysTour_131 : decode prog_14_method_98_code 131 = .ok (.invokevirtual 382, 3) := by decide +kernel
theorem eMd_laysTour_134 : decode prog_14_method_98_code 134 = .ok (.saload, 1) := by decide +kernel
theorem eMd_laysTour_135 : decode prog_14_method_98_code 135 = .ok (.goto 6, 3) := by decide +kernel
theorem eMd_laysTour_138 : decode prog_14_method_98_code 138 = .ok (.sipush 30000, 3) := by decide +kernel
theorem eMd_laysTour_141 : decode prog_14_method_98_code 141 = .ok (.iastore, 1) := by decide +kernel
theorem eMd_laysTour_142 : decode prog_14_method_98_code 142 = .ok (.iinc 4 1, 3) := by decide +kernel
theorem eMd_laysTour_145 : decode prog_14_method_98_code 145 = .ok (.goto (-95), 3) := by decide +kernel
theorem eMd_laysTour_148 : decode prog_14_method_98_code 148 = .ok (.iinc 2 1, 3) := by decide +kernel
theorem eMd_laysTour_151 : decode prog_14_method_98_code 151 = .ok (.goto (-142), 3) := by decide +kernel
theorem eMd_laysTour_154 : decode prog_14_method_98_code 154 = .ok (.iconst 1, 1) := by decide +kernel
theorem eMd_laysTour_155 : decode prog_14_method_98_code 155 = .ok (.iload_n 1, 1) := by decide +kernel
theorem eMd_laysTour_156 : decode prog_14_method_98_code 156 = .ok (.ishl, 1) := by decide +kernel
theorem eMd_laysTour_157 : decode prog_14_method_98_code 157 = .ok (.iconst 1, 1) := by decide +kernel
theorem eMd_laysTour_158 : decode prog_14_method_98_code 158 = .ok (.isub, 1) := by decide +kernel
theorem eMd_laysTour_159 : decode prog_14_method_98_code 159 = .ok (.istore_n 2, 1) := by decide +kernel
theorem eMd_laysTour_160 : decode prog_14_method_98_code 160 = .ok (.iload_n 2, 1) := by decide +kernel
theorem eMd_laysTour_161 : decode prog_14_method_98_code 161 = .ok (.ifCond .lt 40, 3) := by decide +kernel
theorem eMd_laysTour_164 : decode prog_14_method_98_code 164 = .ok (.iconst 0, 1) := by decide +kernel
theorem eMd_laysTour_165 : decode prog_14_method_98_code 165 = .ok (.istore_n 3, 1) := by decide +kernel
theorem eMd_laysTour_166 : decode prog_14_method_98_code 166 = .ok (.iload_n 3, 1) := by decide +kernel
theorem eMd_laysTour_167 : decode prog_14_method_98_code 167 = .ok (.bipush 6, 2) := by decide +kernel
theorem eMd_laysTour_169 : decode prog_14_method_98_code 169 = .ok (.if_icmp .gt 26, 3) := by decide +kernel
theorem eMd_laysTour_172 : decode prog_14_method_98_code 172 = .ok (.aload_n 0, 1) := by decide +kernel
theorem eMd_laysTour_173 : decode prog_14_method_98_code 173 = .ok (.getfield 92, 3) := by decide +kernel
theorem eMd_laysTour_176 : decode prog_14_method_98_code 176 = .ok (.bipush 7, 2) := by decide +kernel
theorem eMd_laysTour_178 : decode prog_14_method_98_code 178 = .ok (.iload_n 2, 1) := by decide +kernel
theorem eMd_laysTour_179 : decode prog_14_method_98_code 179 = .ok (.imul, 1) := by decide +kernel
theorem eMd_laysTour_180 : decode prog_14_method_98_code 180 = .ok (.iload_n 3, 1) := by decide +kernel
theorem eMd_laysTour_181 : decode prog_14_method_98_code 181 = .ok (.iadd, 1) := by decide +kernel
theorem eMd_laysTour_182 : decode prog_14_method_98_code 182 = .ok (.aload_n 0, 1) := by decide +kernel
theorem eMd_laysTour_183 : decode prog_14_method_98_code 183 = .ok (.iload_n 2, 1) := by decide +kernel
theorem eMd_laysTour_184 : decode prog_14_method_98_code 184 = .ok (.iload_n 3, 1) := by decide +kernel
theorem eMd_laysTour_185 : decode prog_14_method_98_code 185 = .ok (.invokevirtual 395, 3) := by decide +kernel
theorem eMd_laysTour_188 : decode prog_14_method_98_code 188 = .ok (.iastore, 1) := by decide +kernel
theorem eMd_laysTour_189 : decode prog_14_method_98_code 189 = .ok (.iinc 3 1, 3) := by decide +kernel
theorem eMd_laysTour_192 : decode prog_14_method_98_code 192 = .ok (.goto (-26), 3) := by decide +kernel
theorem eMd_laysTour_195 : decode prog_14_method_98_code 195 = .ok (.iinc 2 (-1), 3) := by decide +kernel
theorem eMd_laysTour_198 : decode prog_14_method_98_code 198 = .ok (.goto (-38), 3) := by decide +kernel
theorem eMd_laysTour_201 : decode prog_14_method_98_code 201 = .ok (.return_, 1) := by decide +kernel
theorem eMd_leastLeft_0 : decode prog_14_method_99_code 0 = .ok (.aload_n 0, 1) := by decide +kernel
theorem eMd_leastLeft_1 : decode prog_14_method_99_code 1 = .ok (.getfield 13, 3) := by decide +kernel
theorem eMd_leastLeft_4 : decode prog_14_method_99_code 4 = .ok (.iconst 4, 1) := by decide +kernel
theorem eMd_leastLeft_5 : decode prog_14_method_99_code 5 = .ok (.iaload, 1) := by decide +kernel
theorem eMd_leastLeft_6 : decode prog_14_method_99_code 6 = .ok (.istore_n 3, 1) := by decide +kernel
theorem eMd_leastLeft_7 : decode prog_14_method_99_code 7 = .ok (.iload_n 1, 1) := by decide +kernel
theorem eMd_leastLeft_8 : decode prog_14_method_99_code 8 = .ok (.iconst 1, 1) := by decide +kernel
theorem eMd_leastLeft_9 : decode prog_14_method_99_code 9 = .ok (.iload_n 3, 1) := by decide +kernel
theorem eMd_leastLeft_10 : decode prog_14_method_99_code 10 = .ok (.ishl, 1) := by decide +kernel
theorem eMd_leastLeft_11 : decode prog_14_method_99_code 11 = .ok (.iconst 1, 1) := by decide +kernel
theorem eMd_leastLeft_12 : decode prog_14_method_99_code 12 = .ok (.isub, 1) := by decide +kernel
theorem eMd_leastLeft_13 : decode prog_14_method_99_code 13 = .ok (.if_icmp .ne 5, 3) := by decide +kernel
theorem eMd_leastLeft_16 : decode prog_14_method_99_code 16 = .ok (.iconst 0, 1) := by decide +kernel
theorem eMd_leastLeft_17 : decode prog_14_method_99_code 17 = .ok (.ireturn, 1) := by decide +kernel
theorem eMd_leastLeft_18 : decode prog_14_method_99_code 18 = .ok (.sipush 30000, 3) := by decide +kernel
theorem eMd_leastLeft_21 : decode prog_14_method_99_code 21 = .ok (.istore 4, 2) := by decide +kernel
theorem eMd_leastLeft_23 : decode prog_14_method_99_code 23 = .ok (.iconst 0, 1) := by decide +kernel
theorem eMd_leastLeft_24 : decode prog_14_method_99_code 24 = .ok (.istore 5, 2) := by decide +kernel
theorem eMd_leastLeft_26 : decode prog_14_method_99_code 26 = .ok (.iload 5, 2) := by decide +kernel
theorem eMd_leastLeft_28 : decode prog_14_method_99_code 28 = .ok (.iload_n 3, 1) := by decide +kernel
theorem eMd_leastLeft_29 : decode prog_14_method_99_code 29 = .ok (.if_icmp .ge 81, 3) := by decide +kernel
theorem eMd_leastLeft_32 : decode prog_14_method_99_code 32 = .ok (.iload_n 2, 1) := by decide +kernel
theorem eMd_leastLeft_33 : decode prog_14_method_99_code 33 = .ok (.iload_n 3, 1) := by decide +kernel
theorem eMd_leastLeft_34 : decode prog_14_method_99_code 34 = .ok (.if_icmp .lt 9, 3) := by decide +kernel
theorem eMd_leastLeft_37 : decode prog_14_method_99_code 37 = .ok (.iload_n 2, 1) := by decide +kernel
theorem eMd_leastLeft_38 : decode prog_14_method_99_code 38 = .ok (.bipush 6, 2) := by decide +kernel
theorem eMd_leastLeft_40 : decode prog_14_method_99_code 40 = .ok (.if_icmp .ne 70, 3) := by decide +kernel
theorem eMd_leastLeft_43 : decode prog_14_method_99_code 43 = .ok (.iload_n 1, 1) := by decide +kernel
theorem eMd_leastLeft_44 : decode prog_14_method_99_code 44 = .ok (.iload 5, 2) := by decide +kernel
theorem eMd_leastLeft_46 : decode prog_14_method_99_code 46 = .ok (.ishr, 1) := by decide +kernel
theorem eMd_leastLeft_47 : decode prog_14_method_99_code 47 = .ok (.iconst 1, 1) := by decide +kernel
theorem eMd_leastLeft_48 : decode prog_14_method_99_code 48 = .ok (.iand, 1) := by decide +kernel
theorem eMd_leastLeft_49 : decode prog_14_method_99_code 49 = .ok (.iconst 1, 1) := by decide +kernel
theorem eMd_leastLeft_50 : decode prog_14_method_99_code 50 = .ok (.if_icmp .ne 6, 3) := by decide +kernel
theorem eMd_leastLeft_53 : decode prog_14_method_99_code 53 = .ok (.goto 51, 3) := by decide +kernel
theorem eMd_leastLeft_56 : decode prog_14_method_99_code 56 = .ok (.aload_n 0, 1) := by decide +kernel
theorem eMd_leastLeft_57 : decode prog_14_method_99_code 57 = .ok (.getfield 89, 3) := by decide +kernel
theorem eMd_leastLeft_60 : decode prog_14_method_99_code 60 = .ok (.bipush 6, 2) := by decide +kernel
theorem eMd_leastLeft_62 : decode prog_14_method_99_code 62 = .ok (.iload_n 2, 1) := by decide +kernel
theorem eMd_leastLeft_63 : decode prog_14_method_99_code 63 = .ok (.imul, 1) := by decide +kernel
theorem eMd_leastLeft_64 : decode prog_14_method_99_code 64 = .ok (.iload 5, 2) := by decide +kernel
theorem eMd_leastLeft_66 : decode prog_14_method_99_code 66 = .ok (.iadd, 1) := by decide +kernel
theorem eMd_leastLeft_67 : decode prog_14_method_99_code 67 = .ok (.iaload, 1) := by decide +kernel
theorem eMd_leastLeft_68 : decode prog_14_method_99_code 68 = .ok (.aload_n 0, 1) := by decide +kernel
theorem eMd_leastLeft_69 : decode prog_14_method_99_code 69 = .ok (.getfield 92, 3) := by decide +kernel
theorem eMd_leastLeft_72 : decode prog_14_method_99_code 72 = .ok (.bipush 7, 2) := by decide +kernel
theorem eMd_leastLeft_74 : decode prog_14_method_99_code 74 = .ok (.iload_n 1, 1) := by decide +kernel
theorem eMd_leastLeft_75 : decode prog_14_method_99_code 75 = .ok (.iconst 1, 1) := by decide +kernel
theorem eMd_leastLeft_76 : decode prog_14_method_99_code 76 = .ok (.iload 5, 2) := by decide +kernel
theorem eMd_leastLeft_78 : decode prog_14_method_99_code 78 = .ok (.ishl, 1) := by decide +kernel
theorem eMd_leastLeft_79 : decode prog_14_method_99_code 79 = .ok (.ior, 1) := by decide +kernel
theorem eMd_leastLeft_80 : decode prog_14_method_99_code 80 = .ok (.imul, 1) := by decide +kernel
theorem eMd_leastLeft_81 : decode prog_14_method_99_code 81 = .ok (.iload 5, 2) := by decide +kernel
theorem eMd_leastLeft_83 : decode prog_14_method_99_code 83 = .ok (.iadd, 1) := by decide +kernel
theorem eMd_leastLeft_84 : decode prog_14_method_99_code 84 = .ok (.iaload, 1) := by decide +kernel
theorem eMd_leastLeft_85 : decode prog_14_method_99_code 85 = .ok (.iadd, 1) := by decide +kernel
theorem eMd_leastLeft_86 : decode prog_14_method_99_code 86 = .ok (.istore 6, 2) := by decide +kernel
theorem eMd_leastLeft_88 : decode prog_14_method_99_code 88 = .ok (.iload 6, 2) := by decide +kernel
theorem eMd_leastLeft_90 : decode prog_14_method_99_code 90 = .ok (.iload 4, 2) := by decide +kernel
theorem eMd_leastLeft_92 : decode prog_14_method_99_code 92 = .ok (.if_icmp .ge 8, 3) := by decide +kernel
theorem eMd_leastLeft_95 : decode prog_14_method_99_code 95 = .ok (.iload 6, 2) := by decide +kernel
theorem eMd_leastLeft_97 : decode prog_14_method_99_code 97 = .ok (.goto 5, 3) := by decide +kernel
theorem eMd_leastLeft_100 : decode prog_14_method_99_code 100 = .ok (.iload 4, 2) := by decide +kernel
theorem eMd_leastLeft_102 : decode prog_14_method_99_code 102 = .ok (.istore 4, 2) := by decide +kernel
theorem eMd_leastLeft_104 : decode prog_14_method_99_code 104 = .ok (.iinc 5 1, 3) := by decide +kernel
theorem eMd_leastLeft_107 : decode prog_14_method_99_code 107 = .ok (.goto (-81), 3) := by decide +kernel
theorem eMd_leastLeft_110 : decode prog_14_method_99_code 110 = .ok (.iload 4, 2) := by decide +kernel
theorem eMd_leastLeft_112 : decode prog_14_method_99_code 112 = .ok (.ireturn, 1) := by decide +kernel
theorem eMd_tour_0 : decode prog_14_method_100_code 0 = .ok (.aload_n 0, 1) := by decide +kernel
theorem eMd_tour_1 : decode prog_14_method_100_code 1 = .ok (.iconst 0, 1) := by decide +kernel
theorem eMd_tour_2 : decode prog_14_method_100_code 2 = .ok (.putfield 107, 3) := by decide +kernel
theorem eMd_tour_5 : decode prog_14_method_100_code 5 = .ok (.aload_n 0, 1) := by decide +kernel
theorem eMd_tour_6 : decode prog_14_method_100_code 6 = .ok (.invokevirtual 398, 3) := by decide +kernel
theorem eMd_tour_9 : decode prog_14_method_100_code 9 = .ok (.aload_n 0, 1) := by decide +kernel
theorem eMd_tour_10 : decode prog_14_method_100_code 10 = .ok (.getfield 92, 3) := by decide +kernel
theorem eMd_tour_13 : decode prog_14_method_100_code 13 = .ok (.bipush 6, 2) := by decide +kernel
theorem eMd_tour_15 : decode prog_14_method_100_code 15 = .ok (.iaload, 1) := by decide +kernel
theorem eMd_tour_16 : decode prog_14_method_100_code 16 = .ok (.sipush 30000, 3) := by decide +kernel
theorem eMd_tour_19 : decode prog_14_method_100_code 19 = .ok (.if_icmp .lt 8, 3) := by decide +kernel
theorem eMd_tour_22 : decode prog_14_method_100_code 22 = .ok (.bipush (-2), 2) := by decide +kernel
theorem eMd_tour_24 : decode prog_14_method_100_code 24 = .ok (.goto 10, 3) := by decide +kernel
theorem eMd_tour_27 : decode prog_14_method_100_code 27 = .ok (.aload_n 0, 1) := by decide +kernel
theorem eMd_tour_28 : decode prog_14_method_100_code 28 = .ok (.getfield 92, 3) := by decide +kernel
theorem eMd_tour_31 : decode prog_14_method_100_code 31 = .ok (.bipush 6, 2) := by decide +kernel
theorem eMd_tour_33 : decode prog_14_method_100_code 33 = .ok (.iaload, 1) := by decide +kernel
theorem eMd_tour_34 : decode prog_14_method_100_code 34 = .ok (.ireturn, 1) := by decide +kernel
theorem eMd_stop_0 : decode prog_14_method_101_code 0 = .ok (.aload_n 0, 1) := by decide +kernel
theorem eMd_stop_1 : decode prog_14_method_101_code 1 = .ok (.iconst 0, 1) := by decide +kernel
theorem eMd_stop_2 : decode prog_14_method_101_code 2 = .ok (.putfield 107, 3) := by decide +kernel
theorem eMd_stop_5 : decode prog_14_method_101_code 5 = .ok (.aload_n 0, 1) := by decide +kernel
theorem eMd_stop_6 : decode prog_14_method_101_code 6 = .ok (.iload_n 1, 1) := by decide +kernel
theorem eMd_stop_7 : decode prog_14_method_101_code 7 = .ok (.invokevirtual 379, 3) := by decide +kernel
theorem eMd_stop_10 : decode prog_14_method_101_code 10 = .ok (.ifCond .ne 5, 3) := by decide +kernel
theorem eMd_stop_13 : decode prog_14_method_101_code 13 = .ok (.iconst (-1), 1) := by decide +kernel
theorem eMd_stop_14 : decode prog_14_method_101_code 14 = .ok (.ireturn, 1) := by decide +kernel
theorem eMd_stop_15 : decode prog_14_method_101_code 15 = .ok (.aload_n 0, 1) := by decide +kernel
theorem eMd_stop_16 : decode prog_14_method_101_code 16 = .ok (.invokevirtual 398, 3) := by decide +kernel
theorem eMd_stop_19 : decode prog_14_method_101_code 19 = .ok (.aload_n 0, 1) := by decide +kernel
theorem eMd_stop_20 : decode prog_14_method_101_code 20 = .ok (.getfield 92, 3) := by decide +kernel
theorem eMd_stop_23 : decode prog_14_method_101_code 23 = .ok (.bipush 6, 2) := by decide +kernel
theorem eMd_stop_25 : decode prog_14_method_101_code 25 = .ok (.iaload, 1) := by decide +kernel
theorem eMd_stop_26 : decode prog_14_method_101_code 26 = .ok (.sipush 30000, 3) := by decide +kernel
theorem eMd_stop_29 : decode prog_14_method_101_code 29 = .ok (.if_icmp .lt 6, 3) := by decide +kernel
theorem eMd_stop_32 : decode prog_14_method_101_code 32 = .ok (.bipush (-2), 2) := by decide +kernel
theorem eMd_stop_34 : decode prog_14_method_101_code 34 = .ok (.ireturn, 1) := by decide +kernel
theorem eMd_stop_35 : decode prog_14_method_101_code 35 = .ok (.iconst 0, 1) := by decide +kernel
theorem eMd_stop_36 : decode prog_14_method_101_code 36 = .ok (.istore_n 2, 1) := by decide +kernel
theorem eMd_stop_37 : decode prog_14_method_101_code 37 = .ok (.bipush 6, 2) := by decide +kernel
theorem eMd_stop_39 : decode prog_14_method_101_code 39 = .ok (.istore_n 3, 1) := by decide +kernel
theorem eMd_stop_40 : decode prog_14_method_101_code 40 = .ok (.iconst 0, 1) := by decide +kernel
theorem eMd_stop_41 : decode prog_14_method_101_code 41 = .ok (.istore 4, 2) := by decide +kernel
theorem eMd_stop_43 : decode prog_14_method_101_code 43 = .ok (.iload 4, 2) := by decide +kernel
theorem eMd_stop_45 : decode prog_14_method_101_code 45 = .ok (.iload_n 1, 1) := by decide +kernel
theorem eMd_stop_46 : decode prog_14_method_101_code 46 = .ok (.if_icmp .gt 82, 3) := by decide +kernel
theorem eMd_stop_49 : decode prog_14_method_101_code 49 = .ok (.iconst 0, 1) := by decide +kernel
theorem eMd_stop_50 : decode prog_14_method_101_code 50 = .ok (.istore 5, 2) := by decide +kernel
theorem eMd_stop_52 : decode prog_14_method_101_code 52 = .ok (.iload_n 2, 1) := by decide +kernel
theorem eMd_stop_53 : decode prog_14_method_101_code 53 = .ok (.iload 5, 2) := by decide +kernel
theorem eMd_stop_55 : decode prog_14_method_101_code 55 = .ok (.ishr, 1) := by decide +kernel
theorem eMd_stop_56 : decode prog_14_method_101_code 56 = .ok (.iconst 1, 1) := by decide +kernel
theorem eMd_stop_57 : decode prog_14_method_101_code 57 = .ok (.iand, 1) := by decide +kernel
theorem eMd_stop_58 : decode prog_14_method_101_code 58 = .ok (.iconst 1, 1) := by decide +kernel
theorem eMd_stop_59 : decode prog_14_method_101_code 59 = .ok (.if_icmp .eq 47, 3) := by decide +kernel
theorem eMd_stop_62 : decode prog_14_method_101_code 62 = .ok (.aload_n 0, 1) := by decide +kernel
theorem eMd_stop_63 : decode prog_14_method_101_code 63 = .ok (.getfield 89, 3) := by decide +kernel
theorem eMd_stop_66 : decode prog_14_method_101_code 66 = .ok (.bipush 6, 2) := by decide +kernel
theorem eMd_stop_68 : decode prog_14_method_101_code 68 = .ok (.iload_n 3, 1) := by decide +kernel
theorem eMd_stop_69 : decode prog_14_method_101_code 69 = .ok (.imul, 1) := by decide +kernel
theorem eMd_stop_70 : decode prog_14_method_101_code 70 = .ok (.iload 5, 2) := by decide +kernel
theorem eMd_stop_72 : decode prog_14_method_101_code 72 = .ok (.iadd, 1) := by decide +kernel
theorem eMd_stop_73 : decode prog_14_method_101_code 73 = .ok (.iaload, 1) := by decide +kernel
theorem eMd_stop_74 : decode prog_14_method_101_code 74 = .ok (.aload_n 0, 1) := by decide +kernel
theorem eMd_stop_75 : decode prog_14_method_101_code 75 = .ok (.getfield 92, 3) := by decide +kernel
theorem eMd_stop_78 : decode prog_14_method_101_code 78 = .ok (.bipush 7, 2) := by decide +kernel
theorem eMd_stop_80 : decode prog_14_method_101_code 80 = .ok (.iload_n 2, 1) := by decide +kernel
theorem eMd_stop_81 : decode prog_14_method_101_code 81 = .ok (.iconst 1, 1) := by decide +kernel
theorem eMd_stop_82 : decode prog_14_method_101_code 82 = .ok (.iload 5, 2) := by decide +kernel
theorem eMd_stop_84 : decode prog_14_method_101_code 84 = .ok (.ishl, 1) := by decide +kernel
theorem eMd_stop_85 : decode prog_14_method_101_code 85 = .ok (.ior, 1) := by decide +kernel
theorem eMd_stop_86 : decode prog_14_method_101_code 86 = .ok (.imul, 1) := by decide +kernel
theorem eMd_stop_87 : decode prog_14_method_101_code 87 = .ok (.iload 5, 2) := by decide +kernel
theorem eMd_stop_89 : decode prog_14_method_101_code 89 = .ok (.iadd, 1) := by decide +kernel
theorem eMd_stop_90 : decode prog_14_method_101_code 90 = .ok (.iaload, 1) := by decide +kernel
theorem eMd_stop_91 : decode prog_14_method_101_code 91 = .ok (.iadd, 1) := by decide +kernel
theorem eMd_stop_92 : decode prog_14_method_101_code 92 = .ok (.aload_n 0, 1) := by decide +kernel
theorem eMd_stop_93 : decode prog_14_method_101_code 93 = .ok (.getfield 92, 3) := by decide +kernel
theorem eMd_stop_96 : decode prog_14_method_101_code 96 = .ok (.bipush 7, 2) := by decide +kernel
theorem eMd_stop_98 : decode prog_14_method_101_code 98 = .ok (.iload_n 2, 1) := by decide +kernel
theorem eMd_stop_99 : decode prog_14_method_101_code 99 = .ok (.imul, 1) := by decide +kernel
theorem eMd_stop_100 : decode prog_14_method_101_code 100 = .ok (.iload_n 3, 1) := by decide +kernel
theorem eMd_stop_101 : decode prog_14_method_101_code 101 = .ok (.iadd, 1) := by decide +kernel
theorem eMd_stop_102 : decode prog_14_method_101_code 102 = .ok (.iaload, 1) := by decide +kernel
theorem eMd_stop_103 : decode prog_14_method_101_code 103 = .ok (.if_icmp .eq 9, 3) := by decide +kernel
theorem eMd_stop_106 : decode prog_14_method_101_code 106 = .ok (.iinc 5 1, 3) := by decide +kernel
theorem eMd_stop_109 : decode prog_14_method_101_code 109 = .ok (.goto (-57), 3) := by decide +kernel
theorem eMd_stop_112 : decode prog_14_method_101_code 112 = .ok (.iload_n 2, 1) := by decide +kernel
theorem eMd_stop_113 : decode prog_14_method_101_code 113 = .ok (.iconst 1, 1) := by decide +kernel
theorem eMd_stop_114 : decode prog_14_method_101_code 114 = .ok (.iload 5, 2) := by decide +kernel
theorem eMd_stop_116 : decode prog_14_method_101_code 116 = .ok (.ishl, 1) := by decide +kernel
theorem eMd_stop_117 : decode prog_14_method_101_code 117 = .ok (.ior, 1) := by decide +kernel
theorem eMd_stop_118 : decode prog_14_method_101_code 118 = .ok (.istore_n 2, 1) := by decide +kernel
theorem eMd_stop_119 : decode prog_14_method_101_code 119 = .ok (.iload 5, 2) := by decide +kernel
theorem eMd_stop_121 : decode prog_14_method_101_code 121 = .ok (.istore_n 3, 1) := by decide +kernel
theorem eMd_stop_122 : decode prog_14_method_101_code 122 = .ok (.iinc 4 1, 3) := by decide +kernel
theorem eMd_stop_125 : decode prog_14_method_101_code 125 = .ok (.goto (-82), 3) := by decide +kernel
theorem eMd_stop_128 : decode prog_14_method_101_code 128 = .ok (.iload_n 3, 1) := by decide +kernel
theorem eMd_stop_129 : decode prog_14_method_101_code 129 = .ok (.ireturn, 1) := by decide +kernel
theorem eMd_carries_0 : decode prog_14_method_102_code 0 = .ok (.aload_n 0, 1) := by decide +kernel
theorem eMd_carries_1 : decode prog_14_method_102_code 1 = .ok (.iconst 0, 1) := by decide +kernel
theorem eMd_carries_2 : decode prog_14_method_102_code 2 = .ok (.putfield 264, 3) := by decide +kernel
theorem eMd_carries_5 : decode prog_14_method_102_code 5 = .ok (.aload_n 0, 1) := by decide +kernel
theorem eMd_carries_6 : decode prog_14_method_102_code 6 = .ok (.invokevirtual 327, 3) := by decide +kernel
theorem eMd_carries_9 : decode prog_14_method_102_code 9 = .ok (.aload_n 0, 1) := by decide +kernel
theorem eMd_carries_10 : decode prog_14_method_102_code 10 = .ok (.getfield 66, 3) := by decide +kernel
theorem eMd_carries_13 : decode prog_14_method_102_code 13 = .ok (.iload_n 2, 1) := by decide +kernel
theorem eMd_carries_14 : decode prog_14_method_102_code 14 = .ok (.iaload, 1) := by decide +kernel
theorem eMd_carries_15 : decode prog_14_method_102_code 15 = .ok (.ifCond .eq 13, 3) := by decide +kernel
theorem eMd_carries_18 : decode prog_14_method_102_code 18 = .ok (.aload_n 0, 1) := by decide +kernel
theorem eMd_carries_19 : decode prog_14_method_102_code 19 = .ok (.getfield 69, 3) := by decide +kernel
theorem eMd_carries_22 : decode prog_14_method_102_code 22 = .ok (.iload_n 2, 1) := by decide +kernel
theorem eMd_carries_23 : decode prog_14_method_102_code 23 = .ok (.iaload, 1) := by decide +kernel
theorem eMd_carries_24 : decode prog_14_method_102_code 24 = .ok (.iconst 1, 1) := by decide +kernel
theorem eMd_carries_25 : decode prog_14_method_102_code 25 = .ok (.if_icmp .ge 6, 3) := by decide +kernel
theorem eMd_carries_28 : decode prog_14_method_102_code 28 = .ok (.bipush (-2), 2) := by decide +kernel
theorem eMd_carries_30 : decode prog_14_method_102_code 30 = .ok (.ireturn, 1) := by decide +kernel
theorem eMd_carries_31 : decode prog_14_method_102_code 31 = .ok (.aload_n 0, 1) := by decide +kernel
theorem eMd_carries_32 : decode prog_14_method_102_code 32 = .ok (.iload_n 2, 1) := by decide +kernel
theorem eMd_carries_33 : decode prog_14_method_102_code 33 = .ok (.aload_n 0, 1) := by decide +kernel
theorem eMd_carries_34 : decode prog_14_method_102_code 34 = .ok (.getfield 69, 3) := by decide +kernel
theorem eMd_carries_37 : decode prog_14_method_102_code 37 = .ok (.iload_n 2, 1) := by decide +kernel
theorem eMd_carries_38 : decode prog_14_method_102_code 38 = .ok (.iaload, 1) := by decide +kernel
theorem eMd_carries_39 : decode prog_14_method_102_code 39 = .ok (.invokevirtual 300, 3) := by decide +kernel
theorem eMd_carries_42 : decode prog_14_method_102_code 42 = .ok (.istore 4, 2) := by decide +kernel
theorem eMd_carries_44 : decode prog_14_method_102_code 44 = .ok (.aload_n 0, 1) := by decide +kernel
theorem eMd_carries_45 : decode prog_14_method_102_code 45 = .ok (.iload_n 1, 1) := by decide +kernel
theorem eMd_carries_46 : decode prog_14_method_102_code 46 = .ok (.iload 4, 2) := by decide +kernel
theorem eMd_carries_48 : decode prog_14_method_102_code 48 = .ok (.invokevirtual 401, 3) := by decide +kernel
theorem eMd_carries_51 : decode prog_14_method_102_code 51 = .ok (.istore 5, 2) := by decide +kernel
theorem eMd_carries_53 : decode prog_14_method_102_code 53 = .ok (.iload 5, 2) := by decide +kernel
theorem eMd_carries_55 : decode prog_14_method_102_code 55 = .ok (.bipush (-2), 2) := by decide +kernel
theorem eMd_carries_57 : decode prog_14_method_102_code 57 = .ok (.if_icmp .ne 6, 3) := by decide +kernel
theorem eMd_carries_60 : decode prog_14_method_102_code 60 = .ok (.bipush (-2), 2) := by decide +kernel
theorem eMd_carries_62 : decode prog_14_method_102_code 62 = .ok (.ireturn, 1) := by decide +kernel
theorem eMd_carries_63 : decode prog_14_method_102_code 63 = .ok (.aload_n 0, 1) := by decide +kernel
theorem eMd_carries_64 : decode prog_14_method_102_code 64 = .ok (.getfield 66, 3) := by decide +kernel
theorem eMd_carries_67 : decode prog_14_method_102_code 67 = .ok (.iload_n 2, 1) := by decide +kernel
theorem eMd_carries_68 : decode prog_14_method_102_code 68 = .ok (.dup2, 1) := by decide +kernel
theorem eMd_carries_69 : decode prog_14_method_102_code 69 = .ok (.iaload, 1) := by decide +kernel
theorem eMd_carries_70 : decode prog_14_method_102_code 70 = .ok (.iconst 1, 1) := by decide +kernel
theorem eMd_carries_71 : decode prog_14_method_102_code 71 = .ok (.isub, 1) := by decide +kernel
theorem eMd_carries_72 : decode prog_14_method_102_code 72 = .ok (.iastore, 1) := by decide +kernel
theorem eMd_carries_73 : decode prog_14_method_102_code 73 = .ok (.aload_n 0, 1) := by decide +kernel
theorem eMd_carries_74 : decode prog_14_method_102_code 74 = .ok (.iconst 1, 1) := by decide +kernel
theorem eMd_carries_75 : decode prog_14_method_102_code 75 = .ok (.putfield 264, 3) := by decide +kernel
theorem eMd_carries_78 : decode prog_14_method_102_code 78 = .ok (.aload_n 0, 1) := by decide +kernel
theorem eMd_carries_79 : decode prog_14_method_102_code 79 = .ok (.invokevirtual 327, 3) := by decide +kernel
theorem eMd_carries_82 : decode prog_14_method_102_code 82 = .ok (.aload_n 0, 1) := by decide +kernel
theorem eMd_carries_83 : decode prog_14_method_102_code 83 = .ok (.getfield 69, 3) := by decide +kernel
theorem eMd_carries_86 : decode prog_14_method_102_code 86 = .ok (.iload_n 3, 1) := by decide +kernel
theorem eMd_carries_87 : decode prog_14_method_102_code 87 = .ok (.iaload, 1) := by decide +kernel
theorem eMd_carries_88 : decode prog_14_method_102_code 88 = .ok (.iconst 2, 1) := by decide +kernel
theorem eMd_carries_89 : decode prog_14_method_102_code 89 = .ok (.if_icmp .ge 6, 3) := by decide +kernel
theorem eMd_carries_92 : decode prog_14_method_102_code 92 = .ok (.bipush (-2), 2) := by decide +kernel
theorem eMd_carries_94 : decode prog_14_method_102_code 94 = .ok (.ireturn, 1) := by decide +kernel
theorem eMd_carries_95 : decode prog_14_method_102_code 95 = .ok (.aload_n 0, 1) := by decide +kernel
theorem eMd_carries_96 : decode prog_14_method_102_code 96 = .ok (.aload_n 0, 1) := by decide +kernel
theorem eMd_carries_97 : decode prog_14_method_102_code 97 = .ok (.iload_n 3, 1) := by decide +kernel
theorem eMd_carries_98 : decode prog_14_method_102_code 98 = .ok (.aload_n 0, 1) := by decide +kernel
theorem eMd_carries_99 : decode prog_14_method_102_code 99 = .ok (.getfield 69, 3) := by decide +kernel
theorem eMd_carries_102 : decode prog_14_method_102_code 102 = .ok (.iload_n 3, 1) := by decide +kernel
theorem eMd_carries_103 : decode prog_14_method_102_code 103 = .ok (.iaload, 1) := by decide +kernel
theorem eMd_carries_104 : decode prog_14_method_102_code 104 = .ok (.iconst 1, 1) := by decide +kernel
theorem eMd_carries_105 : decode prog_14_method_102_code 105 = .ok (.isub, 1) := by decide +kernel
theorem eMd_carries_106 : decode prog_14_method_102_code 106 = .ok (.invokevirtual 300, 3) := by decide +kernel
theorem eMd_carries_109 : decode prog_14_method_102_code 109 = .ok (.putfield 404, 3) := by decide +kernel
theorem eMd_carries_112 : decode prog_14_method_102_code 112 = .ok (.aload_n 0, 1) := by decide +kernel
theorem eMd_carries_113 : decode prog_14_method_102_code 113 = .ok (.iload 4, 2) := by decide +kernel
theorem eMd_carries_115 : decode prog_14_method_102_code 115 = .ok (.aload_n 0, 1) := by decide +kernel
theorem eMd_carries_116 : decode prog_14_method_102_code 116 = .ok (.getfield 404, 3) := by decide +kernel
theorem eMd_carries_119 : decode prog_14_method_102_code 119 = .ok (.invokevirtual 401, 3) := by decide +kernel
theorem eMd_carries_122 : decode prog_14_method_102_code 122 = .ok (.istore 6, 2) := by decide +kernel
theorem eMd_carries_124 : decode prog_14_method_102_code 124 = .ok (.iload 6, 2) := by decide +kernel
theorem eMd_carries_126 : decode prog_14_method_102_code 126 = .ok (.bipush (-2), 2) := by decide +kernel
theorem eMd_carries_128 : decode prog_14_method_102_code 128 = .ok (.if_icmp .ne 6, 3) := by decide +kernel
theorem eMd_carries_131 : decode prog_14_method_102_code 131 = .ok (.bipush (-2), 2) := by decide +kernel
theorem eMd_carries_133 : decode prog_14_method_102_code 133 = .ok (.ireturn, 1) := by decide +kernel
theorem eMd_carries_134 : decode prog_14_method_102_code 134 = .ok (.aload_n 0, 1) := by decide +kernel
theorem eMd_carries_135 : decode prog_14_method_102_code 135 = .ok (.getfield 66, 3) := by decide +kernel
theorem eMd_carries_138 : decode prog_14_method_102_code 138 = .ok (.iload_n 3, 1) := by decide +kernel
theorem eMd_carries_139 : decode prog_14_method_102_code 139 = .ok (.dup2, 1) := by decide +kernel
theorem eMd_carries_140 : decode prog_14_method_102_code 140 = .ok (.iaload, 1) := by decide +kernel
theorem eMd_carries_141 : decode prog_14_method_102_code 141 = .ok (.iconst 1, 1) := by decide +kernel
theorem eMd_carries_142 : decode prog_14_method_102_code 142 = .ok (.iadd, 1) := by decide +kernel
theorem eMd_carries_143 : decode prog_14_method_102_code 143 = .ok (.iastore, 1) := by decide +kernel
theorem eMd_carries_144 : decode prog_14_method_102_code 144 = .ok (.aload_n 0, 1) := by decide +kernel
theorem eMd_carries_145 : decode prog_14_method_102_code 145 = .ok (.iconst 0, 1) := by decide +kernel
theorem eMd_carries_146 : decode prog_14_method_102_code 146 = .ok (.putfield 264, 3) := by decide +kernel
theorem eMd_carries_149 : decode prog_14_method_102_code 149 = .ok (.aload_n 0, 1) := by decide +kernel
theorem eMd_carries_150 : decode prog_14_method_102_code 150 = .ok (.invokevirtual 327, 3) := by decide +kernel
theorem eMd_carries_153 : decode prog_14_method_102_code 153 = .ok (.iload 5, 2) := by decide +kernel
theorem eMd_carries_155 : decode prog_14_method_102_code 155 = .ok (.iload 6, 2) := by decide +kernel
theorem eMd_carries_157 : decode prog_14_method_102_code 157 = .ok (.iadd, 1) := by decide +kernel
theorem eMd_carries_158 : decode prog_14_method_102_code 158 = .ok (.ireturn, 1) := by decide +kernel
theorem eMd_fewestStanding_0 : decode prog_14_method_103_code 0 = .ok (.aload_n 0, 1) := by decide +kernel
theorem eMd_fewestStanding_1 : decode prog_14_method_103_code 1 = .ok (.iload_n 1, 1) := by decide +kernel
theorem eMd_fewestStanding_2 : decode prog_14_method_103_code 2 = .ok (.invokevirtual 303, 3) := by decide +kernel
theorem eMd_fewestStanding_5 : decode prog_14_method_103_code 5 = .ok (.ifCond .eq 20, 3) := by decide +kernel
theorem eMd_fewestStanding_8 : decode prog_14_method_103_code 8 = .ok (.aload_n 0, 1) := by decide +kernel
theorem eMd_fewestStanding_9 : decode prog_14_method_103_code 9 = .ok (.iload_n 2, 1) := by decide +kernel
theorem eMd_fewestStanding_10 : decode prog_14_method_103_code 10 = .ok (.invokevirtual 303, 3) := by decide +kernel
theorem eMd_fewestStanding_13 : decode prog_14_method_103_code 13 = .ok (.ifCond .eq 12, 3) := by decide +kernel
theorem eMd_fewestStanding_16 : decode prog_14_method_103_code 16 = .ok (.aload_n 0, 1) := by decide +kernel
theorem eMd_fewestStanding_17 : decode prog_14_method_103_code 17 = .ok (.iload_n 1, 1) := by decide +kernel
theorem eMd_fewestStanding_18 : decode prog_14_method_103_code 18 = .ok (.iload_n 2, 1) := by decide +kernel
theorem eMd_fewestStanding_19 : decode prog_14_method_103_code 19 = .ok (.invokevirtual 392, 3) := by decide +kernel
theorem eMd_fewestStanding_22 : decode prog_14_method_103_code 22 = .ok (.goto 5, 3) := by decide +kernel
theorem eMd_fewestStanding_25 : decode prog_14_method_103_code 25 = .ok (.bipush (-2), 2) := by decide +kernel
theorem eMd_fewestStanding_27 : decode prog_14_method_103_code 27 = .ok (.ireturn, 1) := by decide +kernel
theorem eMd_carry_0 : decode prog_14_method_104_code 0 = .ok (.aload_n 0, 1) := by decide +kernel
theorem eMd_carry_1 : decode prog_14_method_104_code 1 = .ok (.iconst 0, 1) := by decide +kernel
theorem eMd_carry_2 : decode prog_14_method_104_code 2 = .ok (.putfield 107, 3) := by decide +kernel
theorem eMd_carry_5 : decode prog_14_method_104_code 5 = .ok (.aload_n 0, 1) := by decide +kernel
theorem eMd_carry_6 : decode prog_14_method_104_code 6 = .ok (.iload_n 1, 1) := by decide +kernel
theorem eMd_carry_7 : decode prog_14_method_104_code 7 = .ok (.invokevirtual 267, 3) := by decide +kernel
theorem eMd_carry_10 : decode prog_14_method_104_code 10 = .ok (.ifCond .eq 16, 3) := by decide +kernel
theorem eMd_carry_13 : decode prog_14_method_104_code 13 = .ok (.aload_n 0, 1) := by decide +kernel
theorem eMd_carry_14 : decode prog_14_method_104_code 14 = .ok (.iload_n 2, 1) := by decide +kernel
theorem eMd_carry_15 : decode prog_14_method_104_code 15 = .ok (.invokevirtual 267, 3) := by decide +kernel
theorem eMd_carry_18 : decode prog_14_method_104_code 18 = .ok (.ifCond .eq 8, 3) := by decide +kernel
theorem eMd_carry_21 : decode prog_14_method_104_code 21 = .ok (.iload_n 1, 1) := by decide +kernel
theorem eMd_carry_22 : decode prog_14_method_104_code 22 = .ok (.iload_n 2, 1) := by decide +kernel
theorem eMd_carry_23 : decode prog_14_method_104_code 23 = .ok (.if_icmp .ne 5, 3) := by decide +kernel
theorem eMd_carry_26 : decode prog_14_method_104_code 26 = .ok (.iconst (-1), 1) := by decide +kernel
theorem eMd_carry_27 : decode prog_14_method_104_code 27 = .ok (.ireturn, 1) := by decide +kernel
theorem eMd_carry_28 : decode prog_14_method_104_code 28 = .ok (.aload_n 0, 1) := by decide +kernel
theorem eMd_carry_29 : decode prog_14_method_104_code 29 = .ok (.getfield 264, 3) := by decide +kernel
theorem eMd_carry_32 : decode prog_14_method_104_code 32 = .ok (.ifCond .eq 6, 3) := by decide +kernel
theorem eMd_carry_35 : decode prog_14_method_104_code 35 = .ok (.bipush (-3), 2) := by decide +kernel
theorem eMd_carry_37 : decode prog_14_method_104_code 37 = .ok (.ireturn, 1) := by decide +kernel
theorem eMd_carry_38 : decode prog_14_method_104_code 38 = .ok (.aload_n 0, 1) := by decide +kernel
theorem eMd_carry_39 : decode prog_14_method_104_code 39 = .ok (.aload_n 0, 1) := by decide +kernel
theorem eMd_carry_40 : decode prog_14_method_104_code 40 = .ok (.getfield 83, 3) := by decide +kernel
theorem eMd_carry_43 : decode prog_14_method_104_code 43 = .ok (.iconst 0, 1) := by decide +kernel
theorem eMd_carry_44 : decode prog_14_method_104_code 44 = .ok (.iaload, 1) := by decide +kernel
theorem eMd_carry_45 : decode prog_14_method_104_code 45 = .ok (.iload_n 1, 1) := by decide +kernel
theorem eMd_carry_46 : decode prog_14_method_104_code 46 = .ok (.iload_n 2, 1) := by decide +kernel
theorem eMd_carry_47 : decode prog_14_method_104_code 47 = .ok (.invokevirtual 407, 3) := by decide +kernel
theorem eMd_carry_50 : decode prog_14_method_104_code 50 = .ok (.istore_n 3, 1) := by decide +kernel
theorem eMd_carry_51 : decode prog_14_method_104_code 51 = .ok (.aload_n 0, 1) := by decide +kernel
theorem eMd_carry_52 : decode prog_14_method_104_code 52 = .ok (.invokevirtual 324, 3) := by decide +kernel
theorem eMd_carry_55 : decode prog_14_method_104_code 55 = .ok (.iload_n 3, 1) := by decide +kernel
theorem eMd_carry_56 : decode prog_14_method_104_code 56 = .ok (.ireturn, 1) := by decide +kernel
theorem eMd_inOrder_0 : decode prog_14_method_105_code 0 = .ok (.iload_n 0, 1) := by decide +kernel
theorem eMd_inOrder_1 : decode prog_14_method_105_code 1 = .ok (.iconst 2, 1) := by decide +kernel
theorem eMd_inOrder_2 : decode prog_14_method_105_code 2 = .ok (.iconst 2, 1) := by decide +kernel
theorem eMd_inOrder_3 : decode prog_14_method_105_code 3 = .ok (.iload_n 1, 1) := by decide +kernel
theorem eMd_inOrder_4 : decode prog_14_method_105_code 4 = .ok (.isub, 1) := by decide +kernel
theorem eMd_inOrder_5 : decode prog_14_method_105_code 5 = .ok (.imul, 1) := by decide +kernel
theorem eMd_inOrder_6 : decode prog_14_method_105_code 6 = .ok (.ishr, 1) := by decide +kernel
theorem eMd_inOrder_7 : decode prog_14_method_105_code 7 = .ok (.iconst 3, 1) := by decide +kernel
theorem eMd_inOrder_8 : decode prog_14_method_105_code 8 = .ok (.iand, 1) := by decide +kernel
theorem eMd_inOrder_9 : decode prog_14_method_105_code 9 = .ok (.ireturn, 1) := by decide +kernel
theorem eMd_isOrder_0 : decode prog_14_method_106_code 0 = .ok (.iconst 0, 1) := by decide +kernel
theorem eMd_isOrder_1 : decode prog_14_method_106_code 1 = .ok (.istore_n 2, 1) := by decide +kernel
theorem eMd_isOrder_2 : decode prog_14_method_106_code 2 = .ok (.iconst 0, 1) := by decide +kernel
theorem eMd_isOrder_3 : decode prog_14_method_106_code 3 = .ok (.istore_n 3, 1) := by decide +kernel
theorem eMd_isOrder_4 : decode prog_14_method_106_code 4 = .ok (.iload_n 3, 1) := by decide +kernel
theorem eMd_isOrder_5 : decode prog_14_method_106_code 5 = .ok (.iconst 3, 1) := by decide +kernel
theorem eMd_isOrder_6 : decode prog_14_method_106_code 6 = .ok (.if_icmp .ge 89, 3) := by decide +kernel
theorem eMd_isOrder_9 : decode prog_14_method_106_code 9 = .ok (.iload_n 1, 1) := by decide +kernel
theorem eMd_isOrder_10 : decode prog_14_method_106_code 10 = .ok (.iload_n 3, 1) := by decide +kernel
theorem eMd_isOrder_11 : decode prog_14_method_106_code 11 = .ok (.invokestatic 410, 3) := by decide +kernel
theorem eMd_isOrder_14 : decode prog_14_method_106_code 14 = .ok (.istore 4, 2) := by decide +kernel
theorem eMd_isOrder_16 : decode prog_14_method_106_code 16 = .ok (.iload_n 3, 1) := by decide +kernel
theorem eMd_isOrder_17 : decode prog_14_method_106_code 17 = .ok (.aload_n 0, 1) := by decide +kernel
theorem eMd_isOrder_18 : decode prog_14_method_106_code 18 = .ok (.getfield 13, 3) := by decide +kernel
theorem eMd_isOrder_21 : decode prog_14_method_106_code 21 = .ok (.bipush 11, 2) := by decide +kernel
theorem eMd_isOrder_23 : decode prog_14_method_106_code 23 = .ok (.iaload, 1) := by decide +kernel
theorem eMd_isOrder_24 : decode prog_14_method_106_code 24 = .ok (.if_icmp .ge 7, 3) := by decide +kernel
theorem eMd_isOrder_27 : decode prog_14_method_106_code 27 = .ok (.iconst 1, 1) := by decide +kernel
theorem eMd_isOrder_28 : decode prog_14_method_106_code 28 = .ok (.goto 4, 3) := by decide +kernel
theorem eMd_isOrder_31 : decode prog_14_method_106_code 31 = .ok (.iconst 0, 1) := by decide +kernel
theorem eMd_isOrder_32 : decode prog_14_method_106_code 32 = .ok (.istore 5, 2) := by decide +kernel
theorem eMd_isOrder_34 : decode prog_14_method_106_code 34 = .ok (.iload 5, 2) := by decide +kernel
theorem eMd_isOrder_36 : decode prog_14_method_106_code 36 = .ok (.ifCond .eq 25, 3) := by decide +kernel
theorem eMd_isOrder_39 : decode prog_14_method_106_code 39 = .ok (.iload 4, 2) := by decide +kernel
theorem eMd_isOrder_41 : decode prog_14_method_106_code 41 = .ok (.aload_n 0, 1) := by decide +kernel
theorem eMd_isOrder_42 : decode prog_14_method_106_code 42 = .ok (.getfield 13, 3) := by decide +kernel
theorem eMd_isOrder_45 : decode prog_14_method_106_code 45 = .ok (.bipush 11, 2) := by decide +kernel
theorem eMd_isOrder_47 : decode prog_14_method_106_code 47 = .ok (.iaload, 1) := by decide +kernel
theorem eMd_isOrder_48 : decode prog_14_method_106_code 48 = .ok (.if_icmp .ge 23, 3) := by decide +kernel
theorem eMd_isOrder_51 : decode prog_14_method_106_code 51 = .ok (.iload_n 2, 1) := by decide +kernel
theorem eMd_isOrder_52 : decode prog_14_method_106_code 52 = .ok (.iload 4, 2) := by decide +kernel
theorem eMd_isOrder_54 : decode prog_14_method_106_code 54 = .ok (.ishr, 1) := by decide +kernel
theorem eMd_isOrder_55 : decode prog_14_method_106_code 55 = .ok (.iconst 1, 1) := by decide +kernel
theorem eMd_isOrder_56 : decode prog_14_method_106_code 56 = .ok (.iand, 1) := by decide +kernel
theorem eMd_isOrder_57 : decode prog_14_method_106_code 57 = .ok (.iconst 1, 1) := by decide +kernel
theorem eMd_isOrder_58 : decode prog_14_method_106_code 58 = .ok (.if_icmp .eq 13, 3) := by decide +kernel
theorem eMd_isOrder_61 : decode prog_14_method_106_code 61 = .ok (.iload 5, 2) := by decide +kernel
theorem eMd_isOrder_63 : decode prog_14_method_106_code 63 = .ok (.ifCond .ne 10, 3) := by decide +kernel
theorem eMd_isOrder_66 : decode prog_14_method_106_code 66 = .ok (.iload 4, 2) := by decide +kernel
theorem eMd_isOrder_68 : decode prog_14_method_106_code 68 = .ok (.ifCond .le 5, 3) := by decide +kernel
theorem eMd_isOrder_71 : decode prog_14_method_106_code 71 = .ok (.iconst 0, 1) := by decide +kernel
theorem eMd_isOrder_72 : decode prog_14_method_106_code 72 = .ok (.ireturn, 1) := by decide +kernel
theorem eMd_isOrder_73 : decode prog_14_method_106_code 73 = .ok (.iload_n 2, 1) := by decide +kernel
theorem eMd_isOrder_74 : decode prog_14_method_106_code 74 = .ok (.iload 5, 2) := by decide +kernel
theorem eMd_isOrder_76 : decode prog_14_method_106_code 76 = .ok (.ifCond .eq 10, 3) := by decide +kernel
theorem eMd_isOrder_79 : decode prog_14_method_106_code 79 = .ok (.iconst 1, 1) := by decide +kernel
theorem eMd_isOrder_80 : decode prog_14_method_106_code 80 = .ok (.iload 4, 2) := by decide +kernel
theorem eMd_isOrder_82 : decode prog_14_method_106_code 82 = .ok (.ishl, 1) := by decide +kernel
theorem eMd_isOrder_83 : decode prog_14_method_106_code 83 = .ok (.goto 4, 3) := by decide +kernel
theorem eMd_isOrder_86 : decode prog_14_method_106_code 86 = .ok (.iconst 0, 1) := by decide +kernel
theorem eMd_isOrder_87 : decode prog_14_method_106_code 87 = .ok (.ior, 1) := by decide +kernel
theorem eMd_isOrder_88 : decode prog_14_method_106_code 88 = .ok (.istore_n 2, 1) := by decide +kernel
theorem eMd_isOrder_89 : decode prog_14_method_106_code 89 = .ok (.iinc 3 1, 3) := by decide +kernel
theorem eMd_isOrder_92 : decode prog_14_method_106_code 92 = .ok (.goto (-88), 3) := by decide +kernel
theorem eMd_isOrder_95 : decode prog_14_method_106_code 95 = .ok (.iconst 1, 1) := by decide +kernel
theorem eMd_isOrder_96 : decode prog_14_method_106_code 96 = .ok (.ireturn, 1) := by decide +kernel
theorem eMd_stepsBy_0 : decode prog_14_method_107_code 0 = .ok (.iconst 0, 1) := by decide +kernel
theorem eMd_stepsBy_1 : decode prog_14_method_107_code 1 = .ok (.istore_n 2, 1) := by decide +kernel
theorem eMd_stepsBy_2 : decode prog_14_method_107_code 2 = .ok (.aload_n 0, 1) := by decide +kernel
theorem eMd_stepsBy_3 : decode prog_14_method_107_code 3 = .ok (.getfield 83, 3) := by decide +kernel
theorem eMd_stepsBy_6 : decode prog_14_method_107_code 6 = .ok (.iconst 0, 1) := by decide +kernel
theorem eMd_stepsBy_7 : decode prog_14_method_107_code 7 = .ok (.iaload, 1) := by decide +kernel
theorem eMd_stepsBy_8 : decode prog_14_method_107_code 8 = .ok (.istore_n 3, 1) := by decide +kernel
theorem eMd_stepsBy_9 : decode prog_14_method_107_code 9 = .ok (.aload_n 0, 1) := by decide +kernel
theorem eMd_stepsBy_10 : decode prog_14_method_107_code 10 = .ok (.invokevirtual 324, 3) := by decide +kernel
theorem eMd_stepsBy_13 : decode prog_14_method_107_code 13 = .ok (.iconst 0, 1) := by decide +kernel
theorem eMd_stepsBy_14 : decode prog_14_method_107_code 14 = .ok (.istore 4, 2) := by decide +kernel
theorem eMd_stepsBy_16 : decode prog_14_method_107_code 16 = .ok (.iload 4, 2) := by decide +kernel
theorem eMd_stepsBy_18 : decode prog_14_method_107_code 18 = .ok (.aload_n 0, 1) := by decide +kernel
theorem eMd_stepsBy_19 : decode prog_14_method_107_code 19 = .ok (.getfield 13, 3) := by decide +kernel
theorem eMd_stepsBy_22 : decode prog_14_method_107_code 22 = .ok (.bipush 11, 2) := by decide +kernel
theorem eMd_stepsBy_24 : decode prog_14_method_107_code 24 = .ok (.iaload, 1) := by decide +kernel
theorem eMd_stepsBy_25 : decode prog_14_method_107_code 25 = .ok (.if_icmp .ge 78, 3) := by decide +kernel
theorem eMd_stepsBy_28 : decode prog_14_method_107_code 28 = .ok (.iload_n 1, 1) := by decide +kernel
theorem eMd_stepsBy_29 : decode prog_14_method_107_code 29 = .ok (.iload 4, 2) := by decide +kernel
theorem eMd_stepsBy_31 : decode prog_14_method_107_code 31 = .ok (.invokestatic 410, 3) := by decide +kernel
theorem eMd_stepsBy_34 : decode prog_14_method_107_code 34 = .ok (.istore 5, 2) := by decide +kernel
theorem eMd_stepsBy_36 : decode prog_14_method_107_code 36 = .ok (.aload_n 0, 1) := by decide +kernel
theorem eMd_stepsBy_37 : decode prog_14_method_107_code 37 = .ok (.iload_n 3, 1) := by decide +kernel
theorem eMd_stepsBy_38 : decode prog_14_method_107_code 38 = .ok (.aload_n 0, 1) := by decide +kernel
theorem eMd_stepsBy_39 : decode prog_14_method_107_code 39 = .ok (.getfield 50, 3) := by decide +kernel
theorem eMd_stepsBy_42 : decode prog_14_method_107_code 42 = .ok (.iload 5, 2) := by decide +kernel
theorem eMd_stepsBy_44 : decode prog_14_method_107_code 44 = .ok (.iaload, 1) := by decide +kernel
theorem eMd_stepsBy_45 : decode prog_14_method_107_code 45 = .ok (.aload_n 0, 1) := by decide +kernel
theorem eMd_stepsBy_46 : decode prog_14_method_107_code 46 = .ok (.getfield 53, 3) := by decide +kernel
theorem eMd_stepsBy_49 : decode prog_14_method_107_code 49 = .ok (.iload 5, 2) := by decide +kernel
theorem eMd_stepsBy_51 : decode prog_14_method_107_code 51 = .ok (.iaload, 1) := by decide +kernel
theorem eMd_stepsBy_52 : decode prog_14_method_107_code 52 = .ok (.invokevirtual 407, 3) := by decide +kernel
theorem eMd_stepsBy_55 : decode prog_14_method_107_code 55 = .ok (.istore 6, 2) := by decide +kernel
theorem eMd_stepsBy_57 : decode prog_14_method_107_code 57 = .ok (.iload 6, 2) := by decide +kernel
theorem eMd_stepsBy_59 : decode prog_14_method_107_code 59 = .ok (.bipush (-2), 2) := by decide +kernel
theorem eMd_stepsBy_61 : decode prog_14_method_107_code 61 = .ok (.if_icmp .ne 6, 3) := by decide +kernel
theorem eMd_stepsBy_64 : decode prog_14_method_107_code 64 = .ok (.bipush (-2), 2) := by decide +kernel
theorem eMd_stepsBy_66 : decode prog_14_method_107_code 66 = .ok (.ireturn, 1) := by decide +kernel
theorem eMd_stepsBy_67 : decode prog_14_method_107_code 67 = .ok (.iload_n 2, 1) := by decide +kernel
theorem eMd_stepsBy_68 : decode prog_14_method_107_code 68 = .ok (.iload 6, 2) := by decide +kernel
theorem eMd_stepsBy_70 : decode prog_14_method_107_code 70 = .ok (.iadd, 1) := by decide +kernel
theorem eMd_stepsBy_71 : decode prog_14_method_107_code 71 = .ok (.istore_n 2, 1) := by decide +kernel
theorem eMd_stepsBy_72 : decode prog_14_method_107_code 72 = .ok (.aload_n 0, 1) := by decide +kernel
theorem eMd_stepsBy_73 : decode prog_14_method_107_code 73 = .ok (.getfield 404, 3) := by decide +kernel
theorem eMd_stepsBy_76 : decode prog_14_method_107_code 76 = .ok (.istore_n 3, 1) := by decide +kernel
theorem eMd_stepsBy_77 : decode prog_14_method_107_code 77 = .ok (.aload_n 0, 1) := by decide +kernel
theorem eMd_stepsBy_78 : decode prog_14_method_107_code 78 = .ok (.getfield 413, 3) := by decide +kernel
theorem eMd_stepsBy_81 : decode prog_14_method_107_code 81 = .ok (.bipush (-2), 2) := by decide +kernel
theorem eMd_stepsBy_83 : decode prog_14_method_107_code 83 = .ok (.if_icmp .eq 14, 3) := by decide +kernel
theorem eMd_stepsBy_86 : decode prog_14_method_107_code 86 = .ok (.iload_n 2, 1) := by decide +kernel
theorem eMd_stepsBy_87 : decode prog_14_method_107_code 87 = .ok (.aload_n 0, 1) := by decide +kernel
theorem eMd_stepsBy_88 : decode prog_14_method_107_code 88 = .ok (.getfield 413, 3) := by decide +kernel
theorem eMd_stepsBy_91 : decode prog_14_method_107_code 91 = .ok (.if_icmp .le 6, 3) := by decide +kernel
theorem eMd_stepsBy_94 : decode prog_14_method_107_code 94 = .ok (.bipush (-2), 2) := by decide +kernel
theorem eMd_stepsBy_96 : decode prog_14_method_107_code 96 = .ok (.ireturn, 1) := by decide +kernel
theorem eMd_stepsBy_97 : decode prog_14_method_107_code 97 = .ok (.iinc 4 1, 3) := by decide +kernel
theorem eMd_stepsBy_100 : decode prog_14_method_107_code 100 = .ok (.goto (-84), 3) := by decide +kernel
theorem eMd_stepsBy_103 : decode prog_14_method_107_code 103 = .ok (.iload_n 2, 1) := by decide +kernel
theorem eMd_stepsBy_104 : decode prog_14_method_107_code 104 = .ok (.ireturn, 1) := by decide +kernel
theorem eMd_laysJobs_0 : decode prog_14_method_108_code 0 = .ok (.aload_n 0, 1) := by decide +kernel
theorem eMd_laysJobs_1 : decode prog_14_method_108_code 1 = .ok (.bipush (-2), 2) := by decide +kernel
theorem eMd_laysJobs_3 : decode prog_14_method_108_code 3 = .ok (.putfield 413, 3) := by decide +kernel
theorem eMd_laysJobs_6 : decode prog_14_method_108_code 6 = .ok (.iconst 0, 1) := by decide +kernel
theorem eMd_laysJobs_7 : decode prog_14_method_108_code 7 = .ok (.istore_n 1, 1) := by decide +kernel
theorem eMd_laysJobs_8 : decode prog_14_method_108_code 8 = .ok (.iload_n 1, 1) := by decide +kernel
theorem eMd_laysJobs_9 : decode prog_14_method_108_code 9 = .ok (.bipush 64, 2) := by decide +kernel
theorem eMd_laysJobs_11 : decode prog_14_method_108_code 11 = .ok (.if_icmp .ge 81, 3) := by decide +kernel
theorem eMd_laysJobs_14 : decode prog_14_method_108_code 14 = .ok (.aload_n 0, 1) := by decide +kernel
theorem eMd_laysJobs_15 : decode prog_14_method_108_code 15 = .ok (.iload_n 1, 1) := by decide +kernel
theorem eMd_laysJobs_16 : decode prog_14_method_108_code 16 = .ok (.invokevirtual 416, 3) := by decide +kernel
theorem eMd_laysJobs_19 : decode prog_14_method_108_code 19 = .ok (.ifCond .ne 6, 3) := by decide +kernel
theorem eMd_laysJobs_22 : decode prog_14_method_108_code 22 = .ok (.goto 64, 3) := by decide +kernel
theorem eMd_laysJobs_25 : decode prog_14_method_108_code 25 = .ok (.aload_n 0, 1) := by decide +kernel
theorem eMd_laysJobs_26 : decode prog_14_method_108_code 26 = .ok (.iload_n 1, 1) := by decide +kernel
theorem eMd_laysJobs_27 : decode prog_14_method_108_code 27 = .ok (.invokevirtual 419, 3) := by decide +kernel
theorem eMd_laysJobs_30 : decode prog_14_method_108_code 30 = .ok (.istore_n 2, 1) := by decide +kernel
theorem eMd_laysJobs_31 : decode prog_14_method_108_code 31 = .ok (.iload_n 2, 1) := by decide +kernel
theorem eMd_laysJobs_32 : decode prog_14_method_108_code 32 = .ok (.bipush (-2), 2) := by decide +kernel
theorem eMd_laysJobs_34 : decode prog_14_method_108_code 34 = .ok (.if_icmp .eq 52, 3) := by decide +kernel
theorem eMd_laysJobs_37 : decode prog_14_method_108_code 37 = .ok (.aload_n 0, 1) := by decide +kernel
theorem eMd_laysJobs_38 : decode prog_14_method_108_code 38 = .ok (.getfield 413, 3) := by decide +kernel
theorem eMd_laysJobs_41 : decode prog_14_method_108_code 41 = .ok (.bipush (-2), 2) := by decide +kernel
theorem eMd_laysJobs_43 : decode prog_14_method_108_code 43 = .ok (.if_icmp .eq 14, 3) := by decide +kernel
theorem eMd_laysJobs_46 : decode prog_14_method_108_code 46 = .ok (.iload_n 2, 1) := by decide +kernel
theorem eMd_laysJobs_47 : decode prog_14_method_108_code 47 = .ok (.aload_n 0, 1) := by decide +kernel
theorem eMd_laysJobs_48 : decode prog_14_method_108_code 48 = .ok (.getfield 413, 3) := by decide +kernel
theorem eMd_laysJobs_51 : decode prog_14_method_108_code 51 = .ok (.if_icmp .lt 6, 3) := by decide +kernel
theorem eMd_laysJobs_54 : decode prog_14_method_108_code 54 = .ok (.goto 32, 3) := by decide +kernel
theorem eMd_laysJobs_57 : decode prog_14_method_108_code 57 = .ok (.aload_n 0, 1) := by decide +kernel
theorem eMd_laysJobs_58 : decode prog_14_method_108_code 58 = .ok (.iload_n 2, 1) := by decide +kernel
theorem eMd_laysJobs_59 : decode prog_14_method_108_code 59 = .ok (.putfield 413, 3) := by decide +kernel
theorem eMd_laysJobs_62 : decode prog_14_method_108_code 62 = .ok (.iconst 0, 1) := by decide +kernel
theorem eMd_laysJobs_63 : decode prog_14_method_108_code 63 = .ok (.istore_n 3, 1) := by decide +kernel
theorem eMd_laysJobs_64 : decode prog_14_method_108_code 64 = .ok (.iload_n 3, 1) := by decide +kernel
theorem eMd_laysJobs_65 : decode prog_14_method_108_code 65 = .ok (.iconst 3, 1) := by decide +kernel
theorem eMd_laysJobs_66 : decode prog_14_method_108_code 66 = .ok (.if_icmp .ge 20, 3) := by decide +kernel
theorem eMd_laysJobs_69 : decode prog_14_method_108_code 69 = .ok (.aload_n 0, 1) := by decide +kernel
theorem eMd_laysJobs_70 : decode prog_14_method_108_code 70 = .ok (.getfield 95, 3) := by decide +kernel
theorem eMd_laysJobs_73 : decode prog_14_method_108_code 73 = .ok (.iload_n 3, 1) := by decide +kernel
theorem eMd_laysJobs_74 : decode prog_14_method_108_code 74 = .ok (.iload_n 1, 1) := by decide +kernel
theorem eMd_laysJobs_75 : decode prog_14_method_108_code 75 = .ok (.iload_n 3, 1) := by decide +kernel
theorem eMd_laysJobs_76 : decode prog_14_method_108_code 76 = .ok (.invokestatic 410, 3) := by decide +kernel
theorem eMd_laysJobs_79 : decode prog_14_method_108_code 79 = .ok (.iastore, 1) := by decide +kernel
theorem eMd_laysJobs_80 : decode prog_14_method_108_code 80 = .ok (.iinc 3 1, 3) := by decide +kernel
theorem eMd_laysJobs_83 : decode prog_14_method_108_code 83 = .ok (.goto (-19), 3) := by decide +kernel
theorem eMd_laysJobs_86 : decode prog_14_method_108_code 86 = .ok (.iinc 1 1, 3) := by decide +kernel
theorem eMd_laysJobs_89 : decode prog_14_method_108_code 89 = .ok (.goto (-81), 3) := by decide +kernel
theorem eMd_laysJobs_92 : decode prog_14_method_108_code 92 = .ok (.aload_n 0, 1) := by decide +kernel
theorem eMd_laysJobs_93 : decode prog_14_method_108_code 93 = .ok (.invokevirtual 324, 3) := by decide +kernel
theorem eMd_laysJobs_96 : decode prog_14_method_108_code 96 = .ok (.return_, 1) := by decide +kernel
theorem eMd_jobs_0 : decode prog_14_method_109_code 0 = .ok (.aload_n 0, 1) := by decide +kernel
theorem eMd_jobs_1 : decode prog_14_method_109_code 1 = .ok (.iconst 0, 1) := by decide +kernel
theorem eMd_jobs_2 : decode prog_14_method_109_code 2 = .ok (.putfield 107, 3) := by decide +kernel
theorem eMd_jobs_5 : decode prog_14_method_109_code 5 = .ok (.aload_n 0, 1) := by decide +kernel
theorem eMd_jobs_6 : decode prog_14_method_109_code 6 = .ok (.getfield 264, 3) := by decide +kernel
theorem eMd_jobs_9 : decode prog_14_method_109_code 9 = .ok (.ifCond .eq 6, 3) := by decide +kernel
theorem eMd_jobs_12 : decode prog_14_method_109_code 12 = .ok (.bipush (-3), 2) := by decide +kernel
theorem eMd_jobs_14 : decode prog_14_method_109_code 14 = .ok (.ireturn, 1) := by decide +kernel
theorem eMd_jobs_15 : decode prog_14_method_109_code 15 = .ok (.aload_n 0, 1) := by decide +kernel
theorem eMd_jobs_16 : decode prog_14_method_109_code 16 = .ok (.getfield 13, 3) := by decide +kernel
theorem eMd_jobs_19 : decode prog_14_method_109_code 19 = .ok (.bipush 11, 2) := by decide +kernel
theorem eMd_jobs_21 : decode prog_14_method_109_code 21 = .ok (.iaload, 1) := by decide +kernel
theorem eMd_jobs_22 : decode prog_14_method_109_code 22 = .ok (.ifCond .ne 5, 3) := by decide +kernel
theorem eMd_jobs_25 : decode prog_14_method_109_code 25 = .ok (.iconst 0, 1) := by decide +kernel
theorem eMd_jobs_26 : decode prog_14_method_109_code 26 = .ok (.ireturn, 1) := by decide +kernel
theorem eMd_jobs_27 : decode prog_14_method_109_code 27 = .ok (.aload_n 0, 1) := by decide +kernel
theorem eMd_jobs_28 : decode prog_14_method_109_code 28 = .ok (.invokevirtual 422, 3) := by decide +kernel
theorem eMd_jobs_31 : decode prog_14_method_109_code 31 = .ok (.aload_n 0, 1) := by decide +kernel
theorem eMd_jobs_32 : decode prog_14_method_109_code 32 = .ok (.getfield 413, 3) := by decide +kernel
theorem eMd_jobs_35 : decode prog_14_method_109_code 35 = .ok (.ireturn, 1) := by decide +kernel
theorem eMd_job_0 : decode prog_14_method_110_code 0 = .ok (.aload_n 0, 1) := by decide +kernel
theorem eMd_job_1 : decode prog_14_method_110_code 1 = .ok (.iconst 0, 1) := by decide +kernel
theorem eMd_job_2 : decode prog_14_method_110_code 2 = .ok (.putfield 107, 3) := by decide +kernel
theorem eMd_job_5 : decode prog_14_method_110_code 5 = .ok (.iload_n 1, 1) := by decide +kernel
theorem eMd_job_6 : decode prog_14_method_110_code 6 = .ok (.ifCond .lt 14, 3) := by decide +kernel
theorem eMd_job_9 : decode prog_14_method_110_code 9 = .ok (.iload_n 1, 1) := by decide +kernel
theorem eMd_job_10 : decode prog_14_method_110_code 10 = .ok (.aload_n 0, 1) := by decide +kernel
theorem eMd_job_11 : decode prog_14_method_110_code 11 = .ok (.getfield 13, 3) := by decide +kernel
theorem eMd_job_14 : decode prog_14_method_110_code 14 = .ok (.bipush 11, 2) := by decide +kernel
theorem eMd_job_16 : decode prog_14_method_110_code 16 = .ok (.iaload, 1) := by decide +kernel
theorem eMd_job_17 : decode prog_14_method_110_code 17 = .ok (.if_icmp .lt 5, 3) := by decide +kernel
theorem eMd_job_20 : decode prog_14_method_110_code 20 = .ok (.iconst (-1), 1) := by decide +kernel
theorem eMd_job_21 : decode prog_14_method_110_code 21 = .ok (.ireturn, 1) := by decide +kernel
theorem eMd_job_22 : decode prog_14_method_110_code 22 = .ok (.aload_n 0, 1) := by decide +kernel
theorem eMd_job_23 : decode prog_14_method_110_code 23 = .ok (.getfield 264, 3) := by decide +kernel
theorem eMd_job_26 : decode prog_14_method_110_code 26 = .ok (.ifCond .eq 6, 3) := by decide +kernel
theorem eMd_job_29 : decode prog_14_method_110_code 29 = .ok (.bipush (-3), 2) := by decide +kernel
theorem eMd_job_31 : decode prog_14_method_110_code 31 = .ok (.ireturn, 1) := by decide +kernel
theorem eMd_job_32 : decode prog_14_method_110_code 32 = .ok (.aload_n 0, 1) := by decide +kernel
theorem eMd_job_33 : decode prog_14_method_110_code 33 = .ok (.invokevirtual 422, 3) := by decide +kernel
theorem eMd_job_36 : decode prog_14_method_110_code 36 = .ok (.aload_n 0, 1) := by decide +kernel
theorem eMd_job_37 : decode prog_14_method_110_code 37 = .ok (.getfield 413, 3) := by decide +kernel
theorem eMd_job_40 : decode prog_14_method_110_code 40 = .ok (.bipush (-2), 2) := by decide +kernel
theorem eMd_job_42 : decode prog_14_method_110_code 42 = .ok (.if_icmp .ne 8, 3) := by decide +kernel
theorem eMd_job_45 : decode prog_14_method_110_code 45 = .ok (.bipush (-2), 2) := by decide +kernel
theorem eMd_job_47 : decode prog_14_method_110_code 47 = .ok (.goto 9, 3) := by decide +kernel
theorem eMd_job_50 : decode prog_14_method_110_code 50 = .ok (.aload_n 0, 1) := by decide +kernel
theorem eMd_job_51 : decode prog_14_method_110_code 51 = .ok (.getfield 95, 3) := by decide +kernel
theorem eMd_job_54 : decode prog_14_method_110_code 54 = .ok (.iload_n 1, 1) := by decide +kernel
theorem eMd_job_55 : decode prog_14_method_110_code 55 = .ok (.iaload, 1) := by decide +kernel
theorem eMd_job_56 : decode prog_14_method_110_code 56 = .ok (.ireturn, 1) := by decide +kernel
theorem eMd_ifPile_0 : decode prog_14_method_111_code 0 = .ok (.aload_n 0, 1) := by decide +kernel
theorem eMd_ifPile_1 : decode prog_14_method_111_code 1 = .ok (.iconst 0, 1) := by decide +kernel
theorem eMd_ifPile_2 : decode prog_14_method_111_code 2 = .ok (.putfield 107, 3) := by decide +kernel
theorem eMd_ifPile_5 : decode prog_14_method_111_code 5 = .ok (.aload_n 0, 1) := by decide +kernel
theorem eMd_ifPile_6 : decode prog_14_method_111_code 6 = .ok (.iload_n 1, 1) := by decide +kernel
theorem eMd_ifPile_7 : decode prog_14_method_111_code 7 = .ok (.invokevirtual 267, 3) := by decide +kernel
theorem eMd_ifPile_10 : decode prog_14_method_111_code 10 = .ok (.ifCond .eq 11, 3) := by decide +kernel
theorem eMd_ifPile_13 : decode prog_14_method_111_code 13 = .ok (.aload_n 0, 1) := by decide +kernel
theorem eMd_ifPile_14 : decode prog_14_method_111_code 14 = .ok (.iload_n 2, 1) := by decide +kernel
theorem eMd_ifPile_15 : decode prog_14_method_111_code 15 = .ok (.invokevirtual 379, 3) := by decide +kernel
theorem eMd_ifPile_18 : decode prog_14_method_111_code 18 = .ok (.ifCond .ne 5, 3) := by decide +kernel
theorem eMd_ifPile_21 : decode prog_14_method_111_code 21 = .ok (.iconst (-1), 1) := by decide +kernel
theorem eMd_ifPile_22 : decode prog_14_method_111_code 22 = .ok (.ireturn, 1) := by decide +kernel
theorem eMd_ifPile_23 : decode prog_14_method_111_code 23 = .ok (.aload_n 0, 1) := by decide +kernel
theorem eMd_ifPile_24 : decode prog_14_method_111_code 24 = .ok (.getfield 66, 3) := by decide +kernel
theorem eMd_ifPile_27 : decode prog_14_method_111_code 27 = .ok (.iload_n 1, 1) := by decide +kernel
theorem eMd_ifPile_28 : decode prog_14_method_111_code 28 = .ok (.dup2, 1) := by decide +kernel
theorem eMd_ifPile_29 : decode prog_14_method_111_code 29 = .ok (.iaload, 1) := by decide +kernel
theorem eMd_ifPile_30 : decode prog_14_method_111_code 30 = .ok (.iconst 1, 1) := by decide +kernel
theorem eMd_ifPile_31 : decode prog_14_method_111_code 31 = .ok (.iadd, 1) := by decide +kernel
theorem eMd_ifPile_32 : decode prog_14_method_111_code 32 = .ok (.iastore, 1) := by decide +kernel
theorem eMd_ifPile_33 : decode prog_14_method_111_code 33 = .ok (.aload_n 0, 1) := by decide +kernel
theorem eMd_ifPile_34 : decode prog_14_method_111_code 34 = .ok (.invokevirtual 327, 3) := by decide +kernel
theorem eMd_ifPile_37 : decode prog_14_method_111_code 37 = .ok (.aload_n 0, 1) := by decide +kernel
theorem eMd_ifPile_38 : decode prog_14_method_111_code 38 = .ok (.aload_n 0, 1) := by decide +kernel
theorem eMd_ifPile_39 : decode prog_14_method_111_code 39 = .ok (.iload_n 2, 1) := by decide +kernel
theorem eMd_ifPile_40 : decode prog_14_method_111_code 40 = .ok (.invokevirtual 382, 3) := by decide +kernel
theorem eMd_ifPile_43 : decode prog_14_method_111_code 43 = .ok (.iconst 0, 1) := by decide +kernel
theorem eMd_ifPile_44 : decode prog_14_method_111_code 44 = .ok (.invokevirtual 385, 3) := by decide +kernel
theorem eMd_ifPile_47 : decode prog_14_method_111_code 47 = .ok (.istore_n 3, 1) := by decide +kernel
theorem eMd_ifPile_48 : decode prog_14_method_111_code 48 = .ok (.aload_n 0, 1) := by decide +kernel
theorem eMd_ifPile_49 : decode prog_14_method_111_code 49 = .ok (.invokevirtual 324, 3) := by decide +kernel
theorem eMd_ifPile_52 : decode prog_14_method_111_code 52 = .ok (.iload_n 3, 1) := by decide +kernel
theorem eMd_ifPile_53 : decode prog_14_method_111_code 53 = .ok (.ireturn, 1) := by decide +kernel
theorem eMd_reach_0 : decode prog_14_method_112_code 0 = .ok (.aload_n 0, 1) := by decide +kernel
theorem eMd_reach_1 : decode prog_14_method_112_code 1 = .ok (.iconst 0, 1) := by decide +kernel
theorem eMd_reach_2 : decode prog_14_method_112_code 2 = .ok (.putfield 107, 3) := by decide +kernel
theorem eMd_reach_5 : decode prog_14_method_112_code 5 = .ok (.iload_n 1, 1) := by decide +kernel
theorem eMd_reach_6 : decode prog_14_method_112_code 6 = .ok (.ifCond .lt 8, 3) := by decide +kernel
theorem eMd_reach_9 : decode prog_14_method_112_code 9 = .ok (.iload_n 1, 1) := by decide +kernel
theorem eMd_reach_10 : decode prog_14_method_112_code 10 = .ok (.iconst 2, 1) := by decide +kernel
theorem eMd_reach_11 : decode prog_14_method_112_code 11 = .ok (.if_icmp .le 5, 3) := by decide +kernel
theorem eMd_reach_14 : decode prog_14_method_112_code 14 = .ok (.iconst (-1), 1) := by decide +kernel
theorem eMd_reach_15 : decode prog_14_method_112_code 15 = .ok (.ireturn, 1) := by decide +kernel
theorem eMd_reach_16 : decode prog_14_method_112_code 16 = .ok (.aload_n 0, 1) := by decide +kernel
theorem eMd_reach_17 : decode prog_14_method_112_code 17 = .ok (.invokevirtual 364, 3) := by decide +kernel
theorem eMd_reach_20 : decode prog_14_method_112_code 20 = .ok (.ifCond .ne 7, 3) := by decide +kernel
theorem eMd_reach_23 : decode prog_14_method_112_code 23 = .ok (.iconst 1, 1) := by decide +kernel
theorem eMd_reach_24 : decode prog_14_method_112_code 24 = .ok (.goto 4, 3) := by decide +kernel
theorem eMd_reach_27 : decode prog_14_method_112_code 27 = .ok (.iconst 0, 1) := by decide +kernel
theorem eMd_reach_28 : decode prog_14_method_112_code 28 = .ok (.istore_n 2, 1) := by decide +kernel
theorem eMd_reach_29 : decode prog_14_method_112_code 29 = .ok (.iconst 0, 1) := by decide +kernel
theorem eMd_reach_30 : decode prog_14_method_112_code 30 = .ok (.istore_n 3, 1) := by decide +kernel
theorem eMd_reach_31 : decode prog_14_method_112_code 31 = .ok (.iconst 0, 1) := by decide +kernel
theorem eMd_reach_32 : decode prog_14_method_112_code 32 = .ok (.istore 4, 2) := by decide +kernel
theorem eMd_reach_34 : decode prog_14_method_112_code 34 = .ok (.bipush (-2), 2) := by decide +kernel
theorem eMd_reach_36 : decode prog_14_method_112_code 36 = .ok (.istore 5, 2) := by decide +kernel
theorem eMd_reach_38 : decode prog_14_method_112_code 38 = .ok (.iload_n 2, 1) := by decide +kernel
theorem eMd_reach_39 : decode prog_14_method_112_code 39 = .ok (.ifCond .eq 7, 3) := by decide +kernel
theorem eMd_reach_42 : decode prog_14_method_112_code 42 = .ok (.aload_n 0, 1) := by decide +kernel
theorem eMd_reach_43 : decode prog_14_method_112_code 43 = .ok (.invokevirtual 425, 3) := by decide +kernel
theorem eMd_reach_46 : decode prog_14_method_112_code 46 = .ok (.iconst 0, 1) := by decide +kernel
theorem eMd_reach_47 : decode prog_14_method_112_code 47 = .ok (.istore 6, 2) := by decide +kernel
theorem eMd_reach_49 : decode prog_14_method_112_code 49 = .ok (.iload 6, 2) := by decide +kernel
theorem eMd_reach_51 : decode prog_14_method_112_code 51 = .ok (.aload_n 0, 1) := by decide +kernel
theorem eMd_reach_52 : decode prog_14_method_112_code 52 = .ok (.getfield 13, 3) := by decide +kernel
theorem eMd_reach_55 : decode prog_14_method_112_code 55 = .ok (.iconst 0, 1) := by decide +kernel
theorem eMd_reach_56 : decode prog_14_method_112_code 56 = .ok (.iaload, 1) := by decide +kernel
theorem eMd_reach_57 : decode prog_14_method_112_code 57 = .ok (.if_icmp .ge 117, 3) := by decide +kernel
theorem eMd_reach_60 : decode prog_14_method_112_code 60 = .ok (.iconst 1, 1) := by decide +kernel
theorem eMd_reach_61 : decode prog_14_method_112_code 61 = .ok (.istore 7, 2) := by decide +kernel
theorem eMd_reach_63 : decode prog_14_method_112_code 63 = .ok (.iload 7, 2) := by decide +kernel
theorem eMd_reach_65 : decode prog_14_method_112_code 65 = .ok (.aload_n 0, 1) := by decide +kernel
theorem eMd_reach_66 : decode prog_14_method_112_code 66 = .ok (.getfield 13, 3) := by decide +kernel
theorem eMd_reach_69 : decode prog_14_method_112_code 69 = .ok (.iconst 1, 1) := by decide +kernel
theorem eMd_reach_70 : decode prog_14_method_112_code 70 = .ok (.iaload, 1) := by decide +kernel
theorem eMd_reach_71 : decode prog_14_method_112_code 71 = .ok (.if_icmp .gt 97, 3) := by decide +kernel
theorem eMd_reach_74 : decode prog_14_method_112_code 74 = .ok (.aload_n 0, 1) := by decide +kernel
theorem eMd_reach_75 : decode prog_14_method_112_code 75 = .ok (.aload_n 0, 1) := by decide +kernel
theorem eMd_reach_76 : decode prog_14_method_112_code 76 = .ok (.iload 6, 2) := by decide +kernel
theorem eMd_reach_78 : decode prog_14_method_112_code 78 = .ok (.iload 7, 2) := by decide +kernel
theorem eMd_reach_80 : decode prog_14_method_112_code 80 = .ok (.invokevirtual 300, 3) := by decide +kernel
theorem eMd_reach_83 : decode prog_14_method_112_code 83 = .ok (.invokevirtual 303, 3) := by decide +kernel
theorem eMd_reach_86 : decode prog_14_method_112_code 86 = .ok (.ifCond .ne 6, 3) := by decide +kernel
theorem eMd_reach_89 : decode prog_14_method_112_code 89 = .ok (.goto 73, 3) := by decide +kernel
theorem eMd_reach_92 : decode prog_14_method_112_code 92 = .ok (.iinc 3 1, 3) := by decide +kernel
theorem eMd_reach_95 : decode prog_14_method_112_code 95 = .ok (.iload_n 2, 1) := by decide +kernel
theorem eMd_reach_96 : decode prog_14_method_112_code 96 = .ok (.ifCond .eq 66, 3) := by decide +kernel
theorem eMd_reach_99 : decode prog_14_method_112_code 99 = .ok (.aload_n 0, 1) := by decide +kernel
theorem eMd_reach_100 : decode prog_14_method_112_code 100 = .ok (.getfield 73, 3) := by decide +kernel
theorem eMd_reach_103 : decode prog_14_method_112_code 103 = .ok (.aload_n 0, 1) := by decide +kernel
theorem eMd_reach_104 : decode prog_14_method_112_code 104 = .ok (.iload 6, 2) := by decide +kernel
theorem eMd_reach_106 : decode prog_14_method_112_code 106 = .ok (.iload 7, 2) := by decide +kernel
theorem eMd_reach_108 : decode prog_14_method_112_code 108 = .ok (.invokevirtual 300, 3) := by decide +kernel
theorem eMd_reach_111 : decode prog_14_method_112_code 111 = .ok (.saload, 1) := by decide +kernel
theorem eMd_reach_112 : decode prog_14_method_112_code 112 = .ok (.sipush 30000, 3) := by decide +kernel
theorem eMd_reach_115 : decode prog_14_method_112_code 115 = .ok (.if_icmp .ne 6, 3) := by decide +kernel
theorem eMd_reach_118 : decode prog_14_method_112_code 118 = .ok (.goto 44, 3) := by decide +kernel
theorem eMd_reach_121 : decode prog_14_method_112_code 121 = .ok (.iinc 4 1, 3) := by decide +kernel
theorem eMd_reach_124 : decode prog_14_method_112_code 124 = .ok (.aload_n 0, 1) := by decide +kernel
theorem eMd_reach_125 : decode prog_14_method_112_code 125 = .ok (.getfield 73, 3) := by decide +kernel
theorem eMd_reach_128 : decode prog_14_method_112_code 128 = .ok (.aload_n 0, 1) := by decide +kernel
theorem eMd_reach_129 : decode prog_14_method_112_code 129 = .ok (.iload 6, 2) := by decide +kernel
theorem eMd_reach_131 : decode prog_14_method_112_code 131 = .ok (.iload 7, 2) := by decide +kernel
theorem eMd_reach_133 : decode prog_14_method_112_code 133 = .ok (.invokevirtual 300, 3) := by decide +kernel
theorem eMd_reach_136 : decode prog_14_method_112_code 136 = .ok (.saload, 1) := by decide +kernel
theorem eMd_reach_137 : decode prog_14_method_112_code 137 = .ok (.iload 5, 2) := by decide +kernel
theorem eMd_reach_139 : decode prog_14_method_112_code 139 = .ok (.if_icmp .le 19, 3) := by decide +kernel
theorem eMd_reach_142 : decode prog_14_method_112_code 142 = .ok (.aload_n 0, 1) := by decide +kernel
theorem eMd_reach_143 : decode prog_14_method_112_code 143 = .ok (.getfield 73, 3) := by decide +kernel
theorem eMd_reach_146 : decode prog_14_method_112_code 146 = .ok (.aload_n 0, 1) := by decide +kernel
theorem eMd_reach_147 : decode prog_14_method_112_code 147 = .ok (.iload 6, 2) := by decide +kernel
theorem eMd_reach_149 : decode prog_14_method_112_code 149 = .ok (.iload 7, 2) := by decide +kernel
theorem eMd_reach_151 : decode prog_14_method_112_code 151 = .ok (.invokevirtual 300, 3) := by decide +kernel
theorem eMd_reach_154 : decode prog_14_method_112_code 154 = .ok (.saload, 1) := by decide +kernel
theorem eMd_reach_155 : decode prog_14_method_112_code 155 = .ok (.goto 5, 3) := by decide +kernel
theorem eMd_reach_158 : decode prog_14_method_112_code 158 = .ok (.iload 5, 2) := by decide +kernel
theorem eMd_reach_160 : decode prog_14_method_112_code 160 = .ok (.istore 5, 2) := by decide +kernel
theorem eMd_reach_162 : decode prog_14_method_112_code 162 = .ok (.iinc 7 1, 3) := by decide +kernel
theorem eMd_reach_165 : decode prog_14_method_112_code 165 = .ok (.goto (-102), 3) := by decide +kernel
theorem eMd_reach_168 : decode prog_14_method_112_code 168 = .ok (.iinc 6 1, 3) := by decide +kernel
theorem eMd_reach_171 : decode prog_14_method_112_code 171 = .ok (.goto (-122), 3) := by decide +kernel
theorem eMd_reach_174 : decode prog_14_method_112_code 174 = .ok (.iload_n 1, 1) := by decide +kernel
theorem eMd_reach_175 : decode prog_14_method_112_code 175 = .ok (.ifCond .ne 7, 3) := by decide +kernel
theorem eMd_reach_178 : decode prog_14_method_112_code 178 = .ok (.iload_n 3, 1) := by decide +kernel
theorem eMd_reach_179 : decode prog_14_method_112_code 179 = .ok (.goto 15, 3) := by decide +kernel
theorem eMd_reach_182 : decode prog_14_method_112_code 182 = .ok (.iload_n 1, 1) := by decide +kernel
theorem eMd_reach_183 : decode prog_14_method_112_code 183 = .ok (.iconst 1, 1) := by decide +kernel
theorem eMd_reach_184 : decode prog_14_method_112_code 184 = .ok (.if_icmp .ne 8, 3) := by decide +kernel
theorem eMd_reach_187 : decode prog_14_method_112_code 187 = .ok (.iload 4, 2) := by decide +kernel
theorem eMd_reach_189 : decode prog_14_method_112_code 189 = .ok (.goto 5, 3) := by decide +kernel
theorem eMd_reach_192 : decode prog_14_method_112_code 192 = .ok (.iload 5, 2) := by decide +kernel
theorem eMd_reach_194 : decode prog_14_method_112_code 194 = .ok (.ireturn, 1) := by decide +kernel
theorem eMd_walks_0 : decode prog_14_method_113_code 0 = .ok (.aload_n 0, 1) := by decide +kernel
theorem eMd_walks_1 : decode prog_14_method_113_code 1 = .ok (.bipush (-2), 2) := by decide +kernel
theorem eMd_walks_3 : decode prog_14_method_113_code 3 = .ok (.putfield 80, 3) := by decide +kernel
theorem eMd_walks_6 : decode prog_14_method_113_code 6 = .ok (.aload_n 0, 1) := by decide +kernel
theorem eMd_walks_7 : decode prog_14_method_113_code 7 = .ok (.iconst 0, 1) := by decide +kernel
theorem eMd_walks_8 : decode prog_14_method_113_code 8 = .ok (.putfield 284, 3) := by decide +kernel
theorem eMd_walks_11 : decode prog_14_method_113_code 11 = .ok (.iconst 0, 1) := by decide +kernel
theorem eMd_walks_12 : decode prog_14_method_113_code 12 = .ok (.istore_n 1, 1) := by decide +kernel
theorem eMd_walks_13 : decode prog_14_method_113_code 13 = .ok (.iload_n 1, 1) := by decide +kernel
theorem eMd_walks_14 : decode prog_14_method_113_code 14 = .ok (.ldc 72, 2) := by decide +kernel
theorem eMd_walks_16 : decode prog_14_method_113_code 16 = .ok (.if_icmp .ge 18, 3) := by decide +kernel
theorem eMd_walks_19 : decode prog_14_method_113_code 19 = .ok (.aload_n 0, 1) := by decide +kernel
theorem eMd_walks_20 : decode prog_14_method_113_code 20 = .ok (.getfield 73, 3) := by decide +kernel
theorem eMd_walks_23 : decode prog_14_method_113_code 23 = .ok (.iload_n 1, 1) := by decide +kernel
theorem eMd_walks_24 : decode prog_14_method_113_code 24 = .ok (.sipush 30000, 3) := by decide +kernel
theorem eMd_walks_27 : decode prog_14_method_113_code 27 = .ok (.sastore, 1) := by decide +kernel
theorem eMd_walks_28 : decode prog_14_method_113_code 28 = .ok (.iinc 1 1, 3) := by decide +kernel
theorem eMd_walks_31 : decode prog_14_method_113_code 31 = .ok (.goto (-18), 3) := by decide +kernel
theorem eMd_walks_34 : decode prog_14_method_113_code 34 = .ok (.aload_n 0, 1) := by decide +kernel
theorem eMd_walks_35 : decode prog_14_method_113_code 35 = .ok (.aload_n 0, 1) := by decide +kernel
theorem eMd_walks_36 : decode prog_14_method_113_code 36 = .ok (.getfield 83, 3) := by decide +kernel
theorem eMd_walks_39 : decode prog_14_method_113_code 39 = .ok (.iconst 0, 1) := by decide +kernel
theorem eMd_walks_40 : decode prog_14_method_113_code 40 = .ok (.iaload, 1) := by decide +kernel
theorem eMd_walks_41 : decode prog_14_method_113_code 41 = .ok (.iconst 0, 1) := by decide +kernel
theorem eMd_walks_42 : decode prog_14_method_113_code 42 = .ok (.invokevirtual 306, 3) := by decide +kernel
theorem eMd_walks_45 : decode prog_14_method_113_code 45 = .ok (.iconst 0, 1) := by decide +kernel
theorem eMd_walks_46 : decode prog_14_method_113_code 46 = .ok (.istore_n 1, 1) := by decide +kernel
theorem eMd_walks_47 : decode prog_14_method_113_code 47 = .ok (.iload_n 1, 1) := by decide +kernel
theorem eMd_walks_48 : decode prog_14_method_113_code 48 = .ok (.aload_n 0, 1) := by decide +kernel
theorem eMd_walks_49 : decode prog_14_method_113_code 49 = .ok (.getfield 284, 3) := by decide +kernel
theorem eMd_walks_52 : decode prog_14_method_113_code 52 = .ok (.if_icmp .ge 67, 3) := by decide +kernel
theorem eMd_walks_55 : decode prog_14_method_113_code 55 = .ok (.iconst 0, 1) := by decide +kernel
theorem eMd_walks_56 : decode prog_14_method_113_code 56 = .ok (.istore_n 2, 1) := by decide +kernel
theorem eMd_walks_57 : decode prog_14_method_113_code 57 = .ok (.iload_n 2, 1) := by decide +kernel
theorem eMd_walks_58 : decode prog_14_method_113_code 58 = .ok (.bipush 9, 2) := by decide +kernel
theorem eMd_walks_60 : decode prog_14_method_113_code 60 = .ok (.if_icmp .ge 53, 3) := by decide +kernel
theorem eMd_walks_63 : decode prog_14_method_113_code 63 = .ok (.aload_n 0, 1) := by decide +kernel
theorem eMd_walks_64 : decode prog_14_method_113_code 64 = .ok (.aload_n 0, 1) := by decide +kernel
theorem eMd_walks_65 : decode prog_14_method_113_code 65 = .ok (.getfield 77, 3) := by decide +kernel
theorem eMd_walks_68 : decode prog_14_method_113_code 68 = .ok (.iload_n 1, 1) := by decide +kernel
theorem eMd_walks_69 : decode prog_14_method_113_code 69 = .ok (.iaload, 1) := by decide +kernel
theorem eMd_walks_70 : decode prog_14_method_113_code 70 = .ok (.invokevirtual 287, 3) := by decide +kernel
theorem eMd_walks_73 : decode prog_14_method_113_code 73 = .ok (.aload_n 0, 1) := by decide +kernel
theorem eMd_walks_74 : decode prog_14_method_113_code 74 = .ok (.iload_n 2, 1) := by decide +kernel
theorem eMd_walks_75 : decode prog_14_method_113_code 75 = .ok (.iconst 0, 1) := by decide +kernel
theorem eMd_walks_76 : decode prog_14_method_113_code 76 = .ok (.invokevirtual 315, 3) := by decide +kernel
theorem eMd_walks_79 : decode prog_14_method_113_code 79 = .ok (.aload_n 0, 1) := by decide +kernel
theorem eMd_walks_80 : decode prog_14_method_113_code 80 = .ok (.invokevirtual 290, 3) := by decide +kernel
theorem eMd_walks_83 : decode prog_14_method_113_code 83 = .ok (.ifCond .eq 24, 3) := by decide +kernel
theorem eMd_walks_86 : decode prog_14_method_113_code 86 = .ok (.aload_n 0, 1) := by decide +kernel
theorem eMd_walks_87 : decode prog_14_method_113_code 87 = .ok (.aload_n 0, 1) := by decide +kernel
theorem eMd_walks_88 : decode prog_14_method_113_code 88 = .ok (.invokevirtual 312, 3) := by decide +kernel
theorem eMd_walks_91 : decode prog_14_method_113_code 91 = .ok (.aload_n 0, 1) := by decide +kernel
theorem eMd_walks_92 : decode prog_14_method_113_code 92 = .ok (.getfield 73, 3) := by decide +kernel
theorem eMd_walks_95 : decode prog_14_method_113_code 95 = .ok (.aload_n 0, 1) := by decide +kernel
theorem eMd_walks_96 : decode prog_14_method_113_code 96 = .ok (.getfield 77, 3) := by decide +kernel
theorem eMd_walks_99 : decode prog_14_method_113_code 99 = .ok (.iload_n 1, 1) := by decide +kernel
theorem eMd_walks_100 : decode prog_14_method_113_code 100 = .ok (.iaload, 1) := by decide +kernel
theorem eMd_walks_101 : decode prog_14_method_113_code 101 = .ok (.saload, 1) := by decide +kernel
theorem eMd_walks_102 : decode prog_14_method_113_code 102 = .ok (.iconst 1, 1) := by decide +kernel
theorem eMd_walks_103 : decode prog_14_method_113_code 103 = .ok (.iadd, 1) := by decide +kernel
theorem eMd_walks_104 : decode prog_14_method_113_code 104 = .ok (.invokevirtual 306, 3) := by decide +kernel
theorem eMd_walks_107 : decode prog_14_method_113_code 107 = .ok (.iinc 2 1, 3) := by decide +kernel
theorem eMd_walks_110 : decode prog_14_method_113_code 110 = .ok (.goto (-53), 3) := by decide +kernel
theorem eMd_walks_113 : decode prog_14_method_113_code 113 = .ok (.iinc 1 1, 3) := by decide +kernel
theorem eMd_walks_116 : decode prog_14_method_113_code 116 = .ok (.goto (-69), 3) := by decide +kernel
theorem eMd_walks_119 : decode prog_14_method_113_code 119 = .ok (.return_, 1) := by decide +kernel
theorem eMd_isWithin_0 : decode prog_14_method_114_code 0 = .ok (.aload_n 0, 1) := by decide +kernel
theorem eMd_isWithin_1 : decode prog_14_method_114_code 1 = .ok (.getfield 255, 3) := by decide +kernel
theorem eMd_isWithin_4 : decode prog_14_method_114_code 4 = .ok (.invokestatic 261, 3) := by decide +kernel
theorem eMd_isWithin_7 : decode prog_14_method_114_code 7 = .ok (.aload_n 0, 1) := by decide +kernel
theorem eMd_isWithin_8 : decode prog_14_method_114_code 8 = .ok (.getfield 13, 3) := by decide +kernel
theorem eMd_isWithin_11 : decode prog_14_method_114_code 11 = .ok (.iconst 2, 1) := by decide +kernel
theorem eMd_isWithin_12 : decode prog_14_method_114_code 12 = .ok (.iaload, 1) := by decide +kernel
theorem eMd_isWithin_13 : decode prog_14_method_114_code 13 = .ok (.if_icmp .gt 63, 3) := by decide +kernel
theorem eMd_isWithin_16 : decode prog_14_method_114_code 16 = .ok (.aload_n 0, 1) := by decide +kernel
theorem eMd_isWithin_17 : decode prog_14_method_114_code 17 = .ok (.getfield 252, 3) := by decide +kernel
theorem eMd_isWithin_20 : decode prog_14_method_114_code 20 = .ok (.invokestatic 261, 3) := by decide +kernel
theorem eMd_isWithin_23 : decode prog_14_method_114_code 23 = .ok (.aload_n 0, 1) := by decide +kernel
theorem eMd_isWithin_24 : decode prog_14_method_114_code 24 = .ok (.getfield 13, 3) := by decide +kernel
theorem eMd_isWithin_27 : decode prog_14_method_114_code 27 = .ok (.iconst 3, 1) := by decide +kernel
theorem eMd_isWithin_28 : decode prog_14_method_114_code 28 = .ok (.iaload, 1) := by decide +kernel
theorem eMd_isWithin_29 : decode prog_14_method_114_code 29 = .ok (.if_icmp .gt 47, 3) := by decide +kernel
theorem eMd_isWithin_32 : decode prog_14_method_114_code 32 = .ok (.aload_n 0, 1) := by decide +kernel
theorem eMd_isWithin_33 : decode prog_14_method_114_code 33 = .ok (.getfield 249, 3) := by decide +kernel
theorem eMd_isWithin_36 : decode prog_14_method_114_code 36 = .ok (.invokestatic 261, 3) := by decide +kernel
theorem eMd_isWithin_39 : decode prog_14_method_114_code 39 = .ok (.aload_n 0, 1) := by decide +kernel
theorem eMd_isWithin_40 : decode prog_14_method_114_code 40 = .ok (.getfield 13, 3) := by decide +kernel
theorem eMd_isWithin_43 : decode prog_14_method_114_code 43 = .ok (.iconst 3, 1) := by decide +kernel
theorem eMd_isWithin_44 : decode prog_14_method_114_code 44 = .ok (.iaload, 1) := by decide +kernel
theorem eMd_isWithin_45 : decode prog_14_method_114_code 45 = .ok (.if_icmp .gt 31, 3) := by decide +kernel
theorem eMd_isWithin_48 : decode prog_14_method_114_code 48 = .ok (.aload_n 0, 1) := by decide +kernel
theorem eMd_isWithin_49 : decode prog_14_method_114_code 49 = .ok (.getfield 246, 3) := by decide +kernel
theorem eMd_isWithin_52 : decode prog_14_method_114_code 52 = .ok (.aload_n 0, 1) := by decide +kernel
theorem eMd_isWithin_53 : decode prog_14_method_114_code 53 = .ok (.getfield 13, 3) := by decide +kernel
theorem eMd_isWithin_56 : decode prog_14_method_114_code 56 = .ok (.iconst 1, 1) := by decide +kernel
theorem eMd_isWithin_57 : decode prog_14_method_114_code 57 = .ok (.iaload, 1) := by decide +kernel
theorem eMd_isWithin_58 : decode prog_14_method_114_code 58 = .ok (.if_icmp .gt 18, 3) := by decide +kernel
theorem eMd_isWithin_61 : decode prog_14_method_114_code 61 = .ok (.aload_n 0, 1) := by decide +kernel
theorem eMd_isWithin_62 : decode prog_14_method_114_code 62 = .ok (.aload_n 0, 1) := by decide +kernel
theorem eMd_isWithin_63 : decode prog_14_method_114_code 63 = .ok (.getfield 258, 3) := by decide +kernel
theorem eMd_isWithin_66 : decode prog_14_method_114_code 66 = .ok (.invokevirtual 267, 3) := by decide +kernel
theorem eMd_isWithin_69 : decode prog_14_method_114_code 69 = .ok (.ifCond .eq 7, 3) := by decide +kernel
theorem eMd_isWithin_72 : decode prog_14_method_114_code 72 = .ok (.iconst 1, 1) := by decide +kernel
theorem eMd_isWithin_73 : decode prog_14_method_114_code 73 = .ok (.goto 4, 3) := by decide +kernel
