theorem dX0_init_0 : decode cX0_init 0 = .ok (.aload_n 0, 1) := by decide +kernel
theorem dX0_init_1 : decode cX0_init 1 = .ok (.invokespecial 3, 3) := by decide +kernel
theorem dX0_init_4 : decode cX0_init 4 = .ok (.aload_n 0, 1) := by decide +kernel
theorem dX0_init_5 : decode cX0_init 5 = .ok (.sipush 4096, 3) := by decide +kernel
theorem dX0_init_8 : decode cX0_init 8 = .ok (.newarray .byte, 2) := by decide +kernel
theorem dX0_init_10 : decode cX0_init 10 = .ok (.putfield 9, 3) := by decide +kernel
theorem dX0_init_13 : decode cX0_init 13 = .ok (.aload_n 0, 1) := by decide +kernel
theorem dX0_init_14 : decode cX0_init 14 = .ok (.bipush 12, 2) := by decide +kernel
theorem dX0_init_16 : decode cX0_init 16 = .ok (.newarray .int, 2) := by decide +kernel
theorem dX0_init_18 : decode cX0_init 18 = .ok (.putfield 15, 3) := by decide +kernel
theorem dX0_init_21 : decode cX0_init 21 = .ok (.aload_n 0, 1) := by decide +kernel
theorem dX0_init_22 : decode cX0_init 22 = .ok (.aload_n 1, 1) := by decide +kernel
theorem dX0_init_23 : decode cX0_init 23 = .ok (.putfield 19, 3) := by decide +kernel
theorem dX0_init_26 : decode cX0_init 26 = .ok (.return_, 1) := by decide +kernel
theorem dX0_questions_0 : decode cX0_questions 0 = .ok (.aload_n 0, 1) := by decide +kernel
theorem dX0_questions_1 : decode cX0_questions 1 = .ok (.invokevirtual 23, 3) := by decide +kernel
theorem dX0_questions_4 : decode cX0_questions 4 = .ok (.aload_n 0, 1) := by decide +kernel
theorem dX0_questions_5 : decode cX0_questions 5 = .ok (.iload_n 1, 1) := by decide +kernel
theorem dX0_questions_6 : decode cX0_questions 6 = .ok (.iconst 0, 1) := by decide +kernel
theorem dX0_questions_7 : decode cX0_questions 7 = .ok (.invokevirtual 26, 3) := by decide +kernel
theorem dX0_questions_10 : decode cX0_questions 10 = .ok (.ireturn, 1) := by decide +kernel
theorem dX0_best_0 : decode cX0_best 0 = .ok (.aload_n 0, 1) := by decide +kernel
theorem dX0_best_1 : decode cX0_best 1 = .ok (.invokevirtual 23, 3) := by decide +kernel
theorem dX0_best_4 : decode cX0_best 4 = .ok (.aload_n 0, 1) := by decide +kernel
theorem dX0_best_5 : decode cX0_best 5 = .ok (.iload_n 1, 1) := by decide +kernel
theorem dX0_best_6 : decode cX0_best 6 = .ok (.iconst 0, 1) := by decide +kernel
theorem dX0_best_7 : decode cX0_best 7 = .ok (.invokevirtual 26, 3) := by decide +kernel
theorem dX0_best_10 : decode cX0_best 10 = .ok (.istore_n 2, 1) := by decide +kernel
theorem dX0_best_11 : decode cX0_best 11 = .ok (.iconst 0, 1) := by decide +kernel
theorem dX0_best_12 : decode cX0_best 12 = .ok (.istore_n 3, 1) := by decide +kernel
theorem dX0_best_13 : decode cX0_best 13 = .ok (.iload_n 3, 1) := by decide +kernel
theorem dX0_best_14 : decode cX0_best 14 = .ok (.bipush 12, 2) := by decide +kernel
theorem dX0_best_16 : decode cX0_best 16 = .ok (.if_icmp .ge 26, 3) := by decide +kernel
theorem dX0_best_19 : decode cX0_best 19 = .ok (.iload_n 2, 1) := by decide +kernel
theorem dX0_best_20 : decode cX0_best 20 = .ok (.ifCond .le 22, 3) := by decide +kernel
theorem dX0_best_23 : decode cX0_best 23 = .ok (.aload_n 0, 1) := by decide +kernel
theorem dX0_best_24 : decode cX0_best 24 = .ok (.iload_n 1, 1) := by decide +kernel
theorem dX0_best_25 : decode cX0_best 25 = .ok (.iload_n 3, 1) := by decide +kernel
theorem dX0_best_26 : decode cX0_best 26 = .ok (.iconst 0, 1) := by decide +kernel
theorem dX0_best_27 : decode cX0_best 27 = .ok (.invokevirtual 30, 3) := by decide +kernel
theorem dX0_best_30 : decode cX0_best 30 = .ok (.iload_n 2, 1) := by decide +kernel
theorem dX0_best_31 : decode cX0_best 31 = .ok (.if_icmp .ne 5, 3) := by decide +kernel
theorem dX0_best_34 : decode cX0_best 34 = .ok (.iload_n 3, 1) := by decide +kernel
theorem dX0_best_35 : decode cX0_best 35 = .ok (.ireturn, 1) := by decide +kernel
theorem dX0_best_36 : decode cX0_best 36 = .ok (.iinc 3 1, 3) := by decide +kernel
theorem dX0_best_39 : decode cX0_best 39 = .ok (.goto (-26), 3) := by decide +kernel
theorem dX0_best_42 : decode cX0_best 42 = .ok (.iconst (-1), 1) := by decide +kernel
theorem dX0_best_43 : decode cX0_best 43 = .ok (.ireturn, 1) := by decide +kernel
theorem dX0_forgetIfChanged_0 : decode cX0_forgetIfChanged 0 = .ok (.iconst 0, 1) := by decide +kernel
theorem dX0_forgetIfChanged_1 : decode cX0_forgetIfChanged 1 = .ok (.istore_n 1, 1) := by decide +kernel
theorem dX0_forgetIfChanged_2 : decode cX0_forgetIfChanged 2 = .ok (.iconst 0, 1) := by decide +kernel
theorem dX0_forgetIfChanged_3 : decode cX0_forgetIfChanged 3 = .ok (.istore_n 2, 1) := by decide +kernel
theorem dX0_forgetIfChanged_4 : decode cX0_forgetIfChanged 4 = .ok (.iload_n 2, 1) := by decide +kernel
theorem dX0_forgetIfChanged_5 : decode cX0_forgetIfChanged 5 = .ok (.bipush 12, 2) := by decide +kernel
theorem dX0_forgetIfChanged_7 : decode cX0_forgetIfChanged 7 = .ok (.if_icmp .ge 50, 3) := by decide +kernel
theorem dX0_forgetIfChanged_10 : decode cX0_forgetIfChanged 10 = .ok (.iload_n 1, 1) := by decide +kernel
theorem dX0_forgetIfChanged_11 : decode cX0_forgetIfChanged 11 = .ok (.aload_n 0, 1) := by decide +kernel
theorem dX0_forgetIfChanged_12 : decode cX0_forgetIfChanged 12 = .ok (.getfield 15, 3) := by decide +kernel
theorem dX0_forgetIfChanged_15 : decode cX0_forgetIfChanged 15 = .ok (.iload_n 2, 1) := by decide +kernel
theorem dX0_forgetIfChanged_16 : decode cX0_forgetIfChanged 16 = .ok (.iaload, 1) := by decide +kernel
theorem dX0_forgetIfChanged_17 : decode cX0_forgetIfChanged 17 = .ok (.aload_n 0, 1) := by decide +kernel
theorem dX0_forgetIfChanged_18 : decode cX0_forgetIfChanged 18 = .ok (.getfield 19, 3) := by decide +kernel
theorem dX0_forgetIfChanged_21 : decode cX0_forgetIfChanged 21 = .ok (.getfield 34, 3) := by decide +kernel
theorem dX0_forgetIfChanged_24 : decode cX0_forgetIfChanged 24 = .ok (.iload_n 2, 1) := by decide +kernel
theorem dX0_forgetIfChanged_25 : decode cX0_forgetIfChanged 25 = .ok (.iaload, 1) := by decide +kernel
theorem dX0_forgetIfChanged_26 : decode cX0_forgetIfChanged 26 = .ok (.if_icmp .eq 7, 3) := by decide +kernel
theorem dX0_forgetIfChanged_29 : decode cX0_forgetIfChanged 29 = .ok (.iconst 1, 1) := by decide +kernel
theorem dX0_forgetIfChanged_30 : decode cX0_forgetIfChanged 30 = .ok (.goto 4, 3) := by decide +kernel
theorem dX0_forgetIfChanged_33 : decode cX0_forgetIfChanged 33 = .ok (.iconst 0, 1) := by decide +kernel
theorem dX0_forgetIfChanged_34 : decode cX0_forgetIfChanged 34 = .ok (.ior, 1) := by decide +kernel
theorem dX0_forgetIfChanged_35 : decode cX0_forgetIfChanged 35 = .ok (.istore_n 1, 1) := by decide +kernel
theorem dX0_forgetIfChanged_36 : decode cX0_forgetIfChanged 36 = .ok (.aload_n 0, 1) := by decide +kernel
theorem dX0_forgetIfChanged_37 : decode cX0_forgetIfChanged 37 = .ok (.getfield 15, 3) := by decide +kernel
theorem dX0_forgetIfChanged_40 : decode cX0_forgetIfChanged 40 = .ok (.iload_n 2, 1) := by decide +kernel
theorem dX0_forgetIfChanged_41 : decode cX0_forgetIfChanged 41 = .ok (.aload_n 0, 1) := by decide +kernel
theorem dX0_forgetIfChanged_42 : decode cX0_forgetIfChanged 42 = .ok (.getfield 19, 3) := by decide +kernel
theorem dX0_forgetIfChanged_45 : decode cX0_forgetIfChanged 45 = .ok (.getfield 34, 3) := by decide +kernel
theorem dX0_forgetIfChanged_48 : decode cX0_forgetIfChanged 48 = .ok (.iload_n 2, 1) := by decide +kernel
theorem dX0_forgetIfChanged_49 : decode cX0_forgetIfChanged 49 = .ok (.iaload, 1) := by decide +kernel
theorem dX0_forgetIfChanged_50 : decode cX0_forgetIfChanged 50 = .ok (.iastore, 1) := by decide +kernel
theorem dX0_forgetIfChanged_51 : decode cX0_forgetIfChanged 51 = .ok (.iinc 2 1, 3) := by decide +kernel
theorem dX0_forgetIfChanged_54 : decode cX0_forgetIfChanged 54 = .ok (.goto (-50), 3) := by decide +kernel
theorem dX0_forgetIfChanged_57 : decode cX0_forgetIfChanged 57 = .ok (.iconst 0, 1) := by decide +kernel
theorem dX0_forgetIfChanged_58 : decode cX0_forgetIfChanged 58 = .ok (.istore_n 2, 1) := by decide +kernel
theorem dX0_forgetIfChanged_59 : decode cX0_forgetIfChanged 59 = .ok (.iload_n 1, 1) := by decide +kernel
theorem dX0_forgetIfChanged_60 : decode cX0_forgetIfChanged 60 = .ok (.ifCond .eq 23, 3) := by decide +kernel
theorem dX0_forgetIfChanged_63 : decode cX0_forgetIfChanged 63 = .ok (.iload_n 2, 1) := by decide +kernel
theorem dX0_forgetIfChanged_64 : decode cX0_forgetIfChanged 64 = .ok (.sipush 4096, 3) := by decide +kernel
theorem dX0_forgetIfChanged_67 : decode cX0_forgetIfChanged 67 = .ok (.if_icmp .ge 16, 3) := by decide +kernel
theorem dX0_forgetIfChanged_70 : decode cX0_forgetIfChanged 70 = .ok (.aload_n 0, 1) := by decide +kernel
theorem dX0_forgetIfChanged_71 : decode cX0_forgetIfChanged 71 = .ok (.getfield 9, 3) := by decide +kernel
theorem dX0_forgetIfChanged_74 : decode cX0_forgetIfChanged 74 = .ok (.iload_n 2, 1) := by decide +kernel
theorem dX0_forgetIfChanged_75 : decode cX0_forgetIfChanged 75 = .ok (.iconst 0, 1) := by decide +kernel
theorem dX0_forgetIfChanged_76 : decode cX0_forgetIfChanged 76 = .ok (.bastore, 1) := by decide +kernel
theorem dX0_forgetIfChanged_77 : decode cX0_forgetIfChanged 77 = .ok (.iinc 2 1, 3) := by decide +kernel
theorem dX0_forgetIfChanged_80 : decode cX0_forgetIfChanged 80 = .ok (.goto (-21), 3) := by decide +kernel
theorem dX0_forgetIfChanged_83 : decode cX0_forgetIfChanged 83 = .ok (.return_, 1) := by decide +kernel
theorem dX0_fewest_0 : decode cX0_fewest 0 = .ok (.iload_n 1, 1) := by decide +kernel
theorem dX0_fewest_1 : decode cX0_fewest 1 = .ok (.ifCond .lt 24, 3) := by decide +kernel
theorem dX0_fewest_4 : decode cX0_fewest 4 = .ok (.iload_n 1, 1) := by decide +kernel
theorem dX0_fewest_5 : decode cX0_fewest 5 = .ok (.sipush 4096, 3) := by decide +kernel
theorem dX0_fewest_8 : decode cX0_fewest 8 = .ok (.if_icmp .ge 17, 3) := by decide +kernel
theorem dX0_fewest_11 : decode cX0_fewest 11 = .ok (.iload_n 2, 1) := by decide +kernel
theorem dX0_fewest_12 : decode cX0_fewest 12 = .ok (.bipush 12, 2) := by decide +kernel
theorem dX0_fewest_14 : decode cX0_fewest 14 = .ok (.if_icmp .gt 11, 3) := by decide +kernel
theorem dX0_fewest_17 : decode cX0_fewest 17 = .ok (.iload_n 1, 1) := by decide +kernel
theorem dX0_fewest_18 : decode cX0_fewest 18 = .ok (.invokestatic 39, 3) := by decide +kernel
theorem dX0_fewest_21 : decode cX0_fewest 21 = .ok (.iconst 2, 1) := by decide +kernel
theorem dX0_fewest_22 : decode cX0_fewest 22 = .ok (.if_icmp .ge 5, 3) := by decide +kernel
theorem dX0_fewest_25 : decode cX0_fewest 25 = .ok (.iconst 0, 1) := by decide +kernel
theorem dX0_fewest_26 : decode cX0_fewest 26 = .ok (.ireturn, 1) := by decide +kernel
theorem dX0_fewest_27 : decode cX0_fewest 27 = .ok (.aload_n 0, 1) := by decide +kernel
theorem dX0_fewest_28 : decode cX0_fewest 28 = .ok (.getfield 9, 3) := by decide +kernel
theorem dX0_fewest_31 : decode cX0_fewest 31 = .ok (.iload_n 1, 1) := by decide +kernel
theorem dX0_fewest_32 : decode cX0_fewest 32 = .ok (.baload, 1) := by decide +kernel
theorem dX0_fewest_33 : decode cX0_fewest 33 = .ok (.ifCond .ne 59, 3) := by decide +kernel
theorem dX0_fewest_36 : decode cX0_fewest 36 = .ok (.aload_n 0, 1) := by decide +kernel
theorem dX0_fewest_37 : decode cX0_fewest 37 = .ok (.iload_n 1, 1) := by decide +kernel
theorem dX0_fewest_38 : decode cX0_fewest 38 = .ok (.invokevirtual 45, 3) := by decide +kernel
theorem dX0_fewest_41 : decode cX0_fewest 41 = .ok (.istore_n 3, 1) := by decide +kernel
theorem dX0_fewest_42 : decode cX0_fewest 42 = .ok (.bipush 12, 2) := by decide +kernel
theorem dX0_fewest_44 : decode cX0_fewest 44 = .ok (.istore 4, 2) := by decide +kernel
theorem dX0_fewest_46 : decode cX0_fewest 46 = .ok (.iconst 0, 1) := by decide +kernel
theorem dX0_fewest_47 : decode cX0_fewest 47 = .ok (.istore 5, 2) := by decide +kernel
theorem dX0_fewest_49 : decode cX0_fewest 49 = .ok (.iload 5, 2) := by decide +kernel
theorem dX0_fewest_51 : decode cX0_fewest 51 = .ok (.bipush 12, 2) := by decide +kernel
theorem dX0_fewest_53 : decode cX0_fewest 53 = .ok (.if_icmp .ge 30, 3) := by decide +kernel
theorem dX0_fewest_56 : decode cX0_fewest 56 = .ok (.iload 4, 2) := by decide +kernel
theorem dX0_fewest_58 : decode cX0_fewest 58 = .ok (.iload_n 3, 1) := by decide +kernel
theorem dX0_fewest_59 : decode cX0_fewest 59 = .ok (.if_icmp .le 24, 3) := by decide +kernel
theorem dX0_fewest_62 : decode cX0_fewest 62 = .ok (.iload 4, 2) := by decide +kernel
theorem dX0_fewest_64 : decode cX0_fewest 64 = .ok (.aload_n 0, 1) := by decide +kernel
theorem dX0_fewest_65 : decode cX0_fewest 65 = .ok (.iload_n 1, 1) := by decide +kernel
theorem dX0_fewest_66 : decode cX0_fewest 66 = .ok (.iload 5, 2) := by decide +kernel
theorem dX0_fewest_68 : decode cX0_fewest 68 = .ok (.iload_n 2, 1) := by decide +kernel
theorem dX0_fewest_69 : decode cX0_fewest 69 = .ok (.invokevirtual 30, 3) := by decide +kernel
theorem dX0_fewest_72 : decode cX0_fewest 72 = .ok (.invokestatic 48, 3) := by decide +kernel
theorem dX0_fewest_75 : decode cX0_fewest 75 = .ok (.istore 4, 2) := by decide +kernel
theorem dX0_fewest_77 : decode cX0_fewest 77 = .ok (.iinc 5 1, 3) := by decide +kernel
theorem dX0_fewest_80 : decode cX0_fewest 80 = .ok (.goto (-31), 3) := by decide +kernel
theorem dX0_fewest_83 : decode cX0_fewest 83 = .ok (.aload_n 0, 1) := by decide +kernel
theorem dX0_fewest_84 : decode cX0_fewest 84 = .ok (.getfield 9, 3) := by decide +kernel
theorem dX0_fewest_87 : decode cX0_fewest 87 = .ok (.iload_n 1, 1) := by decide +kernel
theorem dX0_fewest_88 : decode cX0_fewest 88 = .ok (.iload 4, 2) := by decide +kernel
theorem dX0_fewest_90 : decode cX0_fewest 90 = .ok (.i2b, 1) := by decide +kernel
theorem dX0_fewest_91 : decode cX0_fewest 91 = .ok (.bastore, 1) := by decide +kernel
theorem dX0_fewest_92 : decode cX0_fewest 92 = .ok (.aload_n 0, 1) := by decide +kernel
theorem dX0_fewest_93 : decode cX0_fewest 93 = .ok (.getfield 9, 3) := by decide +kernel
theorem dX0_fewest_96 : decode cX0_fewest 96 = .ok (.iload_n 1, 1) := by decide +kernel
theorem dX0_fewest_97 : decode cX0_fewest 97 = .ok (.baload, 1) := by decide +kernel
theorem dX0_fewest_98 : decode cX0_fewest 98 = .ok (.ireturn, 1) := by decide +kernel
theorem dX0_atLeast_0 : decode cX0_atLeast 0 = .ok (.iload_n 1, 1) := by decide +kernel
theorem dX0_atLeast_1 : decode cX0_atLeast 1 = .ok (.invokestatic 39, 3) := by decide +kernel
theorem dX0_atLeast_4 : decode cX0_atLeast 4 = .ok (.istore_n 2, 1) := by decide +kernel
theorem dX0_atLeast_5 : decode cX0_atLeast 5 = .ok (.iconst 1, 1) := by decide +kernel
theorem dX0_atLeast_6 : decode cX0_atLeast 6 = .ok (.istore_n 3, 1) := by decide +kernel
theorem dX0_atLeast_7 : decode cX0_atLeast 7 = .ok (.iconst 0, 1) := by decide +kernel
theorem dX0_atLeast_8 : decode cX0_atLeast 8 = .ok (.istore 4, 2) := by decide +kernel
theorem dX0_atLeast_10 : decode cX0_atLeast 10 = .ok (.iload 4, 2) := by decide +kernel
theorem dX0_atLeast_12 : decode cX0_atLeast 12 = .ok (.bipush 12, 2) := by decide +kernel
theorem dX0_atLeast_14 : decode cX0_atLeast 14 = .ok (.if_icmp .ge 39, 3) := by decide +kernel
theorem dX0_atLeast_17 : decode cX0_atLeast 17 = .ok (.iload_n 1, 1) := by decide +kernel
theorem dX0_atLeast_18 : decode cX0_atLeast 18 = .ok (.aload_n 0, 1) := by decide +kernel
theorem dX0_atLeast_19 : decode cX0_atLeast 19 = .ok (.getfield 19, 3) := by decide +kernel
theorem dX0_atLeast_22 : decode cX0_atLeast 22 = .ok (.iload 4, 2) := by decide +kernel
theorem dX0_atLeast_24 : decode cX0_atLeast 24 = .ok (.invokevirtual 53, 3) := by decide +kernel
theorem dX0_atLeast_27 : decode cX0_atLeast 27 = .ok (.iand, 1) := by decide +kernel
theorem dX0_atLeast_28 : decode cX0_atLeast 28 = .ok (.invokestatic 39, 3) := by decide +kernel
theorem dX0_atLeast_31 : decode cX0_atLeast 31 = .ok (.istore 5, 2) := by decide +kernel
theorem dX0_atLeast_33 : decode cX0_atLeast 33 = .ok (.iload_n 3, 1) := by decide +kernel
theorem dX0_atLeast_34 : decode cX0_atLeast 34 = .ok (.iload 5, 2) := by decide +kernel
theorem dX0_atLeast_36 : decode cX0_atLeast 36 = .ok (.iload_n 2, 1) := by decide +kernel
theorem dX0_atLeast_37 : decode cX0_atLeast 37 = .ok (.iload 5, 2) := by decide +kernel
theorem dX0_atLeast_39 : decode cX0_atLeast 39 = .ok (.isub, 1) := by decide +kernel
theorem dX0_atLeast_40 : decode cX0_atLeast 40 = .ok (.invokestatic 48, 3) := by decide +kernel
theorem dX0_atLeast_43 : decode cX0_atLeast 43 = .ok (.invokestatic 56, 3) := by decide +kernel
theorem dX0_atLeast_46 : decode cX0_atLeast 46 = .ok (.istore_n 3, 1) := by decide +kernel
theorem dX0_atLeast_47 : decode cX0_atLeast 47 = .ok (.iinc 4 1, 3) := by decide +kernel
theorem dX0_atLeast_50 : decode cX0_atLeast 50 = .ok (.goto (-40), 3) := by decide +kernel
theorem dX0_atLeast_53 : decode cX0_atLeast 53 = .ok (.iconst 0, 1) := by decide +kernel
theorem dX0_atLeast_54 : decode cX0_atLeast 54 = .ok (.istore 4, 2) := by decide +kernel
theorem dX0_atLeast_56 : decode cX0_atLeast 56 = .ok (.iload 4, 2) := by decide +kernel
theorem dX0_atLeast_58 : decode cX0_atLeast 58 = .ok (.bipush 12, 2) := by decide +kernel
theorem dX0_atLeast_60 : decode cX0_atLeast 60 = .ok (.if_icmp .ge 17, 3) := by decide +kernel
theorem dX0_atLeast_63 : decode cX0_atLeast 63 = .ok (.iconst 1, 1) := by decide +kernel
theorem dX0_atLeast_64 : decode cX0_atLeast 64 = .ok (.iload 4, 2) := by decide +kernel
theorem dX0_atLeast_66 : decode cX0_atLeast 66 = .ok (.ishl, 1) := by decide +kernel
theorem dX0_atLeast_67 : decode cX0_atLeast 67 = .ok (.iload_n 2, 1) := by decide +kernel
theorem dX0_atLeast_68 : decode cX0_atLeast 68 = .ok (.if_icmp .ge 9, 3) := by decide +kernel
theorem dX0_atLeast_71 : decode cX0_atLeast 71 = .ok (.iinc 4 1, 3) := by decide +kernel
theorem dX0_atLeast_74 : decode cX0_atLeast 74 = .ok (.goto (-18), 3) := by decide +kernel
theorem dX0_atLeast_77 : decode cX0_atLeast 77 = .ok (.iload 4, 2) := by decide +kernel
theorem dX0_atLeast_79 : decode cX0_atLeast 79 = .ok (.iload_n 2, 1) := by decide +kernel
theorem dX0_atLeast_80 : decode cX0_atLeast 80 = .ok (.iconst 2, 1) := by decide +kernel
theorem dX0_atLeast_81 : decode cX0_atLeast 81 = .ok (.isub, 1) := by decide +kernel
theorem dX0_atLeast_82 : decode cX0_atLeast 82 = .ok (.iload_n 3, 1) := by decide +kernel
theorem dX0_atLeast_83 : decode cX0_atLeast 83 = .ok (.iadd, 1) := by decide +kernel
theorem dX0_atLeast_84 : decode cX0_atLeast 84 = .ok (.iload_n 3, 1) := by decide +kernel
theorem dX0_atLeast_85 : decode cX0_atLeast 85 = .ok (.idiv, 1) := by decide +kernel
theorem dX0_atLeast_86 : decode cX0_atLeast 86 = .ok (.invokestatic 56, 3) := by decide +kernel
theorem dX0_atLeast_89 : decode cX0_atLeast 89 = .ok (.ireturn, 1) := by decide +kernel
theorem dX0_askingFirst_0 : decode cX0_askingFirst 0 = .ok (.iload_n 1, 1) := by decide +kernel
theorem dX0_askingFirst_1 : decode cX0_askingFirst 1 = .ok (.aload_n 0, 1) := by decide +kernel
theorem dX0_askingFirst_2 : decode cX0_askingFirst 2 = .ok (.getfield 19, 3) := by decide +kernel
theorem dX0_askingFirst_5 : decode cX0_askingFirst 5 = .ok (.iload_n 2, 1) := by decide +kernel
theorem dX0_askingFirst_6 : decode cX0_askingFirst 6 = .ok (.invokevirtual 53, 3) := by decide +kernel
theorem dX0_askingFirst_9 : decode cX0_askingFirst 9 = .ok (.iand, 1) := by decide +kernel
theorem dX0_askingFirst_10 : decode cX0_askingFirst 10 = .ok (.istore 4, 2) := by decide +kernel
theorem dX0_askingFirst_12 : decode cX0_askingFirst 12 = .ok (.iload 4, 2) := by decide +kernel
theorem dX0_askingFirst_14 : decode cX0_askingFirst 14 = .ok (.ifCond .eq 9, 3) := by decide +kernel
theorem dX0_askingFirst_17 : decode cX0_askingFirst 17 = .ok (.iload 4, 2) := by decide +kernel
theorem dX0_askingFirst_19 : decode cX0_askingFirst 19 = .ok (.iload_n 1, 1) := by decide +kernel
theorem dX0_askingFirst_20 : decode cX0_askingFirst 20 = .ok (.if_icmp .ne 6, 3) := by decide +kernel
theorem dX0_askingFirst_23 : decode cX0_askingFirst 23 = .ok (.bipush 12, 2) := by decide +kernel
theorem dX0_askingFirst_25 : decode cX0_askingFirst 25 = .ok (.ireturn, 1) := by decide +kernel
theorem dX0_askingFirst_26 : decode cX0_askingFirst 26 = .ok (.iconst 1, 1) := by decide +kernel
theorem dX0_askingFirst_27 : decode cX0_askingFirst 27 = .ok (.aload_n 0, 1) := by decide +kernel
theorem dX0_askingFirst_28 : decode cX0_askingFirst 28 = .ok (.iload 4, 2) := by decide +kernel
theorem dX0_askingFirst_30 : decode cX0_askingFirst 30 = .ok (.iload_n 3, 1) := by decide +kernel
theorem dX0_askingFirst_31 : decode cX0_askingFirst 31 = .ok (.iconst 1, 1) := by decide +kernel
theorem dX0_askingFirst_32 : decode cX0_askingFirst 32 = .ok (.iadd, 1) := by decide +kernel
theorem dX0_askingFirst_33 : decode cX0_askingFirst 33 = .ok (.invokevirtual 26, 3) := by decide +kernel
theorem dX0_askingFirst_36 : decode cX0_askingFirst 36 = .ok (.aload_n 0, 1) := by decide +kernel
theorem dX0_askingFirst_37 : decode cX0_askingFirst 37 = .ok (.iload_n 1, 1) := by decide +kernel
theorem dX0_askingFirst_38 : decode cX0_askingFirst 38 = .ok (.iload 4, 2) := by decide +kernel
theorem dX0_askingFirst_40 : decode cX0_askingFirst 40 = .ok (.iconst (-1), 1) := by decide +kernel
theorem dX0_askingFirst_41 : decode cX0_askingFirst 41 = .ok (.ixor, 1) := by decide +kernel
theorem dX0_askingFirst_42 : decode cX0_askingFirst 42 = .ok (.iand, 1) := by decide +kernel
theorem dX0_askingFirst_43 : decode cX0_askingFirst 43 = .ok (.iload_n 3, 1) := by decide +kernel
theorem dX0_askingFirst_44 : decode cX0_askingFirst 44 = .ok (.iconst 1, 1) := by decide +kernel
theorem dX0_askingFirst_45 : decode cX0_askingFirst 45 = .ok (.iadd, 1) := by decide +kernel
theorem dX0_askingFirst_46 : decode cX0_askingFirst 46 = .ok (.invokevirtual 26, 3) := by decide +kernel
theorem dX0_askingFirst_49 : decode cX0_askingFirst 49 = .ok (.invokestatic 56, 3) := by decide +kernel
theorem dX0_askingFirst_52 : decode cX0_askingFirst 52 = .ok (.iadd, 1) := by decide +kernel
theorem dX0_askingFirst_53 : decode cX0_askingFirst 53 = .ok (.ireturn, 1) := by decide +kernel
theorem dX1_init_0 : decode cX1_init 0 = .ok (.aload_n 0, 1) := by decide +kernel
theorem dX1_init_1 : decode cX1_init 1 = .ok (.invokespecial 3, 3) := by decide +kernel
theorem dX1_init_4 : decode cX1_init 4 = .ok (.aload_n 0, 1) := by decide +kernel
theorem dX1_init_5 : decode cX1_init 5 = .ok (.new 9, 3) := by decide +kernel
theorem dX1_init_8 : decode cX1_init 8 = .ok (.dup, 1) := by decide +kernel
theorem dX1_init_9 : decode cX1_init 9 = .ok (.invokespecial 11, 3) := by decide +kernel
theorem dX1_init_12 : decode cX1_init 12 = .ok (.putfield 12, 3) := by decide +kernel
theorem dX1_init_15 : decode cX1_init 15 = .ok (.aload_n 0, 1) := by decide +kernel
theorem dX1_init_16 : decode cX1_init 16 = .ok (.new 18, 3) := by decide +kernel
theorem dX1_init_19 : decode cX1_init 19 = .ok (.dup, 1) := by decide +kernel
theorem dX1_init_20 : decode cX1_init 20 = .ok (.invokespecial 20, 3) := by decide +kernel
theorem dX1_init_23 : decode cX1_init 23 = .ok (.putfield 21, 3) := by decide +kernel
theorem dX1_init_26 : decode cX1_init 26 = .ok (.aload_n 0, 1) := by decide +kernel
theorem dX1_init_27 : decode cX1_init 27 = .ok (.bipush 30, 2) := by decide +kernel
theorem dX1_init_29 : decode cX1_init 29 = .ok (.anewarray 18, 3) := by decide +kernel
theorem dX1_init_32 : decode cX1_init 32 = .ok (.putfield 25, 3) := by decide +kernel
theorem dX1_init_35 : decode cX1_init 35 = .ok (.aload_n 0, 1) := by decide +kernel
theorem dX1_init_36 : decode cX1_init 36 = .ok (.iconst (-1), 1) := by decide +kernel
theorem dX1_init_37 : decode cX1_init 37 = .ok (.putfield 29, 3) := by decide +kernel
theorem dX1_init_40 : decode cX1_init 40 = .ok (.aload_n 0, 1) := by decide +kernel
theorem dX1_init_41 : decode cX1_init 41 = .ok (.iconst 5, 1) := by decide +kernel
theorem dX1_init_42 : decode cX1_init 42 = .ok (.newarray .int, 2) := by decide +kernel
theorem dX1_init_44 : decode cX1_init 44 = .ok (.putfield 33, 3) := by decide +kernel
theorem dX1_init_47 : decode cX1_init 47 = .ok (.aload_n 0, 1) := by decide +kernel
theorem dX1_init_48 : decode cX1_init 48 = .ok (.iconst 5, 1) := by decide +kernel
theorem dX1_init_49 : decode cX1_init 49 = .ok (.newarray .int, 2) := by decide +kernel
theorem dX1_init_51 : decode cX1_init 51 = .ok (.putfield 37, 3) := by decide +kernel
theorem dX1_init_54 : decode cX1_init 54 = .ok (.aload_n 0, 1) := by decide +kernel
theorem dX1_init_55 : decode cX1_init 55 = .ok (.iconst 5, 1) := by decide +kernel
theorem dX1_init_56 : decode cX1_init 56 = .ok (.newarray .int, 2) := by decide +kernel
theorem dX1_init_58 : decode cX1_init 58 = .ok (.putfield 40, 3) := by decide +kernel
theorem dX1_init_61 : decode cX1_init 61 = .ok (.aload_n 0, 1) := by decide +kernel
theorem dX1_init_62 : decode cX1_init 62 = .ok (.bipush 8, 2) := by decide +kernel
theorem dX1_init_64 : decode cX1_init 64 = .ok (.newarray .int, 2) := by decide +kernel
theorem dX1_init_66 : decode cX1_init 66 = .ok (.putfield 43, 3) := by decide +kernel
theorem dX1_init_69 : decode cX1_init 69 = .ok (.aload_n 0, 1) := by decide +kernel
theorem dX1_init_70 : decode cX1_init 70 = .ok (.bipush 8, 2) := by decide +kernel
theorem dX1_init_72 : decode cX1_init 72 = .ok (.newarray .int, 2) := by decide +kernel
theorem dX1_init_74 : decode cX1_init 74 = .ok (.putfield 46, 3) := by decide +kernel
theorem dX1_init_77 : decode cX1_init 77 = .ok (.iconst 0, 1) := by decide +kernel
theorem dX1_init_78 : decode cX1_init 78 = .ok (.istore_n 1, 1) := by decide +kernel
theorem dX1_init_79 : decode cX1_init 79 = .ok (.iload_n 1, 1) := by decide +kernel
theorem dX1_init_80 : decode cX1_init 80 = .ok (.bipush 30, 2) := by decide +kernel
theorem dX1_init_82 : decode cX1_init 82 = .ok (.if_icmp .ge 22, 3) := by decide +kernel
theorem dX1_init_85 : decode cX1_init 85 = .ok (.aload_n 0, 1) := by decide +kernel
theorem dX1_init_86 : decode cX1_init 86 = .ok (.getfield 25, 3) := by decide +kernel
theorem dX1_init_89 : decode cX1_init 89 = .ok (.iload_n 1, 1) := by decide +kernel
theorem dX1_init_90 : decode cX1_init 90 = .ok (.new 18, 3) := by decide +kernel
theorem dX1_init_93 : decode cX1_init 93 = .ok (.dup, 1) := by decide +kernel
theorem dX1_init_94 : decode cX1_init 94 = .ok (.invokespecial 20, 3) := by decide +kernel
theorem dX1_init_97 : decode cX1_init 97 = .ok (.aastore, 1) := by decide +kernel
theorem dX1_init_98 : decode cX1_init 98 = .ok (.iinc 1 1, 3) := by decide +kernel
theorem dX1_init_101 : decode cX1_init 101 = .ok (.goto (-22), 3) := by decide +kernel
theorem dX1_init_104 : decode cX1_init 104 = .ok (.iconst 0, 1) := by decide +kernel
theorem dX1_init_105 : decode cX1_init 105 = .ok (.istore_n 1, 1) := by decide +kernel
theorem dX1_init_106 : decode cX1_init 106 = .ok (.iload_n 1, 1) := by decide +kernel
theorem dX1_init_107 : decode cX1_init 107 = .ok (.iconst 5, 1) := by decide +kernel
theorem dX1_init_108 : decode cX1_init 108 = .ok (.if_icmp .ge 24, 3) := by decide +kernel
theorem dX1_init_111 : decode cX1_init 111 = .ok (.aload_n 0, 1) := by decide +kernel
theorem dX1_init_112 : decode cX1_init 112 = .ok (.getfield 37, 3) := by decide +kernel
theorem dX1_init_115 : decode cX1_init 115 = .ok (.iload_n 1, 1) := by decide +kernel
theorem dX1_init_116 : decode cX1_init 116 = .ok (.iconst 5, 1) := by decide +kernel
theorem dX1_init_117 : decode cX1_init 117 = .ok (.iastore, 1) := by decide +kernel
theorem dX1_init_118 : decode cX1_init 118 = .ok (.aload_n 0, 1) := by decide +kernel
theorem dX1_init_119 : decode cX1_init 119 = .ok (.getfield 40, 3) := by decide +kernel
theorem dX1_init_122 : decode cX1_init 122 = .ok (.iload_n 1, 1) := by decide +kernel
theorem dX1_init_123 : decode cX1_init 123 = .ok (.bipush 10, 2) := by decide +kernel
theorem dX1_init_125 : decode cX1_init 125 = .ok (.iastore, 1) := by decide +kernel
theorem dX1_init_126 : decode cX1_init 126 = .ok (.iinc 1 1, 3) := by decide +kernel
theorem dX1_init_129 : decode cX1_init 129 = .ok (.goto (-23), 3) := by decide +kernel
theorem dX1_init_132 : decode cX1_init 132 = .ok (.return_, 1) := by decide +kernel
theorem dX1_copyFrom_0 : decode cX1_copyFrom 0 = .ok (.aload_n 0, 1) := by decide +kernel
theorem dX1_copyFrom_1 : decode cX1_copyFrom 1 = .ok (.getfield 12, 3) := by decide +kernel
theorem dX1_copyFrom_4 : decode cX1_copyFrom 4 = .ok (.aload_n 1, 1) := by decide +kernel
theorem dX1_copyFrom_5 : decode cX1_copyFrom 5 = .ok (.getfield 12, 3) := by decide +kernel
theorem dX1_copyFrom_8 : decode cX1_copyFrom 8 = .ok (.invokevirtual 49, 3) := by decide +kernel
theorem dX1_copyFrom_11 : decode cX1_copyFrom 11 = .ok (.aload_n 0, 1) := by decide +kernel
theorem dX1_copyFrom_12 : decode cX1_copyFrom 12 = .ok (.getfield 21, 3) := by decide +kernel
theorem dX1_copyFrom_15 : decode cX1_copyFrom 15 = .ok (.aload_n 1, 1) := by decide +kernel
theorem dX1_copyFrom_16 : decode cX1_copyFrom 16 = .ok (.getfield 21, 3) := by decide +kernel
theorem dX1_copyFrom_19 : decode cX1_copyFrom 19 = .ok (.invokevirtual 53, 3) := by decide +kernel
theorem dX1_copyFrom_22 : decode cX1_copyFrom 22 = .ok (.iconst 0, 1) := by decide +kernel
theorem dX1_copyFrom_23 : decode cX1_copyFrom 23 = .ok (.istore_n 2, 1) := by decide +kernel
theorem dX1_copyFrom_24 : decode cX1_copyFrom 24 = .ok (.iload_n 2, 1) := by decide +kernel
theorem dX1_copyFrom_25 : decode cX1_copyFrom 25 = .ok (.bipush 30, 2) := by decide +kernel
theorem dX1_copyFrom_27 : decode cX1_copyFrom 27 = .ok (.if_icmp .ge 32, 3) := by decide +kernel
theorem dX1_copyFrom_30 : decode cX1_copyFrom 30 = .ok (.iload_n 2, 1) := by decide +kernel
theorem dX1_copyFrom_31 : decode cX1_copyFrom 31 = .ok (.aload_n 1, 1) := by decide +kernel
theorem dX1_copyFrom_32 : decode cX1_copyFrom 32 = .ok (.getfield 56, 3) := by decide +kernel
theorem dX1_copyFrom_35 : decode cX1_copyFrom 35 = .ok (.if_icmp .ge 24, 3) := by decide +kernel
theorem dX1_copyFrom_38 : decode cX1_copyFrom 38 = .ok (.aload_n 0, 1) := by decide +kernel
theorem dX1_copyFrom_39 : decode cX1_copyFrom 39 = .ok (.getfield 25, 3) := by decide +kernel
theorem dX1_copyFrom_42 : decode cX1_copyFrom 42 = .ok (.iload_n 2, 1) := by decide +kernel
theorem dX1_copyFrom_43 : decode cX1_copyFrom 43 = .ok (.aaload, 1) := by decide +kernel
theorem dX1_copyFrom_44 : decode cX1_copyFrom 44 = .ok (.aload_n 1, 1) := by decide +kernel
theorem dX1_copyFrom_45 : decode cX1_copyFrom 45 = .ok (.getfield 25, 3) := by decide +kernel
theorem dX1_copyFrom_48 : decode cX1_copyFrom 48 = .ok (.iload_n 2, 1) := by decide +kernel
theorem dX1_copyFrom_49 : decode cX1_copyFrom 49 = .ok (.aaload, 1) := by decide +kernel
theorem dX1_copyFrom_50 : decode cX1_copyFrom 50 = .ok (.invokevirtual 53, 3) := by decide +kernel
theorem dX1_copyFrom_53 : decode cX1_copyFrom 53 = .ok (.iinc 2 1, 3) := by decide +kernel
theorem dX1_copyFrom_56 : decode cX1_copyFrom 56 = .ok (.goto (-32), 3) := by decide +kernel
theorem dX1_copyFrom_59 : decode cX1_copyFrom 59 = .ok (.aload_n 0, 1) := by decide +kernel
theorem dX1_copyFrom_60 : decode cX1_copyFrom 60 = .ok (.aload_n 1, 1) := by decide +kernel
theorem dX1_copyFrom_61 : decode cX1_copyFrom 61 = .ok (.getfield 56, 3) := by decide +kernel
theorem dX1_copyFrom_64 : decode cX1_copyFrom 64 = .ok (.putfield 56, 3) := by decide +kernel
theorem dX1_copyFrom_67 : decode cX1_copyFrom 67 = .ok (.aload_n 0, 1) := by decide +kernel
theorem dX1_copyFrom_68 : decode cX1_copyFrom 68 = .ok (.aload_n 1, 1) := by decide +kernel
theorem dX1_copyFrom_69 : decode cX1_copyFrom 69 = .ok (.getfield 59, 3) := by decide +kernel
theorem dX1_copyFrom_72 : decode cX1_copyFrom 72 = .ok (.putfield 59, 3) := by decide +kernel
theorem dX1_copyFrom_75 : decode cX1_copyFrom 75 = .ok (.aload_n 0, 1) := by decide +kernel
theorem dX1_copyFrom_76 : decode cX1_copyFrom 76 = .ok (.aload_n 1, 1) := by decide +kernel
theorem dX1_copyFrom_77 : decode cX1_copyFrom 77 = .ok (.getfield 29, 3) := by decide +kernel
theorem dX1_copyFrom_80 : decode cX1_copyFrom 80 = .ok (.putfield 29, 3) := by decide +kernel
theorem dX1_copyFrom_83 : decode cX1_copyFrom 83 = .ok (.aload_n 1, 1) := by decide +kernel
theorem dX1_copyFrom_84 : decode cX1_copyFrom 84 = .ok (.getfield 33, 3) := by decide +kernel
theorem dX1_copyFrom_87 : decode cX1_copyFrom 87 = .ok (.iconst 0, 1) := by decide +kernel
theorem dX1_copyFrom_88 : decode cX1_copyFrom 88 = .ok (.aload_n 0, 1) := by decide +kernel
theorem dX1_copyFrom_89 : decode cX1_copyFrom 89 = .ok (.getfield 33, 3) := by decide +kernel
theorem dX1_copyFrom_92 : decode cX1_copyFrom 92 = .ok (.iconst 0, 1) := by decide +kernel
theorem dX1_copyFrom_93 : decode cX1_copyFrom 93 = .ok (.iconst 5, 1) := by decide +kernel
theorem dX1_copyFrom_94 : decode cX1_copyFrom 94 = .ok (.invokestatic 62, 3) := by decide +kernel
theorem dX1_copyFrom_97 : decode cX1_copyFrom 97 = .ok (.aload_n 1, 1) := by decide +kernel
theorem dX1_copyFrom_98 : decode cX1_copyFrom 98 = .ok (.getfield 37, 3) := by decide +kernel
theorem dX1_copyFrom_101 : decode cX1_copyFrom 101 = .ok (.iconst 0, 1) := by decide +kernel
theorem dX1_copyFrom_102 : decode cX1_copyFrom 102 = .ok (.aload_n 0, 1) := by decide +kernel
theorem dX1_copyFrom_103 : decode cX1_copyFrom 103 = .ok (.getfield 37, 3) := by decide +kernel
theorem dX1_copyFrom_106 : decode cX1_copyFrom 106 = .ok (.iconst 0, 1) := by decide +kernel
theorem dX1_copyFrom_107 : decode cX1_copyFrom 107 = .ok (.iconst 5, 1) := by decide +kernel
theorem dX1_copyFrom_108 : decode cX1_copyFrom 108 = .ok (.invokestatic 62, 3) := by decide +kernel
theorem dX1_copyFrom_111 : decode cX1_copyFrom 111 = .ok (.aload_n 1, 1) := by decide +kernel
theorem dX1_copyFrom_112 : decode cX1_copyFrom 112 = .ok (.getfield 40, 3) := by decide +kernel
theorem dX1_copyFrom_115 : decode cX1_copyFrom 115 = .ok (.iconst 0, 1) := by decide +kernel
theorem dX1_copyFrom_116 : decode cX1_copyFrom 116 = .ok (.aload_n 0, 1) := by decide +kernel
theorem dX1_copyFrom_117 : decode cX1_copyFrom 117 = .ok (.getfield 40, 3) := by decide +kernel
theorem dX1_copyFrom_120 : decode cX1_copyFrom 120 = .ok (.iconst 0, 1) := by decide +kernel
theorem dX1_copyFrom_121 : decode cX1_copyFrom 121 = .ok (.iconst 5, 1) := by decide +kernel
theorem dX1_copyFrom_122 : decode cX1_copyFrom 122 = .ok (.invokestatic 62, 3) := by decide +kernel
theorem dX1_copyFrom_125 : decode cX1_copyFrom 125 = .ok (.aload_n 1, 1) := by decide +kernel
theorem dX1_copyFrom_126 : decode cX1_copyFrom 126 = .ok (.getfield 43, 3) := by decide +kernel
theorem dX1_copyFrom_129 : decode cX1_copyFrom 129 = .ok (.iconst 0, 1) := by decide +kernel
theorem dX1_copyFrom_130 : decode cX1_copyFrom 130 = .ok (.aload_n 0, 1) := by decide +kernel
theorem dX1_copyFrom_131 : decode cX1_copyFrom 131 = .ok (.getfield 43, 3) := by decide +kernel
theorem dX1_copyFrom_134 : decode cX1_copyFrom 134 = .ok (.iconst 0, 1) := by decide +kernel
theorem dX1_copyFrom_135 : decode cX1_copyFrom 135 = .ok (.bipush 8, 2) := by decide +kernel
theorem dX1_copyFrom_137 : decode cX1_copyFrom 137 = .ok (.invokestatic 62, 3) := by decide +kernel
theorem dX1_copyFrom_140 : decode cX1_copyFrom 140 = .ok (.aload_n 1, 1) := by decide +kernel
theorem dX1_copyFrom_141 : decode cX1_copyFrom 141 = .ok (.getfield 46, 3) := by decide +kernel
theorem dX1_copyFrom_144 : decode cX1_copyFrom 144 = .ok (.iconst 0, 1) := by decide +kernel
theorem dX1_copyFrom_145 : decode cX1_copyFrom 145 = .ok (.aload_n 0, 1) := by decide +kernel
theorem dX1_copyFrom_146 : decode cX1_copyFrom 146 = .ok (.getfield 46, 3) := by decide +kernel
theorem dX1_copyFrom_149 : decode cX1_copyFrom 149 = .ok (.iconst 0, 1) := by decide +kernel
theorem dX1_copyFrom_150 : decode cX1_copyFrom 150 = .ok (.bipush 8, 2) := by decide +kernel
theorem dX1_copyFrom_152 : decode cX1_copyFrom 152 = .ok (.invokestatic 62, 3) := by decide +kernel
theorem dX1_copyFrom_155 : decode cX1_copyFrom 155 = .ok (.aload_n 0, 1) := by decide +kernel
theorem dX1_copyFrom_156 : decode cX1_copyFrom 156 = .ok (.aload_n 1, 1) := by decide +kernel
theorem dX1_copyFrom_157 : decode cX1_copyFrom 157 = .ok (.getfield 68, 3) := by decide +kernel
theorem dX1_copyFrom_160 : decode cX1_copyFrom 160 = .ok (.putfield 68, 3) := by decide +kernel
theorem dX1_copyFrom_163 : decode cX1_copyFrom 163 = .ok (.return_, 1) := by decide +kernel
theorem dX1_admit_0 : decode cX1_admit 0 = .ok (.aload_n 0, 1) := by decide +kernel
theorem dX1_admit_1 : decode cX1_admit 1 = .ok (.getfield 21, 3) := by decide +kernel
theorem dX1_admit_4 : decode cX1_admit 4 = .ok (.getfield 71, 3) := by decide +kernel
theorem dX1_admit_7 : decode cX1_admit 7 = .ok (.istore_n 3, 1) := by decide +kernel
theorem dX1_admit_8 : decode cX1_admit 8 = .ok (.iload_n 3, 1) := by decide +kernel
theorem dX1_admit_9 : decode cX1_admit 9 = .ok (.invokestatic 74, 3) := by decide +kernel
theorem dX1_admit_12 : decode cX1_admit 12 = .ok (.ifCond .ne 5, 3) := by decide +kernel
theorem dX1_admit_15 : decode cX1_admit 15 = .ok (.iconst (-1), 1) := by decide +kernel
theorem dX1_admit_16 : decode cX1_admit 16 = .ok (.ireturn, 1) := by decide +kernel
theorem dX1_admit_17 : decode cX1_admit 17 = .ok (.aload_n 0, 1) := by decide +kernel
theorem dX1_admit_18 : decode cX1_admit 18 = .ok (.getfield 21, 3) := by decide +kernel
theorem dX1_admit_21 : decode cX1_admit 21 = .ok (.iload_n 3, 1) := by decide +kernel
theorem dX1_admit_22 : decode cX1_admit 22 = .ok (.iload_n 1, 1) := by decide +kernel
theorem dX1_admit_23 : decode cX1_admit 23 = .ok (.iload_n 2, 1) := by decide +kernel
theorem dX1_admit_24 : decode cX1_admit 24 = .ok (.invokevirtual 78, 3) := by decide +kernel
theorem dX1_admit_27 : decode cX1_admit 27 = .ok (.aload_n 0, 1) := by decide +kernel
theorem dX1_admit_28 : decode cX1_admit 28 = .ok (.getfield 21, 3) := by decide +kernel
theorem dX1_admit_31 : decode cX1_admit 31 = .ok (.iload_n 3, 1) := by decide +kernel
theorem dX1_admit_32 : decode cX1_admit 32 = .ok (.iconst 1, 1) := by decide +kernel
theorem dX1_admit_33 : decode cX1_admit 33 = .ok (.iadd, 1) := by decide +kernel
theorem dX1_admit_34 : decode cX1_admit 34 = .ok (.putfield 71, 3) := by decide +kernel
theorem dX1_admit_37 : decode cX1_admit 37 = .ok (.iconst 0, 1) := by decide +kernel
theorem dX1_admit_38 : decode cX1_admit 38 = .ok (.istore 4, 2) := by decide +kernel
theorem dX1_admit_40 : decode cX1_admit 40 = .ok (.iload 4, 2) := by decide +kernel
theorem dX1_admit_42 : decode cX1_admit 42 = .ok (.bipush 30, 2) := by decide +kernel
theorem dX1_admit_44 : decode cX1_admit 44 = .ok (.if_icmp .ge 44, 3) := by decide +kernel
theorem dX1_admit_47 : decode cX1_admit 47 = .ok (.iload 4, 2) := by decide +kernel
theorem dX1_admit_49 : decode cX1_admit 49 = .ok (.aload_n 0, 1) := by decide +kernel
theorem dX1_admit_50 : decode cX1_admit 50 = .ok (.getfield 56, 3) := by decide +kernel
theorem dX1_admit_53 : decode cX1_admit 53 = .ok (.if_icmp .ge 35, 3) := by decide +kernel
theorem dX1_admit_56 : decode cX1_admit 56 = .ok (.aload_n 0, 1) := by decide +kernel
theorem dX1_admit_57 : decode cX1_admit 57 = .ok (.getfield 25, 3) := by decide +kernel
theorem dX1_admit_60 : decode cX1_admit 60 = .ok (.iload 4, 2) := by decide +kernel
theorem dX1_admit_62 : decode cX1_admit 62 = .ok (.aaload, 1) := by decide +kernel
theorem dX1_admit_63 : decode cX1_admit 63 = .ok (.iload_n 3, 1) := by decide +kernel
theorem dX1_admit_64 : decode cX1_admit 64 = .ok (.iload_n 1, 1) := by decide +kernel
theorem dX1_admit_65 : decode cX1_admit 65 = .ok (.iload_n 2, 1) := by decide +kernel
theorem dX1_admit_66 : decode cX1_admit 66 = .ok (.invokevirtual 78, 3) := by decide +kernel
theorem dX1_admit_69 : decode cX1_admit 69 = .ok (.aload_n 0, 1) := by decide +kernel
theorem dX1_admit_70 : decode cX1_admit 70 = .ok (.getfield 25, 3) := by decide +kernel
theorem dX1_admit_73 : decode cX1_admit 73 = .ok (.iload 4, 2) := by decide +kernel
theorem dX1_admit_75 : decode cX1_admit 75 = .ok (.aaload, 1) := by decide +kernel
theorem dX1_admit_76 : decode cX1_admit 76 = .ok (.iload_n 3, 1) := by decide +kernel
theorem dX1_admit_77 : decode cX1_admit 77 = .ok (.iconst 1, 1) := by decide +kernel
theorem dX1_admit_78 : decode cX1_admit 78 = .ok (.iadd, 1) := by decide +kernel
theorem dX1_admit_79 : decode cX1_admit 79 = .ok (.putfield 71, 3) := by decide +kernel
theorem dX1_admit_82 : decode cX1_admit 82 = .ok (.iinc 4 1, 3) := by decide +kernel
theorem dX1_admit_85 : decode cX1_admit 85 = .ok (.goto (-45), 3) := by decide +kernel
theorem dX1_admit_88 : decode cX1_admit 88 = .ok (.iload_n 3, 1) := by decide +kernel
theorem dX1_admit_89 : decode cX1_admit 89 = .ok (.ireturn, 1) := by decide +kernel
theorem dX1_keepStep_0 : decode cX1_keepStep 0 = .ok (.aload_n 0, 1) := by decide +kernel
theorem dX1_keepStep_1 : decode cX1_keepStep 1 = .ok (.getfield 56, 3) := by decide +kernel
theorem dX1_keepStep_4 : decode cX1_keepStep 4 = .ok (.bipush 30, 2) := by decide +kernel
theorem dX1_keepStep_6 : decode cX1_keepStep 6 = .ok (.if_icmp .lt 52, 3) := by decide +kernel
theorem dX1_keepStep_9 : decode cX1_keepStep 9 = .ok (.aload_n 0, 1) := by decide +kernel
theorem dX1_keepStep_10 : decode cX1_keepStep 10 = .ok (.getfield 25, 3) := by decide +kernel
theorem dX1_keepStep_13 : decode cX1_keepStep 13 = .ok (.iconst 0, 1) := by decide +kernel
theorem dX1_keepStep_14 : decode cX1_keepStep 14 = .ok (.aaload, 1) := by decide +kernel
theorem dX1_keepStep_15 : decode cX1_keepStep 15 = .ok (.astore_n 1, 1) := by decide +kernel
theorem dX1_keepStep_16 : decode cX1_keepStep 16 = .ok (.iconst 1, 1) := by decide +kernel
theorem dX1_keepStep_17 : decode cX1_keepStep 17 = .ok (.istore_n 2, 1) := by decide +kernel
theorem dX1_keepStep_18 : decode cX1_keepStep 18 = .ok (.iload_n 2, 1) := by decide +kernel
theorem dX1_keepStep_19 : decode cX1_keepStep 19 = .ok (.bipush 30, 2) := by decide +kernel
theorem dX1_keepStep_21 : decode cX1_keepStep 21 = .ok (.if_icmp .ge 23, 3) := by decide +kernel
theorem dX1_keepStep_24 : decode cX1_keepStep 24 = .ok (.aload_n 0, 1) := by decide +kernel
theorem dX1_keepStep_25 : decode cX1_keepStep 25 = .ok (.getfield 25, 3) := by decide +kernel
theorem dX1_keepStep_28 : decode cX1_keepStep 28 = .ok (.iload_n 2, 1) := by decide +kernel
theorem dX1_keepStep_29 : decode cX1_keepStep 29 = .ok (.iconst 1, 1) := by decide +kernel
theorem dX1_keepStep_30 : decode cX1_keepStep 30 = .ok (.isub, 1) := by decide +kernel
theorem dX1_keepStep_31 : decode cX1_keepStep 31 = .ok (.aload_n 0, 1) := by decide +kernel
theorem dX1_keepStep_32 : decode cX1_keepStep 32 = .ok (.getfield 25, 3) := by decide +kernel
theorem dX1_keepStep_35 : decode cX1_keepStep 35 = .ok (.iload_n 2, 1) := by decide +kernel
theorem dX1_keepStep_36 : decode cX1_keepStep 36 = .ok (.aaload, 1) := by decide +kernel
theorem dX1_keepStep_37 : decode cX1_keepStep 37 = .ok (.aastore, 1) := by decide +kernel
theorem dX1_keepStep_38 : decode cX1_keepStep 38 = .ok (.iinc 2 1, 3) := by decide +kernel
theorem dX1_keepStep_41 : decode cX1_keepStep 41 = .ok (.goto (-23), 3) := by decide +kernel
theorem dX1_keepStep_44 : decode cX1_keepStep 44 = .ok (.aload_n 0, 1) := by decide +kernel
theorem dX1_keepStep_45 : decode cX1_keepStep 45 = .ok (.getfield 25, 3) := by decide +kernel
theorem dX1_keepStep_48 : decode cX1_keepStep 48 = .ok (.bipush 29, 2) := by decide +kernel
theorem dX1_keepStep_50 : decode cX1_keepStep 50 = .ok (.aload_n 1, 1) := by decide +kernel
theorem dX1_keepStep_51 : decode cX1_keepStep 51 = .ok (.aastore, 1) := by decide +kernel
theorem dX1_keepStep_52 : decode cX1_keepStep 52 = .ok (.aload_n 0, 1) := by decide +kernel
theorem dX1_keepStep_53 : decode cX1_keepStep 53 = .ok (.bipush 29, 2) := by decide +kernel
theorem dX1_keepStep_55 : decode cX1_keepStep 55 = .ok (.putfield 56, 3) := by decide +kernel
theorem dX1_keepStep_58 : decode cX1_keepStep 58 = .ok (.aload_n 0, 1) := by decide +kernel
theorem dX1_keepStep_59 : decode cX1_keepStep 59 = .ok (.getfield 56, 3) := by decide +kernel
theorem dX1_keepStep_62 : decode cX1_keepStep 62 = .ok (.ifCond .lt 29, 3) := by decide +kernel
theorem dX1_keepStep_65 : decode cX1_keepStep 65 = .ok (.aload_n 0, 1) := by decide +kernel
theorem dX1_keepStep_66 : decode cX1_keepStep 66 = .ok (.getfield 25, 3) := by decide +kernel
theorem dX1_keepStep_69 : decode cX1_keepStep 69 = .ok (.aload_n 0, 1) := by decide +kernel
theorem dX1_keepStep_70 : decode cX1_keepStep 70 = .ok (.getfield 56, 3) := by decide +kernel
theorem dX1_keepStep_73 : decode cX1_keepStep 73 = .ok (.aaload, 1) := by decide +kernel
theorem dX1_keepStep_74 : decode cX1_keepStep 74 = .ok (.aload_n 0, 1) := by decide +kernel
theorem dX1_keepStep_75 : decode cX1_keepStep 75 = .ok (.getfield 21, 3) := by decide +kernel
theorem dX1_keepStep_78 : decode cX1_keepStep 78 = .ok (.invokevirtual 53, 3) := by decide +kernel
theorem dX1_keepStep_81 : decode cX1_keepStep 81 = .ok (.aload_n 0, 1) := by decide +kernel
theorem dX1_keepStep_82 : decode cX1_keepStep 82 = .ok (.dup, 1) := by decide +kernel
theorem dX1_keepStep_83 : decode cX1_keepStep 83 = .ok (.getfield 56, 3) := by decide +kernel
theorem dX1_keepStep_86 : decode cX1_keepStep 86 = .ok (.iconst 1, 1) := by decide +kernel
theorem dX1_keepStep_87 : decode cX1_keepStep 87 = .ok (.iadd, 1) := by decide +kernel
theorem dX1_keepStep_88 : decode cX1_keepStep 88 = .ok (.putfield 56, 3) := by decide +kernel
theorem dX1_keepStep_91 : decode cX1_keepStep 91 = .ok (.return_, 1) := by decide +kernel
theorem dX1_takeBack_0 : decode cX1_takeBack 0 = .ok (.aload_n 0, 1) := by decide +kernel
theorem dX1_takeBack_1 : decode cX1_takeBack 1 = .ok (.getfield 56, 3) := by decide +kernel
theorem dX1_takeBack_4 : decode cX1_takeBack 4 = .ok (.iconst 1, 1) := by decide +kernel
theorem dX1_takeBack_5 : decode cX1_takeBack 5 = .ok (.if_icmp .lt 12, 3) := by decide +kernel
theorem dX1_takeBack_8 : decode cX1_takeBack 8 = .ok (.aload_n 0, 1) := by decide +kernel
theorem dX1_takeBack_9 : decode cX1_takeBack 9 = .ok (.getfield 56, 3) := by decide +kernel
theorem dX1_takeBack_12 : decode cX1_takeBack 12 = .ok (.bipush 30, 2) := by decide +kernel
theorem dX1_takeBack_14 : decode cX1_takeBack 14 = .ok (.if_icmp .le 5, 3) := by decide +kernel
theorem dX1_takeBack_17 : decode cX1_takeBack 17 = .ok (.iconst 0, 1) := by decide +kernel
theorem dX1_takeBack_18 : decode cX1_takeBack 18 = .ok (.ireturn, 1) := by decide +kernel
theorem dX1_takeBack_19 : decode cX1_takeBack 19 = .ok (.aload_n 0, 1) := by decide +kernel
theorem dX1_takeBack_20 : decode cX1_takeBack 20 = .ok (.dup, 1) := by decide +kernel
theorem dX1_takeBack_21 : decode cX1_takeBack 21 = .ok (.getfield 56, 3) := by decide +kernel
theorem dX1_takeBack_24 : decode cX1_takeBack 24 = .ok (.iconst 1, 1) := by decide +kernel
theorem dX1_takeBack_25 : decode cX1_takeBack 25 = .ok (.isub, 1) := by decide +kernel
theorem dX1_takeBack_26 : decode cX1_takeBack 26 = .ok (.putfield 56, 3) := by decide +kernel
theorem dX1_takeBack_29 : decode cX1_takeBack 29 = .ok (.aload_n 0, 1) := by decide +kernel
theorem dX1_takeBack_30 : decode cX1_takeBack 30 = .ok (.getfield 21, 3) := by decide +kernel
theorem dX1_takeBack_33 : decode cX1_takeBack 33 = .ok (.aload_n 0, 1) := by decide +kernel
theorem dX1_takeBack_34 : decode cX1_takeBack 34 = .ok (.getfield 25, 3) := by decide +kernel
theorem dX1_takeBack_37 : decode cX1_takeBack 37 = .ok (.aload_n 0, 1) := by decide +kernel
theorem dX1_takeBack_38 : decode cX1_takeBack 38 = .ok (.getfield 56, 3) := by decide +kernel
theorem dX1_takeBack_41 : decode cX1_takeBack 41 = .ok (.aaload, 1) := by decide +kernel
theorem dX1_takeBack_42 : decode cX1_takeBack 42 = .ok (.invokevirtual 53, 3) := by decide +kernel
theorem dX1_takeBack_45 : decode cX1_takeBack 45 = .ok (.iconst 1, 1) := by decide +kernel
theorem dX1_takeBack_46 : decode cX1_takeBack 46 = .ok (.ireturn, 1) := by decide +kernel
theorem dX1_note_0 : decode cX1_note 0 = .ok (.aload_n 0, 1) := by decide +kernel
theorem dX1_note_1 : decode cX1_note 1 = .ok (.getfield 68, 3) := by decide +kernel
theorem dX1_note_4 : decode cX1_note 4 = .ok (.ifCond .lt 12, 3) := by decide +kernel
theorem dX1_note_7 : decode cX1_note 7 = .ok (.aload_n 0, 1) := by decide +kernel
theorem dX1_note_8 : decode cX1_note 8 = .ok (.getfield 68, 3) := by decide +kernel
theorem dX1_note_11 : decode cX1_note 11 = .ok (.bipush 8, 2) := by decide +kernel
theorem dX1_note_13 : decode cX1_note 13 = .ok (.if_icmp .lt 6, 3) := by decide +kernel
theorem dX1_note_16 : decode cX1_note 16 = .ok (.bipush (-2), 2) := by decide +kernel
theorem dX1_note_18 : decode cX1_note 18 = .ok (.ireturn, 1) := by decide +kernel
theorem dX1_note_19 : decode cX1_note 19 = .ok (.aload_n 0, 1) := by decide +kernel
theorem dX1_note_20 : decode cX1_note 20 = .ok (.getfield 43, 3) := by decide +kernel
theorem dX1_note_23 : decode cX1_note 23 = .ok (.aload_n 0, 1) := by decide +kernel
theorem dX1_note_24 : decode cX1_note 24 = .ok (.getfield 68, 3) := by decide +kernel
theorem dX1_note_27 : decode cX1_note 27 = .ok (.iload_n 1, 1) := by decide +kernel
theorem dX1_note_28 : decode cX1_note 28 = .ok (.iastore, 1) := by decide +kernel
theorem dX1_note_29 : decode cX1_note 29 = .ok (.aload_n 0, 1) := by decide +kernel
theorem dX1_note_30 : decode cX1_note 30 = .ok (.getfield 46, 3) := by decide +kernel
theorem dX1_note_33 : decode cX1_note 33 = .ok (.aload_n 0, 1) := by decide +kernel
theorem dX1_note_34 : decode cX1_note 34 = .ok (.getfield 68, 3) := by decide +kernel
theorem dX1_note_37 : decode cX1_note 37 = .ok (.iload_n 2, 1) := by decide +kernel
theorem dX1_note_38 : decode cX1_note 38 = .ok (.iastore, 1) := by decide +kernel
theorem dX1_note_39 : decode cX1_note 39 = .ok (.aload_n 0, 1) := by decide +kernel
theorem dX1_note_40 : decode cX1_note 40 = .ok (.dup, 1) := by decide +kernel
theorem dX1_note_41 : decode cX1_note 41 = .ok (.getfield 68, 3) := by decide +kernel
theorem dX1_note_44 : decode cX1_note 44 = .ok (.iconst 1, 1) := by decide +kernel
theorem dX1_note_45 : decode cX1_note 45 = .ok (.iadd, 1) := by decide +kernel
theorem dX1_note_46 : decode cX1_note 46 = .ok (.putfield 68, 3) := by decide +kernel
theorem dX1_note_49 : decode cX1_note 49 = .ok (.aload_n 0, 1) := by decide +kernel
theorem dX1_note_50 : decode cX1_note 50 = .ok (.getfield 68, 3) := by decide +kernel
theorem dX1_note_53 : decode cX1_note 53 = .ok (.ireturn, 1) := by decide +kernel
theorem dX2_init_0 : decode cX2_init 0 = .ok (.aload_n 0, 1) := by decide +kernel
theorem dX2_init_1 : decode cX2_init 1 = .ok (.invokespecial 3, 3) := by decide +kernel
theorem dX2_init_4 : decode cX2_init 4 = .ok (.aload_n 0, 1) := by decide +kernel
theorem dX2_init_5 : decode cX2_init 5 = .ok (.aload_n 1, 1) := by decide +kernel
theorem dX2_init_6 : decode cX2_init 6 = .ok (.putfield 9, 3) := by decide +kernel
theorem dX2_init_9 : decode cX2_init 9 = .ok (.aload_n 0, 1) := by decide +kernel
theorem dX2_init_10 : decode cX2_init 10 = .ok (.aload_n 2, 1) := by decide +kernel
theorem dX2_init_11 : decode cX2_init 11 = .ok (.putfield 15, 3) := by decide +kernel
theorem dX2_init_14 : decode cX2_init 14 = .ok (.aload_n 0, 1) := by decide +kernel
theorem dX2_init_15 : decode cX2_init 15 = .ok (.aload_n 3, 1) := by decide +kernel
theorem dX2_init_16 : decode cX2_init 16 = .ok (.putfield 19, 3) := by decide +kernel
theorem dX2_init_19 : decode cX2_init 19 = .ok (.return_, 1) := by decide +kernel
theorem dX2_rulingText_0 : decode cX2_rulingText 0 = .ok (.aload_n 0, 1) := by decide +kernel
theorem dX2_rulingText_1 : decode cX2_rulingText 1 = .ok (.getfield 9, 3) := by decide +kernel
theorem dX2_rulingText_4 : decode cX2_rulingText 4 = .ok (.getfield 23, 3) := by decide +kernel
theorem dX2_rulingText_7 : decode cX2_rulingText 7 = .ok (.istore_n 1, 1) := by decide +kernel
theorem dX2_rulingText_8 : decode cX2_rulingText 8 = .ok (.iload_n 1, 1) := by decide +kernel
theorem dX2_rulingText_9 : decode cX2_rulingText 9 = .ok (.ifCond .lt 21, 3) := by decide +kernel
theorem dX2_rulingText_12 : decode cX2_rulingText 12 = .ok (.iload_n 1, 1) := by decide +kernel
theorem dX2_rulingText_13 : decode cX2_rulingText 13 = .ok (.aload_n 0, 1) := by decide +kernel
theorem dX2_rulingText_14 : decode cX2_rulingText 14 = .ok (.getfield 15, 3) := by decide +kernel
theorem dX2_rulingText_17 : decode cX2_rulingText 17 = .ok (.arraylength, 1) := by decide +kernel
theorem dX2_rulingText_18 : decode cX2_rulingText 18 = .ok (.if_icmp .ge 12, 3) := by decide +kernel
theorem dX2_rulingText_21 : decode cX2_rulingText 21 = .ok (.aload_n 0, 1) := by decide +kernel
theorem dX2_rulingText_22 : decode cX2_rulingText 22 = .ok (.getfield 15, 3) := by decide +kernel
theorem dX2_rulingText_25 : decode cX2_rulingText 25 = .ok (.iload_n 1, 1) := by decide +kernel
theorem dX2_rulingText_26 : decode cX2_rulingText 26 = .ok (.aaload, 1) := by decide +kernel
theorem dX2_rulingText_27 : decode cX2_rulingText 27 = .ok (.goto 4, 3) := by decide +kernel
theorem dX2_rulingText_30 : decode cX2_rulingText 30 = .ok (.aconst_null, 1) := by decide +kernel
theorem dX2_rulingText_31 : decode cX2_rulingText 31 = .ok (.areturn, 1) := by decide +kernel
theorem dX2_nextPlace_0 : decode cX2_nextPlace 0 = .ok (.aload_n 1, 1) := by decide +kernel
theorem dX2_nextPlace_1 : decode cX2_nextPlace 1 = .ok (.iload_n 2, 1) := by decide +kernel
theorem dX2_nextPlace_2 : decode cX2_nextPlace 2 = .ok (.invokevirtual 29, 3) := by decide +kernel
theorem dX2_nextPlace_5 : decode cX2_nextPlace 5 = .ok (.ifCond .eq 15, 3) := by decide +kernel
theorem dX2_nextPlace_8 : decode cX2_nextPlace 8 = .ok (.aload_n 1, 1) := by decide +kernel
theorem dX2_nextPlace_9 : decode cX2_nextPlace 9 = .ok (.getfield 35, 3) := by decide +kernel
theorem dX2_nextPlace_12 : decode cX2_nextPlace 12 = .ok (.iload_n 2, 1) := by decide +kernel
theorem dX2_nextPlace_13 : decode cX2_nextPlace 13 = .ok (.iaload, 1) := by decide +kernel
theorem dX2_nextPlace_14 : decode cX2_nextPlace 14 = .ok (.invokestatic 39, 3) := by decide +kernel
theorem dX2_nextPlace_17 : decode cX2_nextPlace 17 = .ok (.ifCond .ne 5, 3) := by decide +kernel
theorem dX2_nextPlace_20 : decode cX2_nextPlace 20 = .ok (.iconst (-1), 1) := by decide +kernel
theorem dX2_nextPlace_21 : decode cX2_nextPlace 21 = .ok (.ireturn, 1) := by decide +kernel
theorem dX2_nextPlace_22 : decode cX2_nextPlace 22 = .ok (.aload_n 0, 1) := by decide +kernel
theorem dX2_nextPlace_23 : decode cX2_nextPlace 23 = .ok (.invokevirtual 42, 3) := by decide +kernel
theorem dX2_nextPlace_26 : decode cX2_nextPlace 26 = .ok (.astore_n 3, 1) := by decide +kernel
theorem dX2_nextPlace_27 : decode cX2_nextPlace 27 = .ok (.aload_n 0, 1) := by decide +kernel
theorem dX2_nextPlace_28 : decode cX2_nextPlace 28 = .ok (.getfield 9, 3) := by decide +kernel
theorem dX2_nextPlace_31 : decode cX2_nextPlace 31 = .ok (.getfield 46, 3) := by decide +kernel
theorem dX2_nextPlace_34 : decode cX2_nextPlace 34 = .ok (.getfield 50, 3) := by decide +kernel
theorem dX2_nextPlace_37 : decode cX2_nextPlace 37 = .ok (.aload_n 1, 1) := by decide +kernel
theorem dX2_nextPlace_38 : decode cX2_nextPlace 38 = .ok (.getfield 35, 3) := by decide +kernel
theorem dX2_nextPlace_41 : decode cX2_nextPlace 41 = .ok (.iload_n 2, 1) := by decide +kernel
theorem dX2_nextPlace_42 : decode cX2_nextPlace 42 = .ok (.iaload, 1) := by decide +kernel
theorem dX2_nextPlace_43 : decode cX2_nextPlace 43 = .ok (.iaload, 1) := by decide +kernel
theorem dX2_nextPlace_44 : decode cX2_nextPlace 44 = .ok (.aload_n 1, 1) := by decide +kernel
theorem dX2_nextPlace_45 : decode cX2_nextPlace 45 = .ok (.getfield 55, 3) := by decide +kernel
theorem dX2_nextPlace_48 : decode cX2_nextPlace 48 = .ok (.iload_n 2, 1) := by decide +kernel
theorem dX2_nextPlace_49 : decode cX2_nextPlace 49 = .ok (.iaload, 1) := by decide +kernel
theorem dX2_nextPlace_50 : decode cX2_nextPlace 50 = .ok (.iconst (-1), 1) := by decide +kernel
theorem dX2_nextPlace_51 : decode cX2_nextPlace 51 = .ok (.ixor, 1) := by decide +kernel
theorem dX2_nextPlace_52 : decode cX2_nextPlace 52 = .ok (.iand, 1) := by decide +kernel
theorem dX2_nextPlace_53 : decode cX2_nextPlace 53 = .ok (.istore 4, 2) := by decide +kernel
theorem dX2_nextPlace_55 : decode cX2_nextPlace 55 = .ok (.iconst (-1), 1) := by decide +kernel
theorem dX2_nextPlace_56 : decode cX2_nextPlace 56 = .ok (.istore 5, 2) := by decide +kernel
theorem dX2_nextPlace_58 : decode cX2_nextPlace 58 = .ok (.sipush (-1000), 3) := by decide +kernel
theorem dX2_nextPlace_61 : decode cX2_nextPlace 61 = .ok (.istore 6, 2) := by decide +kernel
theorem dX2_nextPlace_63 : decode cX2_nextPlace 63 = .ok (.iconst 0, 1) := by decide +kernel
theorem dX2_nextPlace_64 : decode cX2_nextPlace 64 = .ok (.istore 7, 2) := by decide +kernel
theorem dX2_nextPlace_66 : decode cX2_nextPlace 66 = .ok (.iload 7, 2) := by decide +kernel
theorem dX2_nextPlace_68 : decode cX2_nextPlace 68 = .ok (.bipush 12, 2) := by decide +kernel
theorem dX2_nextPlace_70 : decode cX2_nextPlace 70 = .ok (.if_icmp .ge 48, 3) := by decide +kernel
theorem dX2_nextPlace_73 : decode cX2_nextPlace 73 = .ok (.iload 4, 2) := by decide +kernel
theorem dX2_nextPlace_75 : decode cX2_nextPlace 75 = .ok (.iload 7, 2) := by decide +kernel
theorem dX2_nextPlace_77 : decode cX2_nextPlace 77 = .ok (.invokestatic 58, 3) := by decide +kernel
theorem dX2_nextPlace_80 : decode cX2_nextPlace 80 = .ok (.ifCond .eq 32, 3) := by decide +kernel
theorem dX2_nextPlace_83 : decode cX2_nextPlace 83 = .ok (.aload_n 0, 1) := by decide +kernel
theorem dX2_nextPlace_84 : decode cX2_nextPlace 84 = .ok (.getfield 19, 3) := by decide +kernel
theorem dX2_nextPlace_87 : decode cX2_nextPlace 87 = .ok (.aload_n 3, 1) := by decide +kernel
theorem dX2_nextPlace_88 : decode cX2_nextPlace 88 = .ok (.aload_n 1, 1) := by decide +kernel
theorem dX2_nextPlace_89 : decode cX2_nextPlace 89 = .ok (.iload_n 2, 1) := by decide +kernel
theorem dX2_nextPlace_90 : decode cX2_nextPlace 90 = .ok (.iload 7, 2) := by decide +kernel
theorem dX2_nextPlace_92 : decode cX2_nextPlace 92 = .ok (.invokevirtual 62, 3) := by decide +kernel
theorem dX2_nextPlace_95 : decode cX2_nextPlace 95 = .ok (.istore 8, 2) := by decide +kernel
theorem dX2_nextPlace_97 : decode cX2_nextPlace 97 = .ok (.iload 8, 2) := by decide +kernel
theorem dX2_nextPlace_99 : decode cX2_nextPlace 99 = .ok (.iload 6, 2) := by decide +kernel
theorem dX2_nextPlace_101 : decode cX2_nextPlace 101 = .ok (.if_icmp .le 11, 3) := by decide +kernel
theorem dX2_nextPlace_104 : decode cX2_nextPlace 104 = .ok (.iload 8, 2) := by decide +kernel
theorem dX2_nextPlace_106 : decode cX2_nextPlace 106 = .ok (.istore 6, 2) := by decide +kernel
theorem dX2_nextPlace_108 : decode cX2_nextPlace 108 = .ok (.iload 7, 2) := by decide +kernel
theorem dX2_nextPlace_110 : decode cX2_nextPlace 110 = .ok (.istore 5, 2) := by decide +kernel
theorem dX2_nextPlace_112 : decode cX2_nextPlace 112 = .ok (.iinc 7 1, 3) := by decide +kernel
theorem dX2_nextPlace_115 : decode cX2_nextPlace 115 = .ok (.goto (-49), 3) := by decide +kernel
theorem dX2_nextPlace_118 : decode cX2_nextPlace 118 = .ok (.iload 5, 2) := by decide +kernel
theorem dX2_nextPlace_120 : decode cX2_nextPlace 120 = .ok (.ireturn, 1) := by decide +kernel
theorem dX2_lead_0 : decode cX2_lead 0 = .ok (.aload_n 1, 1) := by decide +kernel
theorem dX2_lead_1 : decode cX2_lead 1 = .ok (.iload_n 2, 1) := by decide +kernel
theorem dX2_lead_2 : decode cX2_lead 2 = .ok (.invokevirtual 68, 3) := by decide +kernel
theorem dX2_lead_5 : decode cX2_lead 5 = .ok (.ifCond .ne 5, 3) := by decide +kernel
theorem dX2_lead_8 : decode cX2_lead 8 = .ok (.iconst (-1), 1) := by decide +kernel
theorem dX2_lead_9 : decode cX2_lead 9 = .ok (.ireturn, 1) := by decide +kernel
theorem dX2_lead_10 : decode cX2_lead 10 = .ok (.aload_n 0, 1) := by decide +kernel
theorem dX2_lead_11 : decode cX2_lead 11 = .ok (.aload_n 1, 1) := by decide +kernel
theorem dX2_lead_12 : decode cX2_lead 12 = .ok (.iload_n 2, 1) := by decide +kernel
theorem dX2_lead_13 : decode cX2_lead 13 = .ok (.invokevirtual 71, 3) := by decide +kernel
theorem dX2_lead_16 : decode cX2_lead 16 = .ok (.istore_n 3, 1) := by decide +kernel
theorem dX2_lead_17 : decode cX2_lead 17 = .ok (.iload_n 3, 1) := by decide +kernel
theorem dX2_lead_18 : decode cX2_lead 18 = .ok (.invokestatic 39, 3) := by decide +kernel
theorem dX2_lead_21 : decode cX2_lead 21 = .ok (.ifCond .ne 32, 3) := by decide +kernel
theorem dX2_lead_24 : decode cX2_lead 24 = .ok (.aload_n 1, 1) := by decide +kernel
theorem dX2_lead_25 : decode cX2_lead 25 = .ok (.iload_n 2, 1) := by decide +kernel
theorem dX2_lead_26 : decode cX2_lead 26 = .ok (.aload_n 0, 1) := by decide +kernel
theorem dX2_lead_27 : decode cX2_lead 27 = .ok (.getfield 19, 3) := by decide +kernel
theorem dX2_lead_30 : decode cX2_lead 30 = .ok (.aload_n 0, 1) := by decide +kernel
theorem dX2_lead_31 : decode cX2_lead 31 = .ok (.invokevirtual 42, 3) := by decide +kernel
theorem dX2_lead_34 : decode cX2_lead 34 = .ok (.aload_n 1, 1) := by decide +kernel
theorem dX2_lead_35 : decode cX2_lead 35 = .ok (.iload_n 2, 1) := by decide +kernel
theorem dX2_lead_36 : decode cX2_lead 36 = .ok (.invokevirtual 75, 3) := by decide +kernel
theorem dX2_lead_39 : decode cX2_lead 39 = .ok (.ifCond .le 7, 3) := by decide +kernel
theorem dX2_lead_42 : decode cX2_lead 42 = .ok (.iconst 1, 1) := by decide +kernel
theorem dX2_lead_43 : decode cX2_lead 43 = .ok (.goto 4, 3) := by decide +kernel
theorem dX2_lead_46 : decode cX2_lead 46 = .ok (.iconst 0, 1) := by decide +kernel
theorem dX2_lead_47 : decode cX2_lead 47 = .ok (.invokevirtual 79, 3) := by decide +kernel
theorem dX2_lead_50 : decode cX2_lead 50 = .ok (.bipush 12, 2) := by decide +kernel
theorem dX2_lead_52 : decode cX2_lead 52 = .ok (.ireturn, 1) := by decide +kernel
theorem dX2_lead_53 : decode cX2_lead 53 = .ok (.aload_n 1, 1) := by decide +kernel
theorem dX2_lead_54 : decode cX2_lead 54 = .ok (.getfield 35, 3) := by decide +kernel
theorem dX2_lead_57 : decode cX2_lead 57 = .ok (.iload_n 2, 1) := by decide +kernel
theorem dX2_lead_58 : decode cX2_lead 58 = .ok (.iload_n 3, 1) := by decide +kernel
theorem dX2_lead_59 : decode cX2_lead 59 = .ok (.iastore, 1) := by decide +kernel
theorem dX2_lead_60 : decode cX2_lead 60 = .ok (.aload_n 1, 1) := by decide +kernel
theorem dX2_lead_61 : decode cX2_lead 61 = .ok (.iload_n 2, 1) := by decide +kernel
theorem dX2_lead_62 : decode cX2_lead 62 = .ok (.aload_n 0, 1) := by decide +kernel
theorem dX2_lead_63 : decode cX2_lead 63 = .ok (.getfield 9, 3) := by decide +kernel
theorem dX2_lead_66 : decode cX2_lead 66 = .ok (.getfield 46, 3) := by decide +kernel
theorem dX2_lead_69 : decode cX2_lead 69 = .ok (.getfield 83, 3) := by decide +kernel
theorem dX2_lead_72 : decode cX2_lead 72 = .ok (.iload_n 3, 1) := by decide +kernel
theorem dX2_lead_73 : decode cX2_lead 73 = .ok (.iaload, 1) := by decide +kernel
theorem dX2_lead_74 : decode cX2_lead 74 = .ok (.invokevirtual 86, 3) := by decide +kernel
theorem dX2_lead_77 : decode cX2_lead 77 = .ok (.aload_n 1, 1) := by decide +kernel
theorem dX2_lead_78 : decode cX2_lead 78 = .ok (.getfield 90, 3) := by decide +kernel
theorem dX2_lead_81 : decode cX2_lead 81 = .ok (.iload_n 2, 1) := by decide +kernel
theorem dX2_lead_82 : decode cX2_lead 82 = .ok (.sipush 999, 3) := by decide +kernel
theorem dX2_lead_85 : decode cX2_lead 85 = .ok (.aload_n 1, 1) := by decide +kernel
theorem dX2_lead_86 : decode cX2_lead 86 = .ok (.getfield 90, 3) := by decide +kernel
theorem dX2_lead_89 : decode cX2_lead 89 = .ok (.iload_n 2, 1) := by decide +kernel
theorem dX2_lead_90 : decode cX2_lead 90 = .ok (.iaload, 1) := by decide +kernel
theorem dX2_lead_91 : decode cX2_lead 91 = .ok (.iconst 1, 1) := by decide +kernel
theorem dX2_lead_92 : decode cX2_lead 92 = .ok (.iadd, 1) := by decide +kernel
theorem dX2_lead_93 : decode cX2_lead 93 = .ok (.invokestatic 93, 3) := by decide +kernel
theorem dX2_lead_96 : decode cX2_lead 96 = .ok (.iastore, 1) := by decide +kernel
theorem dX2_lead_97 : decode cX2_lead 97 = .ok (.iload_n 3, 1) := by decide +kernel
theorem dX2_lead_98 : decode cX2_lead 98 = .ok (.ireturn, 1) := by decide +kernel
theorem dX2_canDrop_0 : decode cX2_canDrop 0 = .ok (.aload_n 1, 1) := by decide +kernel
theorem dX2_canDrop_1 : decode cX2_canDrop 1 = .ok (.iload_n 2, 1) := by decide +kernel
theorem dX2_canDrop_2 : decode cX2_canDrop 2 = .ok (.invokevirtual 68, 3) := by decide +kernel
theorem dX2_canDrop_5 : decode cX2_canDrop 5 = .ok (.ifCond .eq 37, 3) := by decide +kernel
theorem dX2_canDrop_8 : decode cX2_canDrop 8 = .ok (.iload_n 3, 1) := by decide +kernel
theorem dX2_canDrop_9 : decode cX2_canDrop 9 = .ok (.invokestatic 39, 3) := by decide +kernel
theorem dX2_canDrop_12 : decode cX2_canDrop 12 = .ok (.ifCond .eq 30, 3) := by decide +kernel
theorem dX2_canDrop_15 : decode cX2_canDrop 15 = .ok (.aload_n 1, 1) := by decide +kernel
theorem dX2_canDrop_16 : decode cX2_canDrop 16 = .ok (.getfield 35, 3) := by decide +kernel
theorem dX2_canDrop_19 : decode cX2_canDrop 19 = .ok (.iload_n 2, 1) := by decide +kernel
theorem dX2_canDrop_20 : decode cX2_canDrop 20 = .ok (.iaload, 1) := by decide +kernel
theorem dX2_canDrop_21 : decode cX2_canDrop 21 = .ok (.iload_n 3, 1) := by decide +kernel
theorem dX2_canDrop_22 : decode cX2_canDrop 22 = .ok (.if_icmp .eq 20, 3) := by decide +kernel
theorem dX2_canDrop_25 : decode cX2_canDrop 25 = .ok (.aload_n 1, 1) := by decide +kernel
theorem dX2_canDrop_26 : decode cX2_canDrop 26 = .ok (.getfield 55, 3) := by decide +kernel
theorem dX2_canDrop_29 : decode cX2_canDrop 29 = .ok (.iload_n 2, 1) := by decide +kernel
theorem dX2_canDrop_30 : decode cX2_canDrop 30 = .ok (.iaload, 1) := by decide +kernel
theorem dX2_canDrop_31 : decode cX2_canDrop 31 = .ok (.iload_n 3, 1) := by decide +kernel
theorem dX2_canDrop_32 : decode cX2_canDrop 32 = .ok (.invokestatic 58, 3) := by decide +kernel
theorem dX2_canDrop_35 : decode cX2_canDrop 35 = .ok (.ifCond .ne 7, 3) := by decide +kernel
theorem dX2_canDrop_38 : decode cX2_canDrop 38 = .ok (.iconst 1, 1) := by decide +kernel
theorem dX2_canDrop_39 : decode cX2_canDrop 39 = .ok (.goto 4, 3) := by decide +kernel
theorem dX2_canDrop_42 : decode cX2_canDrop 42 = .ok (.iconst 0, 1) := by decide +kernel
theorem dX2_canDrop_43 : decode cX2_canDrop 43 = .ok (.ireturn, 1) := by decide +kernel
theorem dX2_drop_0 : decode cX2_drop 0 = .ok (.iload_n 2, 1) := by decide +kernel
theorem dX2_drop_1 : decode cX2_drop 1 = .ok (.invokestatic 99, 3) := by decide +kernel
theorem dX2_drop_4 : decode cX2_drop 4 = .ok (.ifCond .eq 39, 3) := by decide +kernel
theorem dX2_drop_7 : decode cX2_drop 7 = .ok (.iload_n 3, 1) := by decide +kernel
theorem dX2_drop_8 : decode cX2_drop 8 = .ok (.invokestatic 39, 3) := by decide +kernel
theorem dX2_drop_11 : decode cX2_drop 11 = .ok (.ifCond .eq 32, 3) := by decide +kernel
theorem dX2_drop_14 : decode cX2_drop 14 = .ok (.aload_n 1, 1) := by decide +kernel
theorem dX2_drop_15 : decode cX2_drop 15 = .ok (.getfield 55, 3) := by decide +kernel
theorem dX2_drop_18 : decode cX2_drop 18 = .ok (.iload_n 2, 1) := by decide +kernel
theorem dX2_drop_19 : decode cX2_drop 19 = .ok (.dup2, 1) := by decide +kernel
theorem dX2_drop_20 : decode cX2_drop 20 = .ok (.iaload, 1) := by decide +kernel
theorem dX2_drop_21 : decode cX2_drop 21 = .ok (.iconst 1, 1) := by decide +kernel
theorem dX2_drop_22 : decode cX2_drop 22 = .ok (.iload_n 3, 1) := by decide +kernel
theorem dX2_drop_23 : decode cX2_drop 23 = .ok (.ishl, 1) := by decide +kernel
theorem dX2_drop_24 : decode cX2_drop 24 = .ok (.ior, 1) := by decide +kernel
theorem dX2_drop_25 : decode cX2_drop 25 = .ok (.iastore, 1) := by decide +kernel
theorem dX2_drop_26 : decode cX2_drop 26 = .ok (.aload_n 1, 1) := by decide +kernel
theorem dX2_drop_27 : decode cX2_drop 27 = .ok (.iload_n 2, 1) := by decide +kernel
theorem dX2_drop_28 : decode cX2_drop 28 = .ok (.aload_n 0, 1) := by decide +kernel
theorem dX2_drop_29 : decode cX2_drop 29 = .ok (.getfield 9, 3) := by decide +kernel
theorem dX2_drop_32 : decode cX2_drop 32 = .ok (.getfield 46, 3) := by decide +kernel
theorem dX2_drop_35 : decode cX2_drop 35 = .ok (.getfield 83, 3) := by decide +kernel
theorem dX2_drop_38 : decode cX2_drop 38 = .ok (.iload_n 3, 1) := by decide +kernel
theorem dX2_drop_39 : decode cX2_drop 39 = .ok (.iaload, 1) := by decide +kernel
theorem dX2_drop_40 : decode cX2_drop 40 = .ok (.invokevirtual 86, 3) := by decide +kernel
theorem dX2_drop_43 : decode cX2_drop 43 = .ok (.return_, 1) := by decide +kernel
theorem dX2_canReturn_0 : decode cX2_canReturn 0 = .ok (.aload_n 1, 1) := by decide +kernel
theorem dX2_canReturn_1 : decode cX2_canReturn 1 = .ok (.iload_n 2, 1) := by decide +kernel
theorem dX2_canReturn_2 : decode cX2_canReturn 2 = .ok (.invokevirtual 29, 3) := by decide +kernel
theorem dX2_canReturn_5 : decode cX2_canReturn 5 = .ok (.ifCond .eq 23, 3) := by decide +kernel
theorem dX2_canReturn_8 : decode cX2_canReturn 8 = .ok (.aload_n 1, 1) := by decide +kernel
theorem dX2_canReturn_9 : decode cX2_canReturn 9 = .ok (.getfield 102, 3) := by decide +kernel
theorem dX2_canReturn_12 : decode cX2_canReturn 12 = .ok (.iload_n 2, 1) := by decide +kernel
theorem dX2_canReturn_13 : decode cX2_canReturn 13 = .ok (.iaload, 1) := by decide +kernel
theorem dX2_canReturn_14 : decode cX2_canReturn 14 = .ok (.ifCond .eq 14, 3) := by decide +kernel
theorem dX2_canReturn_17 : decode cX2_canReturn 17 = .ok (.iload_n 3, 1) := by decide +kernel
theorem dX2_canReturn_18 : decode cX2_canReturn 18 = .ok (.invokestatic 39, 3) := by decide +kernel
theorem dX2_canReturn_21 : decode cX2_canReturn 21 = .ok (.ifCond .eq 7, 3) := by decide +kernel
theorem dX2_canReturn_24 : decode cX2_canReturn 24 = .ok (.iconst 1, 1) := by decide +kernel
theorem dX2_canReturn_25 : decode cX2_canReturn 25 = .ok (.goto 4, 3) := by decide +kernel
theorem dX2_canReturn_28 : decode cX2_canReturn 28 = .ok (.iconst 0, 1) := by decide +kernel
theorem dX2_canReturn_29 : decode cX2_canReturn 29 = .ok (.ireturn, 1) := by decide +kernel
theorem dX2_passDay_0 : decode cX2_passDay 0 = .ok (.iconst 0, 1) := by decide +kernel
theorem dX2_passDay_1 : decode cX2_passDay 1 = .ok (.istore_n 2, 1) := by decide +kernel
theorem dX2_passDay_2 : decode cX2_passDay 2 = .ok (.iconst 0, 1) := by decide +kernel
theorem dX2_passDay_3 : decode cX2_passDay 3 = .ok (.istore_n 3, 1) := by decide +kernel
theorem dX2_passDay_4 : decode cX2_passDay 4 = .ok (.iload_n 3, 1) := by decide +kernel
theorem dX2_passDay_5 : decode cX2_passDay 5 = .ok (.iconst 5, 1) := by decide +kernel
theorem dX2_passDay_6 : decode cX2_passDay 6 = .ok (.if_icmp .ge 49, 3) := by decide +kernel
theorem dX2_passDay_9 : decode cX2_passDay 9 = .ok (.aload_n 1, 1) := by decide +kernel
theorem dX2_passDay_10 : decode cX2_passDay 10 = .ok (.iload_n 3, 1) := by decide +kernel
theorem dX2_passDay_11 : decode cX2_passDay 11 = .ok (.invokevirtual 68, 3) := by decide +kernel
theorem dX2_passDay_14 : decode cX2_passDay 14 = .ok (.ifCond .eq 35, 3) := by decide +kernel
theorem dX2_passDay_17 : decode cX2_passDay 17 = .ok (.aload_n 1, 1) := by decide +kernel
theorem dX2_passDay_18 : decode cX2_passDay 18 = .ok (.invokevirtual 105, 3) := by decide +kernel
theorem dX2_passDay_21 : decode cX2_passDay 21 = .ok (.bipush 10, 2) := by decide +kernel
theorem dX2_passDay_23 : decode cX2_passDay 23 = .ok (.irem, 1) := by decide +kernel
theorem dX2_passDay_24 : decode cX2_passDay 24 = .ok (.bipush 6, 2) := by decide +kernel
theorem dX2_passDay_26 : decode cX2_passDay 26 = .ok (.if_icmp .ge 23, 3) := by decide +kernel
theorem dX2_passDay_29 : decode cX2_passDay 29 = .ok (.aload_n 0, 1) := by decide +kernel
theorem dX2_passDay_30 : decode cX2_passDay 30 = .ok (.aload_n 1, 1) := by decide +kernel
theorem dX2_passDay_31 : decode cX2_passDay 31 = .ok (.iload_n 3, 1) := by decide +kernel
theorem dX2_passDay_32 : decode cX2_passDay 32 = .ok (.invokevirtual 109, 3) := by decide +kernel
theorem dX2_passDay_35 : decode cX2_passDay 35 = .ok (.pop, 1) := by decide +kernel
theorem dX2_passDay_36 : decode cX2_passDay 36 = .ok (.aload_n 1, 1) := by decide +kernel
theorem dX2_passDay_37 : decode cX2_passDay 37 = .ok (.getfield 102, 3) := by decide +kernel
theorem dX2_passDay_40 : decode cX2_passDay 40 = .ok (.iload_n 3, 1) := by decide +kernel
theorem dX2_passDay_41 : decode cX2_passDay 41 = .ok (.iaload, 1) := by decide +kernel
theorem dX2_passDay_42 : decode cX2_passDay 42 = .ok (.iconst 1, 1) := by decide +kernel
theorem dX2_passDay_43 : decode cX2_passDay 43 = .ok (.if_icmp .ne 6, 3) := by decide +kernel
theorem dX2_passDay_46 : decode cX2_passDay 46 = .ok (.iinc 2 1, 3) := by decide +kernel
theorem dX2_passDay_49 : decode cX2_passDay 49 = .ok (.iinc 3 1, 3) := by decide +kernel
theorem dX2_passDay_52 : decode cX2_passDay 52 = .ok (.goto (-48), 3) := by decide +kernel
theorem dX2_passDay_55 : decode cX2_passDay 55 = .ok (.aload_n 1, 1) := by decide +kernel
theorem dX2_passDay_56 : decode cX2_passDay 56 = .ok (.dup, 1) := by decide +kernel
theorem dX2_passDay_57 : decode cX2_passDay 57 = .ok (.getfield 112, 3) := by decide +kernel
theorem dX2_passDay_60 : decode cX2_passDay 60 = .ok (.iconst 1, 1) := by decide +kernel
theorem dX2_passDay_61 : decode cX2_passDay 61 = .ok (.iadd, 1) := by decide +kernel
theorem dX2_passDay_62 : decode cX2_passDay 62 = .ok (.putfield 112, 3) := by decide +kernel
theorem dX2_passDay_65 : decode cX2_passDay 65 = .ok (.iload_n 2, 1) := by decide +kernel
theorem dX2_passDay_66 : decode cX2_passDay 66 = .ok (.ireturn, 1) := by decide +kernel
theorem dX2_passDraw_0 : decode cX2_passDraw 0 = .ok (.aload_n 1, 1) := by decide +kernel
theorem dX2_passDraw_1 : decode cX2_passDraw 1 = .ok (.invokevirtual 105, 3) := by decide +kernel
theorem dX2_passDraw_4 : decode cX2_passDraw 4 = .ok (.istore_n 2, 1) := by decide +kernel
theorem dX2_passDraw_5 : decode cX2_passDraw 5 = .ok (.aload_n 1, 1) := by decide +kernel
theorem dX2_passDraw_6 : decode cX2_passDraw 6 = .ok (.getfield 115, 3) := by decide +kernel
theorem dX2_passDraw_9 : decode cX2_passDraw 9 = .ok (.ifCond .le 12, 3) := by decide +kernel
theorem dX2_passDraw_12 : decode cX2_passDraw 12 = .ok (.iload_n 2, 1) := by decide +kernel
theorem dX2_passDraw_13 : decode cX2_passDraw 13 = .ok (.aload_n 1, 1) := by decide +kernel
theorem dX2_passDraw_14 : decode cX2_passDraw 14 = .ok (.getfield 115, 3) := by decide +kernel
theorem dX2_passDraw_17 : decode cX2_passDraw 17 = .ok (.irem, 1) := by decide +kernel
theorem dX2_passDraw_18 : decode cX2_passDraw 18 = .ok (.goto 4, 3) := by decide +kernel
theorem dX2_passDraw_21 : decode cX2_passDraw 21 = .ok (.iconst (-1), 1) := by decide +kernel
theorem dX2_passDraw_22 : decode cX2_passDraw 22 = .ok (.istore_n 3, 1) := by decide +kernel
theorem dX2_passDraw_23 : decode cX2_passDraw 23 = .ok (.iload_n 2, 1) := by decide +kernel
theorem dX2_passDraw_24 : decode cX2_passDraw 24 = .ok (.bipush 6, 2) := by decide +kernel
theorem dX2_passDraw_26 : decode cX2_passDraw 26 = .ok (.idiv, 1) := by decide +kernel
theorem dX2_passDraw_27 : decode cX2_passDraw 27 = .ok (.bipush 12, 2) := by decide +kernel
theorem dX2_passDraw_29 : decode cX2_passDraw 29 = .ok (.irem, 1) := by decide +kernel
theorem dX2_passDraw_30 : decode cX2_passDraw 30 = .ok (.istore 4, 2) := by decide +kernel
theorem dX2_passDraw_32 : decode cX2_passDraw 32 = .ok (.iload_n 2, 1) := by decide +kernel
theorem dX2_passDraw_33 : decode cX2_passDraw 33 = .ok (.bipush 6, 2) := by decide +kernel
theorem dX2_passDraw_35 : decode cX2_passDraw 35 = .ok (.irem, 1) := by decide +kernel
theorem dX2_passDraw_36 : decode cX2_passDraw 36 = .ok (.tableswitch 91 0 3 #[32, 32, 42, 64], 32) := by decide +kernel
theorem dX2_passDraw_68 : decode cX2_passDraw 68 = .ok (.aload_n 0, 1) := by decide +kernel
theorem dX2_passDraw_69 : decode cX2_passDraw 69 = .ok (.aload_n 1, 1) := by decide +kernel
theorem dX2_passDraw_70 : decode cX2_passDraw 70 = .ok (.iload_n 3, 1) := by decide +kernel
theorem dX2_passDraw_71 : decode cX2_passDraw 71 = .ok (.invokevirtual 109, 3) := by decide +kernel
theorem dX2_passDraw_74 : decode cX2_passDraw 74 = .ok (.pop, 1) := by decide +kernel
theorem dX2_passDraw_75 : decode cX2_passDraw 75 = .ok (.goto 68, 3) := by decide +kernel
theorem dX2_passDraw_78 : decode cX2_passDraw 78 = .ok (.aload_n 0, 1) := by decide +kernel
theorem dX2_passDraw_79 : decode cX2_passDraw 79 = .ok (.aload_n 1, 1) := by decide +kernel
theorem dX2_passDraw_80 : decode cX2_passDraw 80 = .ok (.iload_n 3, 1) := by decide +kernel
theorem dX2_passDraw_81 : decode cX2_passDraw 81 = .ok (.iload 4, 2) := by decide +kernel
theorem dX2_passDraw_83 : decode cX2_passDraw 83 = .ok (.invokevirtual 118, 3) := by decide +kernel
theorem dX2_passDraw_86 : decode cX2_passDraw 86 = .ok (.ifCond .eq 57, 3) := by decide +kernel
theorem dX2_passDraw_89 : decode cX2_passDraw 89 = .ok (.aload_n 0, 1) := by decide +kernel
theorem dX2_passDraw_90 : decode cX2_passDraw 90 = .ok (.aload_n 1, 1) := by decide +kernel
theorem dX2_passDraw_91 : decode cX2_passDraw 91 = .ok (.iload_n 3, 1) := by decide +kernel
theorem dX2_passDraw_92 : decode cX2_passDraw 92 = .ok (.iload 4, 2) := by decide +kernel
theorem dX2_passDraw_94 : decode cX2_passDraw 94 = .ok (.invokevirtual 122, 3) := by decide +kernel
theorem dX2_passDraw_97 : decode cX2_passDraw 97 = .ok (.goto 46, 3) := by decide +kernel
theorem dX2_passDraw_100 : decode cX2_passDraw 100 = .ok (.aload_n 0, 1) := by decide +kernel
theorem dX2_passDraw_101 : decode cX2_passDraw 101 = .ok (.aload_n 1, 1) := by decide +kernel
theorem dX2_passDraw_102 : decode cX2_passDraw 102 = .ok (.iload_n 3, 1) := by decide +kernel
theorem dX2_passDraw_103 : decode cX2_passDraw 103 = .ok (.iload 4, 2) := by decide +kernel
theorem dX2_passDraw_105 : decode cX2_passDraw 105 = .ok (.invokevirtual 126, 3) := by decide +kernel
theorem dX2_passDraw_108 : decode cX2_passDraw 108 = .ok (.ifCond .eq 35, 3) := by decide +kernel
theorem dX2_passDraw_111 : decode cX2_passDraw 111 = .ok (.aload_n 1, 1) := by decide +kernel
theorem dX2_passDraw_112 : decode cX2_passDraw 112 = .ok (.iload_n 3, 1) := by decide +kernel
theorem dX2_passDraw_113 : decode cX2_passDraw 113 = .ok (.iload 4, 2) := by decide +kernel
theorem dX2_passDraw_115 : decode cX2_passDraw 115 = .ok (.aload_n 1, 1) := by decide +kernel
theorem dX2_passDraw_116 : decode cX2_passDraw 116 = .ok (.getfield 129, 3) := by decide +kernel
theorem dX2_passDraw_119 : decode cX2_passDraw 119 = .ok (.iload_n 3, 1) := by decide +kernel
theorem dX2_passDraw_120 : decode cX2_passDraw 120 = .ok (.iaload, 1) := by decide +kernel
theorem dX2_passDraw_121 : decode cX2_passDraw 121 = .ok (.invokevirtual 132, 3) := by decide +kernel
theorem dX2_passDraw_124 : decode cX2_passDraw 124 = .ok (.goto 19, 3) := by decide +kernel
theorem dX2_passDraw_127 : decode cX2_passDraw 127 = .ok (.aload_n 1, 1) := by decide +kernel
theorem dX2_passDraw_128 : decode cX2_passDraw 128 = .ok (.getfield 112, 3) := by decide +kernel
theorem dX2_passDraw_131 : decode cX2_passDraw 131 = .ok (.sipush 9999, 3) := by decide +kernel
theorem dX2_passDraw_134 : decode cX2_passDraw 134 = .ok (.if_icmp .ge 9, 3) := by decide +kernel
theorem dX2_passDraw_137 : decode cX2_passDraw 137 = .ok (.aload_n 0, 1) := by decide +kernel
theorem dX2_passDraw_138 : decode cX2_passDraw 138 = .ok (.aload_n 1, 1) := by decide +kernel
theorem dX2_passDraw_139 : decode cX2_passDraw 139 = .ok (.invokevirtual 136, 3) := by decide +kernel
theorem dX2_passDraw_142 : decode cX2_passDraw 142 = .ok (.pop, 1) := by decide +kernel
theorem dX2_passDraw_143 : decode cX2_passDraw 143 = .ok (.return_, 1) := by decide +kernel
theorem dX3_init_0 : decode cX3_init 0 = .ok (.aload_n 0, 1) := by decide +kernel
theorem dX3_init_1 : decode cX3_init 1 = .ok (.invokespecial 3, 3) := by decide +kernel
theorem dX3_init_4 : decode cX3_init 4 = .ok (.aload_n 0, 1) := by decide +kernel
theorem dX3_init_5 : decode cX3_init 5 = .ok (.iconst 5, 1) := by decide +kernel
theorem dX3_init_6 : decode cX3_init 6 = .ok (.newarray .int, 2) := by decide +kernel
theorem dX3_init_8 : decode cX3_init 8 = .ok (.putfield 9, 3) := by decide +kernel
theorem dX3_init_11 : decode cX3_init 11 = .ok (.aload_n 0, 1) := by decide +kernel
theorem dX3_init_12 : decode cX3_init 12 = .ok (.iconst 5, 1) := by decide +kernel
theorem dX3_init_13 : decode cX3_init 13 = .ok (.newarray .int, 2) := by decide +kernel
theorem dX3_init_15 : decode cX3_init 15 = .ok (.putfield 15, 3) := by decide +kernel
theorem dX3_init_18 : decode cX3_init 18 = .ok (.aload_n 0, 1) := by decide +kernel
theorem dX3_init_19 : decode cX3_init 19 = .ok (.aload_n 1, 1) := by decide +kernel
theorem dX3_init_20 : decode cX3_init 20 = .ok (.putfield 18, 3) := by decide +kernel
theorem dX3_init_23 : decode cX3_init 23 = .ok (.return_, 1) := by decide +kernel
theorem dX3_inRings_0 : decode cX3_inRings 0 = .ok (.aload_n 0, 1) := by decide +kernel
theorem dX3_inRings_1 : decode cX3_inRings 1 = .ok (.invokevirtual 22, 3) := by decide +kernel
theorem dX3_inRings_4 : decode cX3_inRings 4 = .ok (.iconst 0, 1) := by decide +kernel
theorem dX3_inRings_5 : decode cX3_inRings 5 = .ok (.istore_n 1, 1) := by decide +kernel
theorem dX3_inRings_6 : decode cX3_inRings 6 = .ok (.iconst 0, 1) := by decide +kernel
theorem dX3_inRings_7 : decode cX3_inRings 7 = .ok (.istore_n 2, 1) := by decide +kernel
theorem dX3_inRings_8 : decode cX3_inRings 8 = .ok (.iload_n 2, 1) := by decide +kernel
theorem dX3_inRings_9 : decode cX3_inRings 9 = .ok (.iconst 5, 1) := by decide +kernel
theorem dX3_inRings_10 : decode cX3_inRings 10 = .ok (.if_icmp .ge 25, 3) := by decide +kernel
theorem dX3_inRings_13 : decode cX3_inRings 13 = .ok (.aload_n 0, 1) := by decide +kernel
theorem dX3_inRings_14 : decode cX3_inRings 14 = .ok (.getfield 15, 3) := by decide +kernel
theorem dX3_inRings_17 : decode cX3_inRings 17 = .ok (.iload_n 2, 1) := by decide +kernel
theorem dX3_inRings_18 : decode cX3_inRings 18 = .ok (.iaload, 1) := by decide +kernel
theorem dX3_inRings_19 : decode cX3_inRings 19 = .ok (.iconst (-1), 1) := by decide +kernel
theorem dX3_inRings_20 : decode cX3_inRings 20 = .ok (.if_icmp .eq 9, 3) := by decide +kernel
theorem dX3_inRings_23 : decode cX3_inRings 23 = .ok (.iload_n 1, 1) := by decide +kernel
theorem dX3_inRings_24 : decode cX3_inRings 24 = .ok (.iconst 1, 1) := by decide +kernel
theorem dX3_inRings_25 : decode cX3_inRings 25 = .ok (.iload_n 2, 1) := by decide +kernel
theorem dX3_inRings_26 : decode cX3_inRings 26 = .ok (.ishl, 1) := by decide +kernel
theorem dX3_inRings_27 : decode cX3_inRings 27 = .ok (.ior, 1) := by decide +kernel
theorem dX3_inRings_28 : decode cX3_inRings 28 = .ok (.istore_n 1, 1) := by decide +kernel
theorem dX3_inRings_29 : decode cX3_inRings 29 = .ok (.iinc 2 1, 3) := by decide +kernel
theorem dX3_inRings_32 : decode cX3_inRings 32 = .ok (.goto (-24), 3) := by decide +kernel
theorem dX3_inRings_35 : decode cX3_inRings 35 = .ok (.iload_n 1, 1) := by decide +kernel
theorem dX3_inRings_36 : decode cX3_inRings 36 = .ok (.ireturn, 1) := by decide +kernel
theorem dX3_giver_0 : decode cX3_giver 0 = .ok (.aload_n 0, 1) := by decide +kernel
theorem dX3_giver_1 : decode cX3_giver 1 = .ok (.invokevirtual 22, 3) := by decide +kernel
theorem dX3_giver_4 : decode cX3_giver 4 = .ok (.iload_n 1, 1) := by decide +kernel
theorem dX3_giver_5 : decode cX3_giver 5 = .ok (.invokestatic 25, 3) := by decide +kernel
theorem dX3_giver_8 : decode cX3_giver 8 = .ok (.ifCond .eq 12, 3) := by decide +kernel
theorem dX3_giver_11 : decode cX3_giver 11 = .ok (.aload_n 0, 1) := by decide +kernel
theorem dX3_giver_12 : decode cX3_giver 12 = .ok (.getfield 15, 3) := by decide +kernel
theorem dX3_giver_15 : decode cX3_giver 15 = .ok (.iload_n 1, 1) := by decide +kernel
theorem dX3_giver_16 : decode cX3_giver 16 = .ok (.iaload, 1) := by decide +kernel
theorem dX3_giver_17 : decode cX3_giver 17 = .ok (.goto 4, 3) := by decide +kernel
theorem dX3_giver_20 : decode cX3_giver 20 = .ok (.iconst (-1), 1) := by decide +kernel
theorem dX3_giver_21 : decode cX3_giver 21 = .ok (.ireturn, 1) := by decide +kernel
theorem dX3_seekRings_0 : decode cX3_seekRings 0 = .ok (.iconst 0, 1) := by decide +kernel
theorem dX3_seekRings_1 : decode cX3_seekRings 1 = .ok (.istore_n 1, 1) := by decide +kernel
theorem dX3_seekRings_2 : decode cX3_seekRings 2 = .ok (.iload_n 1, 1) := by decide +kernel
theorem dX3_seekRings_3 : decode cX3_seekRings 3 = .ok (.iconst 5, 1) := by decide +kernel
theorem dX3_seekRings_4 : decode cX3_seekRings 4 = .ok (.if_icmp .ge 23, 3) := by decide +kernel
theorem dX3_seekRings_7 : decode cX3_seekRings 7 = .ok (.aload_n 0, 1) := by decide +kernel
theorem dX3_seekRings_8 : decode cX3_seekRings 8 = .ok (.getfield 9, 3) := by decide +kernel
theorem dX3_seekRings_11 : decode cX3_seekRings 11 = .ok (.iload_n 1, 1) := by decide +kernel
theorem dX3_seekRings_12 : decode cX3_seekRings 12 = .ok (.iconst (-1), 1) := by decide +kernel
theorem dX3_seekRings_13 : decode cX3_seekRings 13 = .ok (.iastore, 1) := by decide +kernel
theorem dX3_seekRings_14 : decode cX3_seekRings 14 = .ok (.aload_n 0, 1) := by decide +kernel
theorem dX3_seekRings_15 : decode cX3_seekRings 15 = .ok (.getfield 15, 3) := by decide +kernel
theorem dX3_seekRings_18 : decode cX3_seekRings 18 = .ok (.iload_n 1, 1) := by decide +kernel
theorem dX3_seekRings_19 : decode cX3_seekRings 19 = .ok (.iconst (-1), 1) := by decide +kernel
theorem dX3_seekRings_20 : decode cX3_seekRings 20 = .ok (.iastore, 1) := by decide +kernel
theorem dX3_seekRings_21 : decode cX3_seekRings 21 = .ok (.iinc 1 1, 3) := by decide +kernel
theorem dX3_seekRings_24 : decode cX3_seekRings 24 = .ok (.goto (-22), 3) := by decide +kernel
theorem dX3_seekRings_27 : decode cX3_seekRings 27 = .ok (.aload_n 0, 1) := by decide +kernel
theorem dX3_seekRings_28 : decode cX3_seekRings 28 = .ok (.iconst 0, 1) := by decide +kernel
theorem dX3_seekRings_29 : decode cX3_seekRings 29 = .ok (.putfield 29, 3) := by decide +kernel
theorem dX3_seekRings_32 : decode cX3_seekRings 32 = .ok (.aload_n 0, 1) := by decide +kernel
theorem dX3_seekRings_33 : decode cX3_seekRings 33 = .ok (.iconst 0, 1) := by decide +kernel
theorem dX3_seekRings_34 : decode cX3_seekRings 34 = .ok (.iconst 0, 1) := by decide +kernel
theorem dX3_seekRings_35 : decode cX3_seekRings 35 = .ok (.invokevirtual 33, 3) := by decide +kernel
theorem dX3_seekRings_38 : decode cX3_seekRings 38 = .ok (.return_, 1) := by decide +kernel
theorem dX3_place_0 : decode cX3_place 0 = .ok (.iload_n 1, 1) := by decide +kernel
theorem dX3_place_1 : decode cX3_place 1 = .ok (.ifCond .lt 8, 3) := by decide +kernel
theorem dX3_place_4 : decode cX3_place 4 = .ok (.iload_n 1, 1) := by decide +kernel
theorem dX3_place_5 : decode cX3_place 5 = .ok (.iconst 5, 1) := by decide +kernel
theorem dX3_place_6 : decode cX3_place 6 = .ok (.if_icmp .lt 9, 3) := by decide +kernel
theorem dX3_place_9 : decode cX3_place 9 = .ok (.aload_n 0, 1) := by decide +kernel
theorem dX3_place_10 : decode cX3_place 10 = .ok (.iload_n 2, 1) := by decide +kernel
theorem dX3_place_11 : decode cX3_place 11 = .ok (.invokevirtual 37, 3) := by decide +kernel
theorem dX3_place_14 : decode cX3_place 14 = .ok (.return_, 1) := by decide +kernel
theorem dX3_place_15 : decode cX3_place 15 = .ok (.aload_n 0, 1) := by decide +kernel
theorem dX3_place_16 : decode cX3_place 16 = .ok (.getfield 9, 3) := by decide +kernel
theorem dX3_place_19 : decode cX3_place 19 = .ok (.iload_n 1, 1) := by decide +kernel
theorem dX3_place_20 : decode cX3_place 20 = .ok (.iaload, 1) := by decide +kernel
theorem dX3_place_21 : decode cX3_place 21 = .ok (.iconst (-1), 1) := by decide +kernel
theorem dX3_place_22 : decode cX3_place 22 = .ok (.if_icmp .ne 51, 3) := by decide +kernel
theorem dX3_place_25 : decode cX3_place 25 = .ok (.iload_n 1, 1) := by decide +kernel
theorem dX3_place_26 : decode cX3_place 26 = .ok (.iconst 1, 1) := by decide +kernel
theorem dX3_place_27 : decode cX3_place 27 = .ok (.iadd, 1) := by decide +kernel
theorem dX3_place_28 : decode cX3_place 28 = .ok (.istore_n 3, 1) := by decide +kernel
theorem dX3_place_29 : decode cX3_place 29 = .ok (.iload_n 3, 1) := by decide +kernel
theorem dX3_place_30 : decode cX3_place 30 = .ok (.iconst 5, 1) := by decide +kernel
theorem dX3_place_31 : decode cX3_place 31 = .ok (.if_icmp .ge 42, 3) := by decide +kernel
theorem dX3_place_34 : decode cX3_place 34 = .ok (.aload_n 0, 1) := by decide +kernel
theorem dX3_place_35 : decode cX3_place 35 = .ok (.getfield 9, 3) := by decide +kernel
theorem dX3_place_38 : decode cX3_place 38 = .ok (.iload_n 3, 1) := by decide +kernel
theorem dX3_place_39 : decode cX3_place 39 = .ok (.iaload, 1) := by decide +kernel
theorem dX3_place_40 : decode cX3_place 40 = .ok (.iconst (-1), 1) := by decide +kernel
theorem dX3_place_41 : decode cX3_place 41 = .ok (.if_icmp .ne 26, 3) := by decide +kernel
theorem dX3_place_44 : decode cX3_place 44 = .ok (.aload_n 0, 1) := by decide +kernel
theorem dX3_place_45 : decode cX3_place 45 = .ok (.getfield 18, 3) := by decide +kernel
theorem dX3_place_48 : decode cX3_place 48 = .ok (.getfield 41, 3) := by decide +kernel
theorem dX3_place_51 : decode cX3_place 51 = .ok (.iload_n 1, 1) := by decide +kernel
theorem dX3_place_52 : decode cX3_place 52 = .ok (.iaload, 1) := by decide +kernel
theorem dX3_place_53 : decode cX3_place 53 = .ok (.iload_n 3, 1) := by decide +kernel
theorem dX3_place_54 : decode cX3_place 54 = .ok (.invokestatic 46, 3) := by decide +kernel
theorem dX3_place_57 : decode cX3_place 57 = .ok (.ifCond .eq 10, 3) := by decide +kernel
theorem dX3_place_60 : decode cX3_place 60 = .ok (.aload_n 0, 1) := by decide +kernel
theorem dX3_place_61 : decode cX3_place 61 = .ok (.iload_n 1, 1) := by decide +kernel
theorem dX3_place_62 : decode cX3_place 62 = .ok (.iload_n 3, 1) := by decide +kernel
theorem dX3_place_63 : decode cX3_place 63 = .ok (.iload_n 2, 1) := by decide +kernel
theorem dX3_place_64 : decode cX3_place 64 = .ok (.invokevirtual 50, 3) := by decide +kernel
theorem dX3_place_67 : decode cX3_place 67 = .ok (.iinc 3 1, 3) := by decide +kernel
theorem dX3_place_70 : decode cX3_place 70 = .ok (.goto (-41), 3) := by decide +kernel
theorem dX3_place_73 : decode cX3_place 73 = .ok (.aload_n 0, 1) := by decide +kernel
theorem dX3_place_74 : decode cX3_place 74 = .ok (.iload_n 1, 1) := by decide +kernel
theorem dX3_place_75 : decode cX3_place 75 = .ok (.iconst 1, 1) := by decide +kernel
theorem dX3_place_76 : decode cX3_place 76 = .ok (.iadd, 1) := by decide +kernel
theorem dX3_place_77 : decode cX3_place 77 = .ok (.iload_n 2, 1) := by decide +kernel
theorem dX3_place_78 : decode cX3_place 78 = .ok (.invokevirtual 33, 3) := by decide +kernel
theorem dX3_place_81 : decode cX3_place 81 = .ok (.return_, 1) := by decide +kernel
theorem dX3_placeWith_0 : decode cX3_placeWith 0 = .ok (.iload_n 1, 1) := by decide +kernel
theorem dX3_placeWith_1 : decode cX3_placeWith 1 = .ok (.invokestatic 25, 3) := by decide +kernel
theorem dX3_placeWith_4 : decode cX3_placeWith 4 = .ok (.ifCond .eq 10, 3) := by decide +kernel
theorem dX3_placeWith_7 : decode cX3_placeWith 7 = .ok (.iload_n 2, 1) := by decide +kernel
theorem dX3_placeWith_8 : decode cX3_placeWith 8 = .ok (.invokestatic 25, 3) := by decide +kernel
theorem dX3_placeWith_11 : decode cX3_placeWith 11 = .ok (.ifCond .ne 4, 3) := by decide +kernel
theorem dX3_placeWith_14 : decode cX3_placeWith 14 = .ok (.return_, 1) := by decide +kernel
theorem dX3_placeWith_15 : decode cX3_placeWith 15 = .ok (.aload_n 0, 1) := by decide +kernel
theorem dX3_placeWith_16 : decode cX3_placeWith 16 = .ok (.getfield 9, 3) := by decide +kernel
theorem dX3_placeWith_19 : decode cX3_placeWith 19 = .ok (.iload_n 1, 1) := by decide +kernel
theorem dX3_placeWith_20 : decode cX3_placeWith 20 = .ok (.iload_n 2, 1) := by decide +kernel
theorem dX3_placeWith_21 : decode cX3_placeWith 21 = .ok (.iastore, 1) := by decide +kernel
theorem dX3_placeWith_22 : decode cX3_placeWith 22 = .ok (.aload_n 0, 1) := by decide +kernel
theorem dX3_placeWith_23 : decode cX3_placeWith 23 = .ok (.getfield 18, 3) := by decide +kernel
theorem dX3_placeWith_26 : decode cX3_placeWith 26 = .ok (.getfield 41, 3) := by decide +kernel
theorem dX3_placeWith_29 : decode cX3_placeWith 29 = .ok (.iload_n 2, 1) := by decide +kernel
theorem dX3_placeWith_30 : decode cX3_placeWith 30 = .ok (.iaload, 1) := by decide +kernel
theorem dX3_placeWith_31 : decode cX3_placeWith 31 = .ok (.iload_n 1, 1) := by decide +kernel
theorem dX3_placeWith_32 : decode cX3_placeWith 32 = .ok (.invokestatic 46, 3) := by decide +kernel
theorem dX3_placeWith_35 : decode cX3_placeWith 35 = .ok (.ifCond .eq 20, 3) := by decide +kernel
theorem dX3_placeWith_38 : decode cX3_placeWith 38 = .ok (.aload_n 0, 1) := by decide +kernel
theorem dX3_placeWith_39 : decode cX3_placeWith 39 = .ok (.getfield 9, 3) := by decide +kernel
theorem dX3_placeWith_42 : decode cX3_placeWith 42 = .ok (.iload_n 2, 1) := by decide +kernel
theorem dX3_placeWith_43 : decode cX3_placeWith 43 = .ok (.iload_n 1, 1) := by decide +kernel
theorem dX3_placeWith_44 : decode cX3_placeWith 44 = .ok (.iastore, 1) := by decide +kernel
theorem dX3_placeWith_45 : decode cX3_placeWith 45 = .ok (.aload_n 0, 1) := by decide +kernel
theorem dX3_placeWith_46 : decode cX3_placeWith 46 = .ok (.iload_n 1, 1) := by decide +kernel
theorem dX3_placeWith_47 : decode cX3_placeWith 47 = .ok (.iconst 1, 1) := by decide +kernel
theorem dX3_placeWith_48 : decode cX3_placeWith 48 = .ok (.iadd, 1) := by decide +kernel
theorem dX3_placeWith_49 : decode cX3_placeWith 49 = .ok (.iload_n 3, 1) := by decide +kernel
theorem dX3_placeWith_50 : decode cX3_placeWith 50 = .ok (.iconst 2, 1) := by decide +kernel
theorem dX3_placeWith_51 : decode cX3_placeWith 51 = .ok (.iadd, 1) := by decide +kernel
theorem dX3_placeWith_52 : decode cX3_placeWith 52 = .ok (.invokevirtual 33, 3) := by decide +kernel
theorem dX3_placeWith_55 : decode cX3_placeWith 55 = .ok (.iload_n 1, 1) := by decide +kernel
theorem dX3_placeWith_56 : decode cX3_placeWith 56 = .ok (.iconst 1, 1) := by decide +kernel
theorem dX3_placeWith_57 : decode cX3_placeWith 57 = .ok (.iadd, 1) := by decide +kernel
theorem dX3_placeWith_58 : decode cX3_placeWith 58 = .ok (.istore 4, 2) := by decide +kernel
theorem dX3_placeWith_60 : decode cX3_placeWith 60 = .ok (.iload 4, 2) := by decide +kernel
theorem dX3_placeWith_62 : decode cX3_placeWith 62 = .ok (.iconst 5, 1) := by decide +kernel
theorem dX3_placeWith_63 : decode cX3_placeWith 63 = .ok (.if_icmp .ge 94, 3) := by decide +kernel
theorem dX3_placeWith_66 : decode cX3_placeWith 66 = .ok (.iload 4, 2) := by decide +kernel
theorem dX3_placeWith_68 : decode cX3_placeWith 68 = .ok (.iload_n 2, 1) := by decide +kernel
theorem dX3_placeWith_69 : decode cX3_placeWith 69 = .ok (.if_icmp .eq 82, 3) := by decide +kernel
theorem dX3_placeWith_72 : decode cX3_placeWith 72 = .ok (.aload_n 0, 1) := by decide +kernel
theorem dX3_placeWith_73 : decode cX3_placeWith 73 = .ok (.getfield 9, 3) := by decide +kernel
theorem dX3_placeWith_76 : decode cX3_placeWith 76 = .ok (.iload 4, 2) := by decide +kernel
theorem dX3_placeWith_78 : decode cX3_placeWith 78 = .ok (.iaload, 1) := by decide +kernel
theorem dX3_placeWith_79 : decode cX3_placeWith 79 = .ok (.iconst (-1), 1) := by decide +kernel
theorem dX3_placeWith_80 : decode cX3_placeWith 80 = .ok (.if_icmp .ne 71, 3) := by decide +kernel
theorem dX3_placeWith_83 : decode cX3_placeWith 83 = .ok (.aload_n 0, 1) := by decide +kernel
theorem dX3_placeWith_84 : decode cX3_placeWith 84 = .ok (.getfield 18, 3) := by decide +kernel
theorem dX3_placeWith_87 : decode cX3_placeWith 87 = .ok (.getfield 41, 3) := by decide +kernel
theorem dX3_placeWith_90 : decode cX3_placeWith 90 = .ok (.iload_n 2, 1) := by decide +kernel
theorem dX3_placeWith_91 : decode cX3_placeWith 91 = .ok (.iaload, 1) := by decide +kernel
theorem dX3_placeWith_92 : decode cX3_placeWith 92 = .ok (.iload 4, 2) := by decide +kernel
theorem dX3_placeWith_94 : decode cX3_placeWith 94 = .ok (.invokestatic 46, 3) := by decide +kernel
theorem dX3_placeWith_97 : decode cX3_placeWith 97 = .ok (.ifCond .eq 54, 3) := by decide +kernel
theorem dX3_placeWith_100 : decode cX3_placeWith 100 = .ok (.aload_n 0, 1) := by decide +kernel
theorem dX3_placeWith_101 : decode cX3_placeWith 101 = .ok (.getfield 18, 3) := by decide +kernel
theorem dX3_placeWith_104 : decode cX3_placeWith 104 = .ok (.getfield 41, 3) := by decide +kernel
theorem dX3_placeWith_107 : decode cX3_placeWith 107 = .ok (.iload 4, 2) := by decide +kernel
theorem dX3_placeWith_109 : decode cX3_placeWith 109 = .ok (.iaload, 1) := by decide +kernel
theorem dX3_placeWith_110 : decode cX3_placeWith 110 = .ok (.iload_n 1, 1) := by decide +kernel
theorem dX3_placeWith_111 : decode cX3_placeWith 111 = .ok (.invokestatic 46, 3) := by decide +kernel
theorem dX3_placeWith_114 : decode cX3_placeWith 114 = .ok (.ifCond .eq 37, 3) := by decide +kernel
theorem dX3_placeWith_117 : decode cX3_placeWith 117 = .ok (.aload_n 0, 1) := by decide +kernel
theorem dX3_placeWith_118 : decode cX3_placeWith 118 = .ok (.getfield 9, 3) := by decide +kernel
theorem dX3_placeWith_121 : decode cX3_placeWith 121 = .ok (.iload_n 2, 1) := by decide +kernel
theorem dX3_placeWith_122 : decode cX3_placeWith 122 = .ok (.iload 4, 2) := by decide +kernel
theorem dX3_placeWith_124 : decode cX3_placeWith 124 = .ok (.iastore, 1) := by decide +kernel
theorem dX3_placeWith_125 : decode cX3_placeWith 125 = .ok (.aload_n 0, 1) := by decide +kernel
theorem dX3_placeWith_126 : decode cX3_placeWith 126 = .ok (.getfield 9, 3) := by decide +kernel
theorem dX3_placeWith_129 : decode cX3_placeWith 129 = .ok (.iload 4, 2) := by decide +kernel
theorem dX3_placeWith_131 : decode cX3_placeWith 131 = .ok (.iload_n 1, 1) := by decide +kernel
theorem dX3_placeWith_132 : decode cX3_placeWith 132 = .ok (.iastore, 1) := by decide +kernel
theorem dX3_placeWith_133 : decode cX3_placeWith 133 = .ok (.aload_n 0, 1) := by decide +kernel
theorem dX3_placeWith_134 : decode cX3_placeWith 134 = .ok (.iload_n 1, 1) := by decide +kernel
theorem dX3_placeWith_135 : decode cX3_placeWith 135 = .ok (.iconst 1, 1) := by decide +kernel
theorem dX3_placeWith_136 : decode cX3_placeWith 136 = .ok (.iadd, 1) := by decide +kernel
theorem dX3_placeWith_137 : decode cX3_placeWith 137 = .ok (.iload_n 3, 1) := by decide +kernel
theorem dX3_placeWith_138 : decode cX3_placeWith 138 = .ok (.iconst 3, 1) := by decide +kernel
theorem dX3_placeWith_139 : decode cX3_placeWith 139 = .ok (.iadd, 1) := by decide +kernel
theorem dX3_placeWith_140 : decode cX3_placeWith 140 = .ok (.invokevirtual 33, 3) := by decide +kernel
theorem dX3_placeWith_143 : decode cX3_placeWith 143 = .ok (.aload_n 0, 1) := by decide +kernel
theorem dX3_placeWith_144 : decode cX3_placeWith 144 = .ok (.getfield 9, 3) := by decide +kernel
theorem dX3_placeWith_147 : decode cX3_placeWith 147 = .ok (.iload 4, 2) := by decide +kernel
theorem dX3_placeWith_149 : decode cX3_placeWith 149 = .ok (.iconst (-1), 1) := by decide +kernel
theorem dX3_placeWith_150 : decode cX3_placeWith 150 = .ok (.iastore, 1) := by decide +kernel
theorem dX3_placeWith_151 : decode cX3_placeWith 151 = .ok (.iinc 4 1, 3) := by decide +kernel
theorem dX3_placeWith_154 : decode cX3_placeWith 154 = .ok (.goto (-94), 3) := by decide +kernel
theorem dX3_placeWith_157 : decode cX3_placeWith 157 = .ok (.aload_n 0, 1) := by decide +kernel
theorem dX3_placeWith_158 : decode cX3_placeWith 158 = .ok (.getfield 9, 3) := by decide +kernel
theorem dX3_placeWith_161 : decode cX3_placeWith 161 = .ok (.iload_n 2, 1) := by decide +kernel
theorem dX3_placeWith_162 : decode cX3_placeWith 162 = .ok (.iconst (-1), 1) := by decide +kernel
theorem dX3_placeWith_163 : decode cX3_placeWith 163 = .ok (.iastore, 1) := by decide +kernel
theorem dX3_placeWith_164 : decode cX3_placeWith 164 = .ok (.aload_n 0, 1) := by decide +kernel
theorem dX3_placeWith_165 : decode cX3_placeWith 165 = .ok (.getfield 9, 3) := by decide +kernel
theorem dX3_placeWith_168 : decode cX3_placeWith 168 = .ok (.iload_n 1, 1) := by decide +kernel
theorem dX3_placeWith_169 : decode cX3_placeWith 169 = .ok (.iconst (-1), 1) := by decide +kernel
theorem dX3_placeWith_170 : decode cX3_placeWith 170 = .ok (.iastore, 1) := by decide +kernel
theorem dX3_placeWith_171 : decode cX3_placeWith 171 = .ok (.return_, 1) := by decide +kernel
theorem dX3_weigh_0 : decode cX3_weigh 0 = .ok (.iload_n 1, 1) := by decide +kernel
theorem dX3_weigh_1 : decode cX3_weigh 1 = .ok (.aload_n 0, 1) := by decide +kernel
theorem dX3_weigh_2 : decode cX3_weigh 2 = .ok (.getfield 29, 3) := by decide +kernel
theorem dX3_weigh_5 : decode cX3_weigh 5 = .ok (.if_icmp .gt 18, 3) := by decide +kernel
theorem dX3_weigh_8 : decode cX3_weigh 8 = .ok (.iload_n 1, 1) := by decide +kernel
theorem dX3_weigh_9 : decode cX3_weigh 9 = .ok (.aload_n 0, 1) := by decide +kernel
theorem dX3_weigh_10 : decode cX3_weigh 10 = .ok (.getfield 29, 3) := by decide +kernel
theorem dX3_weigh_13 : decode cX3_weigh 13 = .ok (.if_icmp .ne 29, 3) := by decide +kernel
theorem dX3_weigh_16 : decode cX3_weigh 16 = .ok (.aload_n 0, 1) := by decide +kernel
theorem dX3_weigh_17 : decode cX3_weigh 17 = .ok (.invokevirtual 54, 3) := by decide +kernel
theorem dX3_weigh_20 : decode cX3_weigh 20 = .ok (.ifCond .eq 22, 3) := by decide +kernel
theorem dX3_weigh_23 : decode cX3_weigh 23 = .ok (.aload_n 0, 1) := by decide +kernel
theorem dX3_weigh_24 : decode cX3_weigh 24 = .ok (.getfield 9, 3) := by decide +kernel
theorem dX3_weigh_27 : decode cX3_weigh 27 = .ok (.iconst 0, 1) := by decide +kernel
theorem dX3_weigh_28 : decode cX3_weigh 28 = .ok (.aload_n 0, 1) := by decide +kernel
theorem dX3_weigh_29 : decode cX3_weigh 29 = .ok (.getfield 15, 3) := by decide +kernel
theorem dX3_weigh_32 : decode cX3_weigh 32 = .ok (.iconst 0, 1) := by decide +kernel
theorem dX3_weigh_33 : decode cX3_weigh 33 = .ok (.iconst 5, 1) := by decide +kernel
theorem dX3_weigh_34 : decode cX3_weigh 34 = .ok (.invokestatic 58, 3) := by decide +kernel
theorem dX3_weigh_37 : decode cX3_weigh 37 = .ok (.aload_n 0, 1) := by decide +kernel
theorem dX3_weigh_38 : decode cX3_weigh 38 = .ok (.iload_n 1, 1) := by decide +kernel
theorem dX3_weigh_39 : decode cX3_weigh 39 = .ok (.putfield 29, 3) := by decide +kernel
theorem dX3_weigh_42 : decode cX3_weigh 42 = .ok (.return_, 1) := by decide +kernel
theorem dX3_isLower_0 : decode cX3_isLower 0 = .ok (.iconst 0, 1) := by decide +kernel
theorem dX3_isLower_1 : decode cX3_isLower 1 = .ok (.istore_n 1, 1) := by decide +kernel
theorem dX3_isLower_2 : decode cX3_isLower 2 = .ok (.iload_n 1, 1) := by decide +kernel
theorem dX3_isLower_3 : decode cX3_isLower 3 = .ok (.iconst 5, 1) := by decide +kernel
theorem dX3_isLower_4 : decode cX3_isLower 4 = .ok (.if_icmp .ge 65, 3) := by decide +kernel
theorem dX3_isLower_7 : decode cX3_isLower 7 = .ok (.aload_n 0, 1) := by decide +kernel
theorem dX3_isLower_8 : decode cX3_isLower 8 = .ok (.getfield 9, 3) := by decide +kernel
theorem dX3_isLower_11 : decode cX3_isLower 11 = .ok (.iload_n 1, 1) := by decide +kernel
theorem dX3_isLower_12 : decode cX3_isLower 12 = .ok (.iaload, 1) := by decide +kernel
theorem dX3_isLower_13 : decode cX3_isLower 13 = .ok (.aload_n 0, 1) := by decide +kernel
theorem dX3_isLower_14 : decode cX3_isLower 14 = .ok (.getfield 15, 3) := by decide +kernel
theorem dX3_isLower_17 : decode cX3_isLower 17 = .ok (.iload_n 1, 1) := by decide +kernel
theorem dX3_isLower_18 : decode cX3_isLower 18 = .ok (.iaload, 1) := by decide +kernel
theorem dX3_isLower_19 : decode cX3_isLower 19 = .ok (.if_icmp .eq 44, 3) := by decide +kernel
theorem dX3_isLower_22 : decode cX3_isLower 22 = .ok (.aload_n 0, 1) := by decide +kernel
theorem dX3_isLower_23 : decode cX3_isLower 23 = .ok (.getfield 15, 3) := by decide +kernel
theorem dX3_isLower_26 : decode cX3_isLower 26 = .ok (.iload_n 1, 1) := by decide +kernel
theorem dX3_isLower_27 : decode cX3_isLower 27 = .ok (.iaload, 1) := by decide +kernel
theorem dX3_isLower_28 : decode cX3_isLower 28 = .ok (.iconst (-1), 1) := by decide +kernel
theorem dX3_isLower_29 : decode cX3_isLower 29 = .ok (.if_icmp .eq 28, 3) := by decide +kernel
theorem dX3_isLower_32 : decode cX3_isLower 32 = .ok (.aload_n 0, 1) := by decide +kernel
theorem dX3_isLower_33 : decode cX3_isLower 33 = .ok (.getfield 9, 3) := by decide +kernel
theorem dX3_isLower_36 : decode cX3_isLower 36 = .ok (.iload_n 1, 1) := by decide +kernel
theorem dX3_isLower_37 : decode cX3_isLower 37 = .ok (.iaload, 1) := by decide +kernel
theorem dX3_isLower_38 : decode cX3_isLower 38 = .ok (.iconst (-1), 1) := by decide +kernel
theorem dX3_isLower_39 : decode cX3_isLower 39 = .ok (.if_icmp .eq 22, 3) := by decide +kernel
theorem dX3_isLower_42 : decode cX3_isLower 42 = .ok (.aload_n 0, 1) := by decide +kernel
theorem dX3_isLower_43 : decode cX3_isLower 43 = .ok (.getfield 9, 3) := by decide +kernel
theorem dX3_isLower_46 : decode cX3_isLower 46 = .ok (.iload_n 1, 1) := by decide +kernel
theorem dX3_isLower_47 : decode cX3_isLower 47 = .ok (.iaload, 1) := by decide +kernel
theorem dX3_isLower_48 : decode cX3_isLower 48 = .ok (.aload_n 0, 1) := by decide +kernel
theorem dX3_isLower_49 : decode cX3_isLower 49 = .ok (.getfield 15, 3) := by decide +kernel
theorem dX3_isLower_52 : decode cX3_isLower 52 = .ok (.iload_n 1, 1) := by decide +kernel
theorem dX3_isLower_53 : decode cX3_isLower 53 = .ok (.iaload, 1) := by decide +kernel
theorem dX3_isLower_54 : decode cX3_isLower 54 = .ok (.if_icmp .ge 7, 3) := by decide +kernel
theorem dX3_isLower_57 : decode cX3_isLower 57 = .ok (.iconst 1, 1) := by decide +kernel
theorem dX3_isLower_58 : decode cX3_isLower 58 = .ok (.goto 4, 3) := by decide +kernel
theorem dX3_isLower_61 : decode cX3_isLower 61 = .ok (.iconst 0, 1) := by decide +kernel
theorem dX3_isLower_62 : decode cX3_isLower 62 = .ok (.ireturn, 1) := by decide +kernel
theorem dX3_isLower_63 : decode cX3_isLower 63 = .ok (.iinc 1 1, 3) := by decide +kernel
theorem dX3_isLower_66 : decode cX3_isLower 66 = .ok (.goto (-64), 3) := by decide +kernel
theorem dX3_isLower_69 : decode cX3_isLower 69 = .ok (.iconst 0, 1) := by decide +kernel
theorem dX3_isLower_70 : decode cX3_isLower 70 = .ok (.ireturn, 1) := by decide +kernel
theorem dX3_certain_0 : decode cX3_certain 0 = .ok (.lconst 1, 1) := by decide +kernel
theorem dX3_certain_1 : decode cX3_certain 1 = .ok (.lstore_n 1, 1) := by decide +kernel
theorem dX3_certain_2 : decode cX3_certain 2 = .ok (.iconst 0, 1) := by decide +kernel
theorem dX3_certain_3 : decode cX3_certain 3 = .ok (.istore_n 3, 1) := by decide +kernel
theorem dX3_certain_4 : decode cX3_certain 4 = .ok (.iload_n 3, 1) := by decide +kernel
theorem dX3_certain_5 : decode cX3_certain 5 = .ok (.iconst 5, 1) := by decide +kernel
theorem dX3_certain_6 : decode cX3_certain 6 = .ok (.if_icmp .ge 29, 3) := by decide +kernel
theorem dX3_certain_9 : decode cX3_certain 9 = .ok (.iload_n 3, 1) := by decide +kernel
theorem dX3_certain_10 : decode cX3_certain 10 = .ok (.aload_n 0, 1) := by decide +kernel
theorem dX3_certain_11 : decode cX3_certain 11 = .ok (.getfield 18, 3) := by decide +kernel
theorem dX3_certain_14 : decode cX3_certain 14 = .ok (.getfield 64, 3) := by decide +kernel
theorem dX3_certain_17 : decode cX3_certain 17 = .ok (.getfield 68, 3) := by decide +kernel
theorem dX3_certain_20 : decode cX3_certain 20 = .ok (.if_icmp .ge 15, 3) := by decide +kernel
theorem dX3_certain_23 : decode cX3_certain 23 = .ok (.lload_n 1, 1) := by decide +kernel
theorem dX3_certain_24 : decode cX3_certain 24 = .ok (.ldc2_w 73, 3) := by decide +kernel
theorem dX3_certain_27 : decode cX3_certain 27 = .ok (.lmul, 1) := by decide +kernel
theorem dX3_certain_28 : decode cX3_certain 28 = .ok (.lstore_n 1, 1) := by decide +kernel
theorem dX3_certain_29 : decode cX3_certain 29 = .ok (.iinc 3 1, 3) := by decide +kernel
theorem dX3_certain_32 : decode cX3_certain 32 = .ok (.goto (-28), 3) := by decide +kernel
theorem dX3_certain_35 : decode cX3_certain 35 = .ok (.lload_n 1, 1) := by decide +kernel
theorem dX3_certain_36 : decode cX3_certain 36 = .ok (.lreturn, 1) := by decide +kernel
theorem dX3_chance_0 : decode cX3_chance 0 = .ok (.lconst 0, 1) := by decide +kernel
theorem dX3_chance_1 : decode cX3_chance 1 = .ok (.lstore_n 2, 1) := by decide +kernel
theorem dX3_chance_2 : decode cX3_chance 2 = .ok (.iconst 0, 1) := by decide +kernel
theorem dX3_chance_3 : decode cX3_chance 3 = .ok (.istore 4, 2) := by decide +kernel
theorem dX3_chance_5 : decode cX3_chance 5 = .ok (.iload 4, 2) := by decide +kernel
theorem dX3_chance_7 : decode cX3_chance 7 = .ok (.bipush 32, 2) := by decide +kernel
theorem dX3_chance_9 : decode cX3_chance 9 = .ok (.if_icmp .ge 28, 3) := by decide +kernel
theorem dX3_chance_12 : decode cX3_chance 12 = .ok (.aload_n 0, 1) := by decide +kernel
theorem dX3_chance_13 : decode cX3_chance 13 = .ok (.iload 4, 2) := by decide +kernel
theorem dX3_chance_15 : decode cX3_chance 15 = .ok (.invokevirtual 75, 3) := by decide +kernel
theorem dX3_chance_18 : decode cX3_chance 18 = .ok (.iload_n 1, 1) := by decide +kernel
theorem dX3_chance_19 : decode cX3_chance 19 = .ok (.if_icmp .gt 12, 3) := by decide +kernel
theorem dX3_chance_22 : decode cX3_chance 22 = .ok (.lload_n 2, 1) := by decide +kernel
theorem dX3_chance_23 : decode cX3_chance 23 = .ok (.aload_n 0, 1) := by decide +kernel
theorem dX3_chance_24 : decode cX3_chance 24 = .ok (.iload 4, 2) := by decide +kernel
theorem dX3_chance_26 : decode cX3_chance 26 = .ok (.invokevirtual 79, 3) := by decide +kernel
theorem dX3_chance_29 : decode cX3_chance 29 = .ok (.ladd, 1) := by decide +kernel
theorem dX3_chance_30 : decode cX3_chance 30 = .ok (.lstore_n 2, 1) := by decide +kernel
theorem dX3_chance_31 : decode cX3_chance 31 = .ok (.iinc 4 1, 3) := by decide +kernel
theorem dX3_chance_34 : decode cX3_chance 34 = .ok (.goto (-29), 3) := by decide +kernel
theorem dX3_chance_37 : decode cX3_chance 37 = .ok (.lload_n 2, 1) := by decide +kernel
theorem dX3_chance_38 : decode cX3_chance 38 = .ok (.lreturn, 1) := by decide +kernel
theorem dX3_leastCost_0 : decode cX3_leastCost 0 = .ok (.sipush 495, 3) := by decide +kernel
theorem dX3_leastCost_3 : decode cX3_leastCost 3 = .ok (.istore_n 2, 1) := by decide +kernel
theorem dX3_leastCost_4 : decode cX3_leastCost 4 = .ok (.iconst 0, 1) := by decide +kernel
theorem dX3_leastCost_5 : decode cX3_leastCost 5 = .ok (.istore_n 3, 1) := by decide +kernel
theorem dX3_leastCost_6 : decode cX3_leastCost 6 = .ok (.iload_n 3, 1) := by decide +kernel
theorem dX3_leastCost_7 : decode cX3_leastCost 7 = .ok (.bipush 32, 2) := by decide +kernel
theorem dX3_leastCost_9 : decode cX3_leastCost 9 = .ok (.if_icmp .ge 46, 3) := by decide +kernel
theorem dX3_leastCost_12 : decode cX3_leastCost 12 = .ok (.aload_n 0, 1) := by decide +kernel
theorem dX3_leastCost_13 : decode cX3_leastCost 13 = .ok (.iload_n 3, 1) := by decide +kernel
theorem dX3_leastCost_14 : decode cX3_leastCost 14 = .ok (.invokevirtual 75, 3) := by decide +kernel
theorem dX3_leastCost_17 : decode cX3_leastCost 17 = .ok (.istore 4, 2) := by decide +kernel
theorem dX3_leastCost_19 : decode cX3_leastCost 19 = .ok (.iload 4, 2) := by decide +kernel
theorem dX3_leastCost_21 : decode cX3_leastCost 21 = .ok (.iload_n 2, 1) := by decide +kernel
theorem dX3_leastCost_22 : decode cX3_leastCost 22 = .ok (.if_icmp .ge 27, 3) := by decide +kernel
theorem dX3_leastCost_25 : decode cX3_leastCost 25 = .ok (.aload_n 0, 1) := by decide +kernel
theorem dX3_leastCost_26 : decode cX3_leastCost 26 = .ok (.iload 4, 2) := by decide +kernel
theorem dX3_leastCost_28 : decode cX3_leastCost 28 = .ok (.invokevirtual 83, 3) := by decide +kernel
theorem dX3_leastCost_31 : decode cX3_leastCost 31 = .ok (.ldc2_w 73, 3) := by decide +kernel
theorem dX3_leastCost_34 : decode cX3_leastCost 34 = .ok (.lmul, 1) := by decide +kernel
theorem dX3_leastCost_35 : decode cX3_leastCost 35 = .ok (.aload_n 0, 1) := by decide +kernel
theorem dX3_leastCost_36 : decode cX3_leastCost 36 = .ok (.invokevirtual 86, 3) := by decide +kernel
theorem dX3_leastCost_39 : decode cX3_leastCost 39 = .ok (.iload_n 1, 1) := by decide +kernel
theorem dX3_leastCost_40 : decode cX3_leastCost 40 = .ok (.i2l, 1) := by decide +kernel
theorem dX3_leastCost_41 : decode cX3_leastCost 41 = .ok (.lmul, 1) := by decide +kernel
theorem dX3_leastCost_42 : decode cX3_leastCost 42 = .ok (.lcmp, 1) := by decide +kernel
theorem dX3_leastCost_43 : decode cX3_leastCost 43 = .ok (.ifCond .lt 6, 3) := by decide +kernel
theorem dX3_leastCost_46 : decode cX3_leastCost 46 = .ok (.iload 4, 2) := by decide +kernel
theorem dX3_leastCost_48 : decode cX3_leastCost 48 = .ok (.istore_n 2, 1) := by decide +kernel
theorem dX3_leastCost_49 : decode cX3_leastCost 49 = .ok (.iinc 3 1, 3) := by decide +kernel
theorem dX3_leastCost_52 : decode cX3_leastCost 52 = .ok (.goto (-46), 3) := by decide +kernel
theorem dX3_leastCost_55 : decode cX3_leastCost 55 = .ok (.iload_n 2, 1) := by decide +kernel
theorem dX3_leastCost_56 : decode cX3_leastCost 56 = .ok (.ireturn, 1) := by decide +kernel
theorem dX3_costOf_0 : decode cX3_costOf 0 = .ok (.iconst 0, 1) := by decide +kernel
theorem dX3_costOf_1 : decode cX3_costOf 1 = .ok (.istore_n 2, 1) := by decide +kernel
theorem dX3_costOf_2 : decode cX3_costOf 2 = .ok (.iconst 0, 1) := by decide +kernel
theorem dX3_costOf_3 : decode cX3_costOf 3 = .ok (.istore_n 3, 1) := by decide +kernel
theorem dX3_costOf_4 : decode cX3_costOf 4 = .ok (.iload_n 3, 1) := by decide +kernel
theorem dX3_costOf_5 : decode cX3_costOf 5 = .ok (.iconst 5, 1) := by decide +kernel
theorem dX3_costOf_6 : decode cX3_costOf 6 = .ok (.if_icmp .ge 29, 3) := by decide +kernel
theorem dX3_costOf_9 : decode cX3_costOf 9 = .ok (.iload_n 1, 1) := by decide +kernel
theorem dX3_costOf_10 : decode cX3_costOf 10 = .ok (.iload_n 3, 1) := by decide +kernel
theorem dX3_costOf_11 : decode cX3_costOf 11 = .ok (.invokestatic 46, 3) := by decide +kernel
theorem dX3_costOf_14 : decode cX3_costOf 14 = .ok (.ifCond .eq 15, 3) := by decide +kernel
theorem dX3_costOf_17 : decode cX3_costOf 17 = .ok (.iload_n 2, 1) := by decide +kernel
theorem dX3_costOf_18 : decode cX3_costOf 18 = .ok (.aload_n 0, 1) := by decide +kernel
theorem dX3_costOf_19 : decode cX3_costOf 19 = .ok (.getfield 18, 3) := by decide +kernel
theorem dX3_costOf_22 : decode cX3_costOf 22 = .ok (.getfield 90, 3) := by decide +kernel
theorem dX3_costOf_25 : decode cX3_costOf 25 = .ok (.iload_n 3, 1) := by decide +kernel
theorem dX3_costOf_26 : decode cX3_costOf 26 = .ok (.iaload, 1) := by decide +kernel
theorem dX3_costOf_27 : decode cX3_costOf 27 = .ok (.iadd, 1) := by decide +kernel
theorem dX3_costOf_28 : decode cX3_costOf 28 = .ok (.istore_n 2, 1) := by decide +kernel
theorem dX3_costOf_29 : decode cX3_costOf 29 = .ok (.iinc 3 1, 3) := by decide +kernel
theorem dX3_costOf_32 : decode cX3_costOf 32 = .ok (.goto (-28), 3) := by decide +kernel
theorem dX3_costOf_35 : decode cX3_costOf 35 = .ok (.iload_n 2, 1) := by decide +kernel
theorem dX3_costOf_36 : decode cX3_costOf 36 = .ok (.ireturn, 1) := by decide +kernel
theorem dX3_weightOf_0 : decode cX3_weightOf 0 = .ok (.lconst 1, 1) := by decide +kernel
theorem dX3_weightOf_1 : decode cX3_weightOf 1 = .ok (.lstore_n 2, 1) := by decide +kernel
theorem dX3_weightOf_2 : decode cX3_weightOf 2 = .ok (.iconst 0, 1) := by decide +kernel
theorem dX3_weightOf_3 : decode cX3_weightOf 3 = .ok (.istore 4, 2) := by decide +kernel
theorem dX3_weightOf_5 : decode cX3_weightOf 5 = .ok (.iload 4, 2) := by decide +kernel
theorem dX3_weightOf_7 : decode cX3_weightOf 7 = .ok (.iconst 5, 1) := by decide +kernel
theorem dX3_weightOf_8 : decode cX3_weightOf 8 = .ok (.if_icmp .ge 78, 3) := by decide +kernel
theorem dX3_weightOf_11 : decode cX3_weightOf 11 = .ok (.iload 4, 2) := by decide +kernel
theorem dX3_weightOf_13 : decode cX3_weightOf 13 = .ok (.aload_n 0, 1) := by decide +kernel
theorem dX3_weightOf_14 : decode cX3_weightOf 14 = .ok (.getfield 18, 3) := by decide +kernel
theorem dX3_weightOf_17 : decode cX3_weightOf 17 = .ok (.getfield 64, 3) := by decide +kernel
theorem dX3_weightOf_20 : decode cX3_weightOf 20 = .ok (.getfield 68, 3) := by decide +kernel
theorem dX3_weightOf_23 : decode cX3_weightOf 23 = .ok (.if_icmp .ge 46, 3) := by decide +kernel
theorem dX3_weightOf_26 : decode cX3_weightOf 26 = .ok (.lload_n 2, 1) := by decide +kernel
theorem dX3_weightOf_27 : decode cX3_weightOf 27 = .ok (.iload_n 1, 1) := by decide +kernel
theorem dX3_weightOf_28 : decode cX3_weightOf 28 = .ok (.iload 4, 2) := by decide +kernel
theorem dX3_weightOf_30 : decode cX3_weightOf 30 = .ok (.invokestatic 46, 3) := by decide +kernel
theorem dX3_weightOf_33 : decode cX3_weightOf 33 = .ok (.ifCond .eq 17, 3) := by decide +kernel
theorem dX3_weightOf_36 : decode cX3_weightOf 36 = .ok (.aload_n 0, 1) := by decide +kernel
theorem dX3_weightOf_37 : decode cX3_weightOf 37 = .ok (.getfield 18, 3) := by decide +kernel
theorem dX3_weightOf_40 : decode cX3_weightOf 40 = .ok (.getfield 93, 3) := by decide +kernel
theorem dX3_weightOf_43 : decode cX3_weightOf 43 = .ok (.iload 4, 2) := by decide +kernel
theorem dX3_weightOf_45 : decode cX3_weightOf 45 = .ok (.iaload, 1) := by decide +kernel
theorem dX3_weightOf_46 : decode cX3_weightOf 46 = .ok (.i2l, 1) := by decide +kernel
theorem dX3_weightOf_47 : decode cX3_weightOf 47 = .ok (.goto 17, 3) := by decide +kernel
theorem dX3_weightOf_50 : decode cX3_weightOf 50 = .ok (.bipush 10, 2) := by decide +kernel
theorem dX3_weightOf_52 : decode cX3_weightOf 52 = .ok (.aload_n 0, 1) := by decide +kernel
theorem dX3_weightOf_53 : decode cX3_weightOf 53 = .ok (.getfield 18, 3) := by decide +kernel
theorem dX3_weightOf_56 : decode cX3_weightOf 56 = .ok (.getfield 93, 3) := by decide +kernel
theorem dX3_weightOf_59 : decode cX3_weightOf 59 = .ok (.iload 4, 2) := by decide +kernel
theorem dX3_weightOf_61 : decode cX3_weightOf 61 = .ok (.iaload, 1) := by decide +kernel
theorem dX3_weightOf_62 : decode cX3_weightOf 62 = .ok (.isub, 1) := by decide +kernel
theorem dX3_weightOf_63 : decode cX3_weightOf 63 = .ok (.i2l, 1) := by decide +kernel
theorem dX3_weightOf_64 : decode cX3_weightOf 64 = .ok (.lmul, 1) := by decide +kernel
theorem dX3_weightOf_65 : decode cX3_weightOf 65 = .ok (.lstore_n 2, 1) := by decide +kernel
theorem dX3_weightOf_66 : decode cX3_weightOf 66 = .ok (.goto 14, 3) := by decide +kernel
theorem dX3_weightOf_69 : decode cX3_weightOf 69 = .ok (.iload_n 1, 1) := by decide +kernel
theorem dX3_weightOf_70 : decode cX3_weightOf 70 = .ok (.iload 4, 2) := by decide +kernel
theorem dX3_weightOf_72 : decode cX3_weightOf 72 = .ok (.invokestatic 46, 3) := by decide +kernel
theorem dX3_weightOf_75 : decode cX3_weightOf 75 = .ok (.ifCond .eq 5, 3) := by decide +kernel
theorem dX3_weightOf_78 : decode cX3_weightOf 78 = .ok (.lconst 0, 1) := by decide +kernel
theorem dX3_weightOf_79 : decode cX3_weightOf 79 = .ok (.lstore_n 2, 1) := by decide +kernel
theorem dX3_weightOf_80 : decode cX3_weightOf 80 = .ok (.iinc 4 1, 3) := by decide +kernel
theorem dX3_weightOf_83 : decode cX3_weightOf 83 = .ok (.goto (-78), 3) := by decide +kernel
theorem dX3_weightOf_86 : decode cX3_weightOf 86 = .ok (.lload_n 2, 1) := by decide +kernel
theorem dX3_weightOf_87 : decode cX3_weightOf 87 = .ok (.lreturn, 1) := by decide +kernel
theorem dX4_init_0 : decode cX4_init 0 = .ok (.aload_n 0, 1) := by decide +kernel
theorem dX4_init_1 : decode cX4_init 1 = .ok (.invokespecial 3, 3) := by decide +kernel
theorem dX4_init_4 : decode cX4_init 4 = .ok (.aload_n 0, 1) := by decide +kernel
theorem dX4_init_5 : decode cX4_init 5 = .ok (.iconst 5, 1) := by decide +kernel
theorem dX4_init_6 : decode cX4_init 6 = .ok (.newarray .int, 2) := by decide +kernel
theorem dX4_init_8 : decode cX4_init 8 = .ok (.putfield 9, 3) := by decide +kernel
theorem dX4_init_11 : decode cX4_init 11 = .ok (.aload_n 0, 1) := by decide +kernel
theorem dX4_init_12 : decode cX4_init 12 = .ok (.iconst 5, 1) := by decide +kernel
theorem dX4_init_13 : decode cX4_init 13 = .ok (.newarray .int, 2) := by decide +kernel
theorem dX4_init_15 : decode cX4_init 15 = .ok (.putfield 15, 3) := by decide +kernel
theorem dX4_init_18 : decode cX4_init 18 = .ok (.aload_n 0, 1) := by decide +kernel
theorem dX4_init_19 : decode cX4_init 19 = .ok (.iconst 5, 1) := by decide +kernel
theorem dX4_init_20 : decode cX4_init 20 = .ok (.newarray .int, 2) := by decide +kernel
theorem dX4_init_22 : decode cX4_init 22 = .ok (.putfield 18, 3) := by decide +kernel
theorem dX4_init_25 : decode cX4_init 25 = .ok (.aload_n 0, 1) := by decide +kernel
theorem dX4_init_26 : decode cX4_init 26 = .ok (.iconst 5, 1) := by decide +kernel
theorem dX4_init_27 : decode cX4_init 27 = .ok (.newarray .int, 2) := by decide +kernel
theorem dX4_init_29 : decode cX4_init 29 = .ok (.putfield 21, 3) := by decide +kernel
theorem dX4_init_32 : decode cX4_init 32 = .ok (.aload_n 0, 1) := by decide +kernel
theorem dX4_init_33 : decode cX4_init 33 = .ok (.iconst 5, 1) := by decide +kernel
theorem dX4_init_34 : decode cX4_init 34 = .ok (.newarray .int, 2) := by decide +kernel
theorem dX4_init_36 : decode cX4_init 36 = .ok (.putfield 24, 3) := by decide +kernel
theorem dX4_init_39 : decode cX4_init 39 = .ok (.aload_n 0, 1) := by decide +kernel
theorem dX4_init_40 : decode cX4_init 40 = .ok (.iconst 5, 1) := by decide +kernel
theorem dX4_init_41 : decode cX4_init 41 = .ok (.newarray .int, 2) := by decide +kernel
theorem dX4_init_43 : decode cX4_init 43 = .ok (.putfield 27, 3) := by decide +kernel
theorem dX4_init_46 : decode cX4_init 46 = .ok (.aload_n 0, 1) := by decide +kernel
theorem dX4_init_47 : decode cX4_init 47 = .ok (.bipush 30, 2) := by decide +kernel
theorem dX4_init_49 : decode cX4_init 49 = .ok (.newarray .int, 2) := by decide +kernel
theorem dX4_init_51 : decode cX4_init 51 = .ok (.putfield 30, 3) := by decide +kernel
theorem dX4_init_54 : decode cX4_init 54 = .ok (.aload_n 0, 1) := by decide +kernel
theorem dX4_init_55 : decode cX4_init 55 = .ok (.sipush 251, 3) := by decide +kernel
theorem dX4_init_58 : decode cX4_init 58 = .ok (.putfield 33, 3) := by decide +kernel
theorem dX4_init_61 : decode cX4_init 61 = .ok (.return_, 1) := by decide +kernel
theorem dX4_copyFrom_0 : decode cX4_copyFrom 0 = .ok (.aload_n 1, 1) := by decide +kernel
theorem dX4_copyFrom_1 : decode cX4_copyFrom 1 = .ok (.getfield 9, 3) := by decide +kernel
theorem dX4_copyFrom_4 : decode cX4_copyFrom 4 = .ok (.iconst 0, 1) := by decide +kernel
theorem dX4_copyFrom_5 : decode cX4_copyFrom 5 = .ok (.aload_n 0, 1) := by decide +kernel
theorem dX4_copyFrom_6 : decode cX4_copyFrom 6 = .ok (.getfield 9, 3) := by decide +kernel
theorem dX4_copyFrom_9 : decode cX4_copyFrom 9 = .ok (.iconst 0, 1) := by decide +kernel
theorem dX4_copyFrom_10 : decode cX4_copyFrom 10 = .ok (.iconst 5, 1) := by decide +kernel
theorem dX4_copyFrom_11 : decode cX4_copyFrom 11 = .ok (.invokestatic 37, 3) := by decide +kernel
theorem dX4_copyFrom_14 : decode cX4_copyFrom 14 = .ok (.aload_n 1, 1) := by decide +kernel
theorem dX4_copyFrom_15 : decode cX4_copyFrom 15 = .ok (.getfield 15, 3) := by decide +kernel
theorem dX4_copyFrom_18 : decode cX4_copyFrom 18 = .ok (.iconst 0, 1) := by decide +kernel
theorem dX4_copyFrom_19 : decode cX4_copyFrom 19 = .ok (.aload_n 0, 1) := by decide +kernel
theorem dX4_copyFrom_20 : decode cX4_copyFrom 20 = .ok (.getfield 15, 3) := by decide +kernel
theorem dX4_copyFrom_23 : decode cX4_copyFrom 23 = .ok (.iconst 0, 1) := by decide +kernel
theorem dX4_copyFrom_24 : decode cX4_copyFrom 24 = .ok (.iconst 5, 1) := by decide +kernel
theorem dX4_copyFrom_25 : decode cX4_copyFrom 25 = .ok (.invokestatic 37, 3) := by decide +kernel
theorem dX4_copyFrom_28 : decode cX4_copyFrom 28 = .ok (.aload_n 1, 1) := by decide +kernel
theorem dX4_copyFrom_29 : decode cX4_copyFrom 29 = .ok (.getfield 18, 3) := by decide +kernel
theorem dX4_copyFrom_32 : decode cX4_copyFrom 32 = .ok (.iconst 0, 1) := by decide +kernel
theorem dX4_copyFrom_33 : decode cX4_copyFrom 33 = .ok (.aload_n 0, 1) := by decide +kernel
theorem dX4_copyFrom_34 : decode cX4_copyFrom 34 = .ok (.getfield 18, 3) := by decide +kernel
theorem dX4_copyFrom_37 : decode cX4_copyFrom 37 = .ok (.iconst 0, 1) := by decide +kernel
theorem dX4_copyFrom_38 : decode cX4_copyFrom 38 = .ok (.iconst 5, 1) := by decide +kernel
theorem dX4_copyFrom_39 : decode cX4_copyFrom 39 = .ok (.invokestatic 37, 3) := by decide +kernel
theorem dX4_copyFrom_42 : decode cX4_copyFrom 42 = .ok (.aload_n 1, 1) := by decide +kernel
theorem dX4_copyFrom_43 : decode cX4_copyFrom 43 = .ok (.getfield 21, 3) := by decide +kernel
theorem dX4_copyFrom_46 : decode cX4_copyFrom 46 = .ok (.iconst 0, 1) := by decide +kernel
theorem dX4_copyFrom_47 : decode cX4_copyFrom 47 = .ok (.aload_n 0, 1) := by decide +kernel
theorem dX4_copyFrom_48 : decode cX4_copyFrom 48 = .ok (.getfield 21, 3) := by decide +kernel
theorem dX4_copyFrom_51 : decode cX4_copyFrom 51 = .ok (.iconst 0, 1) := by decide +kernel
theorem dX4_copyFrom_52 : decode cX4_copyFrom 52 = .ok (.iconst 5, 1) := by decide +kernel
theorem dX4_copyFrom_53 : decode cX4_copyFrom 53 = .ok (.invokestatic 37, 3) := by decide +kernel
theorem dX4_copyFrom_56 : decode cX4_copyFrom 56 = .ok (.aload_n 1, 1) := by decide +kernel
theorem dX4_copyFrom_57 : decode cX4_copyFrom 57 = .ok (.getfield 24, 3) := by decide +kernel
theorem dX4_copyFrom_60 : decode cX4_copyFrom 60 = .ok (.iconst 0, 1) := by decide +kernel
theorem dX4_copyFrom_61 : decode cX4_copyFrom 61 = .ok (.aload_n 0, 1) := by decide +kernel
theorem dX4_copyFrom_62 : decode cX4_copyFrom 62 = .ok (.getfield 24, 3) := by decide +kernel
theorem dX4_copyFrom_65 : decode cX4_copyFrom 65 = .ok (.iconst 0, 1) := by decide +kernel
theorem dX4_copyFrom_66 : decode cX4_copyFrom 66 = .ok (.iconst 5, 1) := by decide +kernel
theorem dX4_copyFrom_67 : decode cX4_copyFrom 67 = .ok (.invokestatic 37, 3) := by decide +kernel
theorem dX4_copyFrom_70 : decode cX4_copyFrom 70 = .ok (.aload_n 1, 1) := by decide +kernel
theorem dX4_copyFrom_71 : decode cX4_copyFrom 71 = .ok (.getfield 27, 3) := by decide +kernel
theorem dX4_copyFrom_74 : decode cX4_copyFrom 74 = .ok (.iconst 0, 1) := by decide +kernel
theorem dX4_copyFrom_75 : decode cX4_copyFrom 75 = .ok (.aload_n 0, 1) := by decide +kernel
theorem dX4_copyFrom_76 : decode cX4_copyFrom 76 = .ok (.getfield 27, 3) := by decide +kernel
theorem dX4_copyFrom_79 : decode cX4_copyFrom 79 = .ok (.iconst 0, 1) := by decide +kernel
theorem dX4_copyFrom_80 : decode cX4_copyFrom 80 = .ok (.iconst 5, 1) := by decide +kernel
theorem dX4_copyFrom_81 : decode cX4_copyFrom 81 = .ok (.invokestatic 37, 3) := by decide +kernel
theorem dX4_copyFrom_84 : decode cX4_copyFrom 84 = .ok (.aload_n 1, 1) := by decide +kernel
theorem dX4_copyFrom_85 : decode cX4_copyFrom 85 = .ok (.getfield 30, 3) := by decide +kernel
theorem dX4_copyFrom_88 : decode cX4_copyFrom 88 = .ok (.iconst 0, 1) := by decide +kernel
theorem dX4_copyFrom_89 : decode cX4_copyFrom 89 = .ok (.aload_n 0, 1) := by decide +kernel
theorem dX4_copyFrom_90 : decode cX4_copyFrom 90 = .ok (.getfield 30, 3) := by decide +kernel
theorem dX4_copyFrom_93 : decode cX4_copyFrom 93 = .ok (.iconst 0, 1) := by decide +kernel
theorem dX4_copyFrom_94 : decode cX4_copyFrom 94 = .ok (.bipush 30, 2) := by decide +kernel
theorem dX4_copyFrom_96 : decode cX4_copyFrom 96 = .ok (.invokestatic 37, 3) := by decide +kernel
theorem dX4_copyFrom_99 : decode cX4_copyFrom 99 = .ok (.aload_n 0, 1) := by decide +kernel
theorem dX4_copyFrom_100 : decode cX4_copyFrom 100 = .ok (.aload_n 1, 1) := by decide +kernel
theorem dX4_copyFrom_101 : decode cX4_copyFrom 101 = .ok (.getfield 43, 3) := by decide +kernel
theorem dX4_copyFrom_104 : decode cX4_copyFrom 104 = .ok (.putfield 43, 3) := by decide +kernel
theorem dX4_copyFrom_107 : decode cX4_copyFrom 107 = .ok (.aload_n 0, 1) := by decide +kernel
theorem dX4_copyFrom_108 : decode cX4_copyFrom 108 = .ok (.aload_n 1, 1) := by decide +kernel
theorem dX4_copyFrom_109 : decode cX4_copyFrom 109 = .ok (.getfield 46, 3) := by decide +kernel
theorem dX4_copyFrom_112 : decode cX4_copyFrom 112 = .ok (.putfield 46, 3) := by decide +kernel
theorem dX4_copyFrom_115 : decode cX4_copyFrom 115 = .ok (.aload_n 0, 1) := by decide +kernel
theorem dX4_copyFrom_116 : decode cX4_copyFrom 116 = .ok (.aload_n 1, 1) := by decide +kernel
theorem dX4_copyFrom_117 : decode cX4_copyFrom 117 = .ok (.getfield 49, 3) := by decide +kernel
theorem dX4_copyFrom_120 : decode cX4_copyFrom 120 = .ok (.putfield 49, 3) := by decide +kernel
theorem dX4_copyFrom_123 : decode cX4_copyFrom 123 = .ok (.aload_n 0, 1) := by decide +kernel
theorem dX4_copyFrom_124 : decode cX4_copyFrom 124 = .ok (.aload_n 1, 1) := by decide +kernel
theorem dX4_copyFrom_125 : decode cX4_copyFrom 125 = .ok (.getfield 52, 3) := by decide +kernel
theorem dX4_copyFrom_128 : decode cX4_copyFrom 128 = .ok (.putfield 52, 3) := by decide +kernel
theorem dX4_copyFrom_131 : decode cX4_copyFrom 131 = .ok (.aload_n 0, 1) := by decide +kernel
theorem dX4_copyFrom_132 : decode cX4_copyFrom 132 = .ok (.aload_n 1, 1) := by decide +kernel
theorem dX4_copyFrom_133 : decode cX4_copyFrom 133 = .ok (.getfield 33, 3) := by decide +kernel
theorem dX4_copyFrom_136 : decode cX4_copyFrom 136 = .ok (.putfield 33, 3) := by decide +kernel
theorem dX4_copyFrom_139 : decode cX4_copyFrom 139 = .ok (.return_, 1) := by decide +kernel
theorem dX4_isThere_0 : decode cX4_isThere 0 = .ok (.iload_n 1, 1) := by decide +kernel
theorem dX4_isThere_1 : decode cX4_isThere 1 = .ok (.ifCond .lt 20, 3) := by decide +kernel
theorem dX4_isThere_4 : decode cX4_isThere 4 = .ok (.iload_n 1, 1) := by decide +kernel
theorem dX4_isThere_5 : decode cX4_isThere 5 = .ok (.aload_n 0, 1) := by decide +kernel
theorem dX4_isThere_6 : decode cX4_isThere 6 = .ok (.getfield 46, 3) := by decide +kernel
theorem dX4_isThere_9 : decode cX4_isThere 9 = .ok (.if_icmp .ge 12, 3) := by decide +kernel
theorem dX4_isThere_12 : decode cX4_isThere 12 = .ok (.iload_n 1, 1) := by decide +kernel
theorem dX4_isThere_13 : decode cX4_isThere 13 = .ok (.iconst 5, 1) := by decide +kernel
theorem dX4_isThere_14 : decode cX4_isThere 14 = .ok (.if_icmp .ge 7, 3) := by decide +kernel
theorem dX4_isThere_17 : decode cX4_isThere 17 = .ok (.iconst 1, 1) := by decide +kernel
theorem dX4_isThere_18 : decode cX4_isThere 18 = .ok (.goto 4, 3) := by decide +kernel
theorem dX4_isThere_21 : decode cX4_isThere 21 = .ok (.iconst 0, 1) := by decide +kernel
theorem dX4_isThere_22 : decode cX4_isThere 22 = .ok (.ireturn, 1) := by decide +kernel
theorem dX4_doesWait_0 : decode cX4_doesWait 0 = .ok (.aload_n 0, 1) := by decide +kernel
theorem dX4_doesWait_1 : decode cX4_doesWait 1 = .ok (.iload_n 1, 1) := by decide +kernel
theorem dX4_doesWait_2 : decode cX4_doesWait 2 = .ok (.invokevirtual 55, 3) := by decide +kernel
theorem dX4_doesWait_5 : decode cX4_doesWait 5 = .ok (.ifCond .eq 16, 3) := by decide +kernel
theorem dX4_doesWait_8 : decode cX4_doesWait 8 = .ok (.aload_n 0, 1) := by decide +kernel
theorem dX4_doesWait_9 : decode cX4_doesWait 9 = .ok (.getfield 15, 3) := by decide +kernel
theorem dX4_doesWait_12 : decode cX4_doesWait 12 = .ok (.iload_n 1, 1) := by decide +kernel
theorem dX4_doesWait_13 : decode cX4_doesWait 13 = .ok (.iaload, 1) := by decide +kernel
theorem dX4_doesWait_14 : decode cX4_doesWait 14 = .ok (.ifCond .ne 7, 3) := by decide +kernel
theorem dX4_doesWait_17 : decode cX4_doesWait 17 = .ok (.iconst 1, 1) := by decide +kernel
theorem dX4_doesWait_18 : decode cX4_doesWait 18 = .ok (.goto 4, 3) := by decide +kernel
theorem dX4_doesWait_21 : decode cX4_doesWait 21 = .ok (.iconst 0, 1) := by decide +kernel
theorem dX4_doesWait_22 : decode cX4_doesWait 22 = .ok (.ireturn, 1) := by decide +kernel
theorem dX4_allWaiting_0 : decode cX4_allWaiting 0 = .ok (.iconst 0, 1) := by decide +kernel
theorem dX4_allWaiting_1 : decode cX4_allWaiting 1 = .ok (.istore_n 1, 1) := by decide +kernel
theorem dX4_allWaiting_2 : decode cX4_allWaiting 2 = .ok (.iconst 0, 1) := by decide +kernel
theorem dX4_allWaiting_3 : decode cX4_allWaiting 3 = .ok (.istore_n 2, 1) := by decide +kernel
theorem dX4_allWaiting_4 : decode cX4_allWaiting 4 = .ok (.iload_n 2, 1) := by decide +kernel
theorem dX4_allWaiting_5 : decode cX4_allWaiting 5 = .ok (.iconst 5, 1) := by decide +kernel
theorem dX4_allWaiting_6 : decode cX4_allWaiting 6 = .ok (.if_icmp .ge 23, 3) := by decide +kernel
theorem dX4_allWaiting_9 : decode cX4_allWaiting 9 = .ok (.aload_n 0, 1) := by decide +kernel
theorem dX4_allWaiting_10 : decode cX4_allWaiting 10 = .ok (.iload_n 2, 1) := by decide +kernel
theorem dX4_allWaiting_11 : decode cX4_allWaiting 11 = .ok (.invokevirtual 59, 3) := by decide +kernel
theorem dX4_allWaiting_14 : decode cX4_allWaiting 14 = .ok (.ifCond .eq 9, 3) := by decide +kernel
theorem dX4_allWaiting_17 : decode cX4_allWaiting 17 = .ok (.iload_n 1, 1) := by decide +kernel
theorem dX4_allWaiting_18 : decode cX4_allWaiting 18 = .ok (.iconst 1, 1) := by decide +kernel
theorem dX4_allWaiting_19 : decode cX4_allWaiting 19 = .ok (.iload_n 2, 1) := by decide +kernel
theorem dX4_allWaiting_20 : decode cX4_allWaiting 20 = .ok (.ishl, 1) := by decide +kernel
theorem dX4_allWaiting_21 : decode cX4_allWaiting 21 = .ok (.ior, 1) := by decide +kernel
theorem dX4_allWaiting_22 : decode cX4_allWaiting 22 = .ok (.istore_n 1, 1) := by decide +kernel
theorem dX4_allWaiting_23 : decode cX4_allWaiting 23 = .ok (.iinc 2 1, 3) := by decide +kernel
theorem dX4_allWaiting_26 : decode cX4_allWaiting 26 = .ok (.goto (-22), 3) := by decide +kernel
theorem dX4_allWaiting_29 : decode cX4_allWaiting 29 = .ok (.iload_n 1, 1) := by decide +kernel
theorem dX4_allWaiting_30 : decode cX4_allWaiting 30 = .ok (.ireturn, 1) := by decide +kernel
theorem dX4_seat_0 : decode cX4_seat 0 = .ok (.iload_n 1, 1) := by decide +kernel
theorem dX4_seat_1 : decode cX4_seat 1 = .ok (.invokestatic 62, 3) := by decide +kernel
theorem dX4_seat_4 : decode cX4_seat 4 = .ok (.ifCond .eq 45, 3) := by decide +kernel
theorem dX4_seat_7 : decode cX4_seat 7 = .ok (.aload_n 0, 1) := by decide +kernel
theorem dX4_seat_8 : decode cX4_seat 8 = .ok (.getfield 9, 3) := by decide +kernel
theorem dX4_seat_11 : decode cX4_seat 11 = .ok (.iload_n 1, 1) := by decide +kernel
theorem dX4_seat_12 : decode cX4_seat 12 = .ok (.iload_n 2, 1) := by decide +kernel
theorem dX4_seat_13 : decode cX4_seat 13 = .ok (.iastore, 1) := by decide +kernel
theorem dX4_seat_14 : decode cX4_seat 14 = .ok (.aload_n 0, 1) := by decide +kernel
theorem dX4_seat_15 : decode cX4_seat 15 = .ok (.getfield 15, 3) := by decide +kernel
theorem dX4_seat_18 : decode cX4_seat 18 = .ok (.iload_n 1, 1) := by decide +kernel
theorem dX4_seat_19 : decode cX4_seat 19 = .ok (.iconst 0, 1) := by decide +kernel
theorem dX4_seat_20 : decode cX4_seat 20 = .ok (.iastore, 1) := by decide +kernel
theorem dX4_seat_21 : decode cX4_seat 21 = .ok (.aload_n 0, 1) := by decide +kernel
theorem dX4_seat_22 : decode cX4_seat 22 = .ok (.getfield 18, 3) := by decide +kernel
theorem dX4_seat_25 : decode cX4_seat 25 = .ok (.iload_n 1, 1) := by decide +kernel
theorem dX4_seat_26 : decode cX4_seat 26 = .ok (.iconst 0, 1) := by decide +kernel
theorem dX4_seat_27 : decode cX4_seat 27 = .ok (.iastore, 1) := by decide +kernel
theorem dX4_seat_28 : decode cX4_seat 28 = .ok (.aload_n 0, 1) := by decide +kernel
theorem dX4_seat_29 : decode cX4_seat 29 = .ok (.getfield 21, 3) := by decide +kernel
theorem dX4_seat_32 : decode cX4_seat 32 = .ok (.iload_n 1, 1) := by decide +kernel
theorem dX4_seat_33 : decode cX4_seat 33 = .ok (.iload_n 3, 1) := by decide +kernel
theorem dX4_seat_34 : decode cX4_seat 34 = .ok (.iastore, 1) := by decide +kernel
theorem dX4_seat_35 : decode cX4_seat 35 = .ok (.aload_n 0, 1) := by decide +kernel
theorem dX4_seat_36 : decode cX4_seat 36 = .ok (.getfield 24, 3) := by decide +kernel
theorem dX4_seat_39 : decode cX4_seat 39 = .ok (.iload_n 1, 1) := by decide +kernel
theorem dX4_seat_40 : decode cX4_seat 40 = .ok (.iconst 0, 1) := by decide +kernel
theorem dX4_seat_41 : decode cX4_seat 41 = .ok (.iastore, 1) := by decide +kernel
theorem dX4_seat_42 : decode cX4_seat 42 = .ok (.aload_n 0, 1) := by decide +kernel
theorem dX4_seat_43 : decode cX4_seat 43 = .ok (.getfield 27, 3) := by decide +kernel
theorem dX4_seat_46 : decode cX4_seat 46 = .ok (.iload_n 1, 1) := by decide +kernel
theorem dX4_seat_47 : decode cX4_seat 47 = .ok (.iconst 0, 1) := by decide +kernel
theorem dX4_seat_48 : decode cX4_seat 48 = .ok (.iastore, 1) := by decide +kernel
theorem dX4_seat_49 : decode cX4_seat 49 = .ok (.return_, 1) := by decide +kernel
theorem dX4_weep_0 : decode cX4_weep 0 = .ok (.iload_n 1, 1) := by decide +kernel
theorem dX4_weep_1 : decode cX4_weep 1 = .ok (.invokestatic 62, 3) := by decide +kernel
theorem dX4_weep_4 : decode cX4_weep 4 = .ok (.ifCond .eq 23, 3) := by decide +kernel
theorem dX4_weep_7 : decode cX4_weep 7 = .ok (.aload_n 0, 1) := by decide +kernel
theorem dX4_weep_8 : decode cX4_weep 8 = .ok (.getfield 18, 3) := by decide +kernel
theorem dX4_weep_11 : decode cX4_weep 11 = .ok (.iload_n 1, 1) := by decide +kernel
theorem dX4_weep_12 : decode cX4_weep 12 = .ok (.sipush 999, 3) := by decide +kernel
theorem dX4_weep_15 : decode cX4_weep 15 = .ok (.aload_n 0, 1) := by decide +kernel
theorem dX4_weep_16 : decode cX4_weep 16 = .ok (.getfield 18, 3) := by decide +kernel
theorem dX4_weep_19 : decode cX4_weep 19 = .ok (.iload_n 1, 1) := by decide +kernel
theorem dX4_weep_20 : decode cX4_weep 20 = .ok (.iaload, 1) := by decide +kernel
theorem dX4_weep_21 : decode cX4_weep 21 = .ok (.iload_n 2, 1) := by decide +kernel
theorem dX4_weep_22 : decode cX4_weep 22 = .ok (.iadd, 1) := by decide +kernel
theorem dX4_weep_23 : decode cX4_weep 23 = .ok (.invokestatic 65, 3) := by decide +kernel
theorem dX4_weep_26 : decode cX4_weep 26 = .ok (.iastore, 1) := by decide +kernel
theorem dX4_weep_27 : decode cX4_weep 27 = .ok (.return_, 1) := by decide +kernel
theorem dX4_drawLot_0 : decode cX4_drawLot 0 = .ok (.aload_n 0, 1) := by decide +kernel
theorem dX4_drawLot_1 : decode cX4_drawLot 1 = .ok (.getfield 33, 3) := by decide +kernel
theorem dX4_drawLot_4 : decode cX4_drawLot 4 = .ok (.istore_n 1, 1) := by decide +kernel
theorem dX4_drawLot_5 : decode cX4_drawLot 5 = .ok (.aload_n 0, 1) := by decide +kernel
theorem dX4_drawLot_6 : decode cX4_drawLot 6 = .ok (.aload_n 0, 1) := by decide +kernel
theorem dX4_drawLot_7 : decode cX4_drawLot 7 = .ok (.getfield 33, 3) := by decide +kernel
theorem dX4_drawLot_10 : decode cX4_drawLot 10 = .ok (.sipush 491, 3) := by decide +kernel
theorem dX4_drawLot_13 : decode cX4_drawLot 13 = .ok (.imul, 1) := by decide +kernel
theorem dX4_drawLot_14 : decode cX4_drawLot 14 = .ok (.sipush 379, 3) := by decide +kernel
theorem dX4_drawLot_17 : decode cX4_drawLot 17 = .ok (.iadd, 1) := by decide +kernel
theorem dX4_drawLot_18 : decode cX4_drawLot 18 = .ok (.sipush 30677, 3) := by decide +kernel
theorem dX4_drawLot_21 : decode cX4_drawLot 21 = .ok (.irem, 1) := by decide +kernel
theorem dX4_drawLot_22 : decode cX4_drawLot 22 = .ok (.putfield 33, 3) := by decide +kernel
theorem dX4_drawLot_25 : decode cX4_drawLot 25 = .ok (.iload_n 1, 1) := by decide +kernel
theorem dX4_drawLot_26 : decode cX4_drawLot 26 = .ok (.ireturn, 1) := by decide +kernel
theorem dX4_dismiss_0 : decode cX4_dismiss 0 = .ok (.iload_n 1, 1) := by decide +kernel
theorem dX4_dismiss_1 : decode cX4_dismiss 1 = .ok (.invokestatic 62, 3) := by decide +kernel
theorem dX4_dismiss_4 : decode cX4_dismiss 4 = .ok (.ifCond .ne 4, 3) := by decide +kernel
theorem dX4_dismiss_7 : decode cX4_dismiss 7 = .ok (.return_, 1) := by decide +kernel
theorem dX4_dismiss_8 : decode cX4_dismiss 8 = .ok (.aload_n 0, 1) := by decide +kernel
theorem dX4_dismiss_9 : decode cX4_dismiss 9 = .ok (.getfield 15, 3) := by decide +kernel
theorem dX4_dismiss_12 : decode cX4_dismiss 12 = .ok (.iload_n 1, 1) := by decide +kernel
theorem dX4_dismiss_13 : decode cX4_dismiss 13 = .ok (.iload_n 2, 1) := by decide +kernel
theorem dX4_dismiss_14 : decode cX4_dismiss 14 = .ok (.ifCond .eq 7, 3) := by decide +kernel
theorem dX4_dismiss_17 : decode cX4_dismiss 17 = .ok (.iconst 1, 1) := by decide +kernel
theorem dX4_dismiss_18 : decode cX4_dismiss 18 = .ok (.goto 4, 3) := by decide +kernel
theorem dX4_dismiss_21 : decode cX4_dismiss 21 = .ok (.iconst 2, 1) := by decide +kernel
theorem dX4_dismiss_22 : decode cX4_dismiss 22 = .ok (.iastore, 1) := by decide +kernel
theorem dX4_dismiss_23 : decode cX4_dismiss 23 = .ok (.iload_n 2, 1) := by decide +kernel
theorem dX4_dismiss_24 : decode cX4_dismiss 24 = .ok (.ifCond .eq 39, 3) := by decide +kernel
theorem dX4_dismiss_27 : decode cX4_dismiss 27 = .ok (.aload_n 0, 1) := by decide +kernel
theorem dX4_dismiss_28 : decode cX4_dismiss 28 = .ok (.sipush 9999, 3) := by decide +kernel
theorem dX4_dismiss_31 : decode cX4_dismiss 31 = .ok (.aload_n 0, 1) := by decide +kernel
theorem dX4_dismiss_32 : decode cX4_dismiss 32 = .ok (.getfield 49, 3) := by decide +kernel
theorem dX4_dismiss_35 : decode cX4_dismiss 35 = .ok (.iconst 1, 1) := by decide +kernel
theorem dX4_dismiss_36 : decode cX4_dismiss 36 = .ok (.iadd, 1) := by decide +kernel
theorem dX4_dismiss_37 : decode cX4_dismiss 37 = .ok (.invokestatic 65, 3) := by decide +kernel
theorem dX4_dismiss_40 : decode cX4_dismiss 40 = .ok (.putfield 49, 3) := by decide +kernel
theorem dX4_dismiss_43 : decode cX4_dismiss 43 = .ok (.aload_n 0, 1) := by decide +kernel
theorem dX4_dismiss_44 : decode cX4_dismiss 44 = .ok (.getfield 21, 3) := by decide +kernel
theorem dX4_dismiss_47 : decode cX4_dismiss 47 = .ok (.iload_n 1, 1) := by decide +kernel
theorem dX4_dismiss_48 : decode cX4_dismiss 48 = .ok (.bipush 99, 2) := by decide +kernel
theorem dX4_dismiss_50 : decode cX4_dismiss 50 = .ok (.aload_n 0, 1) := by decide +kernel
theorem dX4_dismiss_51 : decode cX4_dismiss 51 = .ok (.getfield 21, 3) := by decide +kernel
theorem dX4_dismiss_54 : decode cX4_dismiss 54 = .ok (.iload_n 1, 1) := by decide +kernel
theorem dX4_dismiss_55 : decode cX4_dismiss 55 = .ok (.iaload, 1) := by decide +kernel
theorem dX4_dismiss_56 : decode cX4_dismiss 56 = .ok (.bipush 10, 2) := by decide +kernel
theorem dX4_dismiss_58 : decode cX4_dismiss 58 = .ok (.iadd, 1) := by decide +kernel
theorem dX4_dismiss_59 : decode cX4_dismiss 59 = .ok (.invokestatic 65, 3) := by decide +kernel
theorem dX4_dismiss_62 : decode cX4_dismiss 62 = .ok (.iastore, 1) := by decide +kernel
theorem dX4_dismiss_63 : decode cX4_dismiss 63 = .ok (.aload_n 0, 1) := by decide +kernel
theorem dX4_dismiss_64 : decode cX4_dismiss 64 = .ok (.getfield 43, 3) := by decide +kernel
theorem dX4_dismiss_67 : decode cX4_dismiss 67 = .ok (.bipush 30, 2) := by decide +kernel
theorem dX4_dismiss_69 : decode cX4_dismiss 69 = .ok (.if_icmp .lt 24, 3) := by decide +kernel
theorem dX4_dismiss_72 : decode cX4_dismiss 72 = .ok (.aload_n 0, 1) := by decide +kernel
theorem dX4_dismiss_73 : decode cX4_dismiss 73 = .ok (.getfield 30, 3) := by decide +kernel
theorem dX4_dismiss_76 : decode cX4_dismiss 76 = .ok (.iconst 1, 1) := by decide +kernel
theorem dX4_dismiss_77 : decode cX4_dismiss 77 = .ok (.aload_n 0, 1) := by decide +kernel
theorem dX4_dismiss_78 : decode cX4_dismiss 78 = .ok (.getfield 30, 3) := by decide +kernel
theorem dX4_dismiss_81 : decode cX4_dismiss 81 = .ok (.iconst 0, 1) := by decide +kernel
theorem dX4_dismiss_82 : decode cX4_dismiss 82 = .ok (.bipush 29, 2) := by decide +kernel
theorem dX4_dismiss_84 : decode cX4_dismiss 84 = .ok (.invokestatic 37, 3) := by decide +kernel
theorem dX4_dismiss_87 : decode cX4_dismiss 87 = .ok (.aload_n 0, 1) := by decide +kernel
theorem dX4_dismiss_88 : decode cX4_dismiss 88 = .ok (.bipush 29, 2) := by decide +kernel
theorem dX4_dismiss_90 : decode cX4_dismiss 90 = .ok (.putfield 43, 3) := by decide +kernel
theorem dX4_dismiss_93 : decode cX4_dismiss 93 = .ok (.aload_n 0, 1) := by decide +kernel
theorem dX4_dismiss_94 : decode cX4_dismiss 94 = .ok (.getfield 43, 3) := by decide +kernel
theorem dX4_dismiss_97 : decode cX4_dismiss 97 = .ok (.ifCond .lt 52, 3) := by decide +kernel
theorem dX4_dismiss_100 : decode cX4_dismiss 100 = .ok (.aload_n 0, 1) := by decide +kernel
theorem dX4_dismiss_101 : decode cX4_dismiss 101 = .ok (.getfield 30, 3) := by decide +kernel
theorem dX4_dismiss_104 : decode cX4_dismiss 104 = .ok (.aload_n 0, 1) := by decide +kernel
theorem dX4_dismiss_105 : decode cX4_dismiss 105 = .ok (.getfield 43, 3) := by decide +kernel
theorem dX4_dismiss_108 : decode cX4_dismiss 108 = .ok (.aload_n 0, 1) := by decide +kernel
theorem dX4_dismiss_109 : decode cX4_dismiss 109 = .ok (.getfield 52, 3) := by decide +kernel
theorem dX4_dismiss_112 : decode cX4_dismiss 112 = .ok (.iconst 5, 1) := by decide +kernel
theorem dX4_dismiss_113 : decode cX4_dismiss 113 = .ok (.imul, 1) := by decide +kernel
theorem dX4_dismiss_114 : decode cX4_dismiss 114 = .ok (.iload_n 1, 1) := by decide +kernel
theorem dX4_dismiss_115 : decode cX4_dismiss 115 = .ok (.iadd, 1) := by decide +kernel
theorem dX4_dismiss_116 : decode cX4_dismiss 116 = .ok (.bipush 12, 2) := by decide +kernel
theorem dX4_dismiss_118 : decode cX4_dismiss 118 = .ok (.imul, 1) := by decide +kernel
theorem dX4_dismiss_119 : decode cX4_dismiss 119 = .ok (.aload_n 0, 1) := by decide +kernel
theorem dX4_dismiss_120 : decode cX4_dismiss 120 = .ok (.getfield 9, 3) := by decide +kernel
theorem dX4_dismiss_123 : decode cX4_dismiss 123 = .ok (.iload_n 1, 1) := by decide +kernel
theorem dX4_dismiss_124 : decode cX4_dismiss 124 = .ok (.iaload, 1) := by decide +kernel
theorem dX4_dismiss_125 : decode cX4_dismiss 125 = .ok (.iadd, 1) := by decide +kernel
theorem dX4_dismiss_126 : decode cX4_dismiss 126 = .ok (.iconst 2, 1) := by decide +kernel
theorem dX4_dismiss_127 : decode cX4_dismiss 127 = .ok (.imul, 1) := by decide +kernel
theorem dX4_dismiss_128 : decode cX4_dismiss 128 = .ok (.iload_n 2, 1) := by decide +kernel
theorem dX4_dismiss_129 : decode cX4_dismiss 129 = .ok (.ifCond .eq 7, 3) := by decide +kernel
theorem dX4_dismiss_132 : decode cX4_dismiss 132 = .ok (.iconst 1, 1) := by decide +kernel
theorem dX4_dismiss_133 : decode cX4_dismiss 133 = .ok (.goto 4, 3) := by decide +kernel
theorem dX4_dismiss_136 : decode cX4_dismiss 136 = .ok (.iconst 0, 1) := by decide +kernel
theorem dX4_dismiss_137 : decode cX4_dismiss 137 = .ok (.iadd, 1) := by decide +kernel
theorem dX4_dismiss_138 : decode cX4_dismiss 138 = .ok (.iastore, 1) := by decide +kernel
theorem dX4_dismiss_139 : decode cX4_dismiss 139 = .ok (.aload_n 0, 1) := by decide +kernel
theorem dX4_dismiss_140 : decode cX4_dismiss 140 = .ok (.dup, 1) := by decide +kernel
theorem dX4_dismiss_141 : decode cX4_dismiss 141 = .ok (.getfield 43, 3) := by decide +kernel
theorem dX4_dismiss_144 : decode cX4_dismiss 144 = .ok (.iconst 1, 1) := by decide +kernel
theorem dX4_dismiss_145 : decode cX4_dismiss 145 = .ok (.iadd, 1) := by decide +kernel
theorem dX4_dismiss_146 : decode cX4_dismiss 146 = .ok (.putfield 43, 3) := by decide +kernel
theorem dX4_dismiss_149 : decode cX4_dismiss 149 = .ok (.return_, 1) := by decide +kernel
theorem dX4_entry_0 : decode cX4_entry 0 = .ok (.iload_n 1, 1) := by decide +kernel
theorem dX4_entry_1 : decode cX4_entry 1 = .ok (.ifCond .lt 17, 3) := by decide +kernel
theorem dX4_entry_4 : decode cX4_entry 4 = .ok (.iload_n 1, 1) := by decide +kernel
theorem dX4_entry_5 : decode cX4_entry 5 = .ok (.aload_n 0, 1) := by decide +kernel
theorem dX4_entry_6 : decode cX4_entry 6 = .ok (.getfield 43, 3) := by decide +kernel
theorem dX4_entry_9 : decode cX4_entry 9 = .ok (.if_icmp .ge 9, 3) := by decide +kernel
theorem dX4_entry_12 : decode cX4_entry 12 = .ok (.iload_n 1, 1) := by decide +kernel
theorem dX4_entry_13 : decode cX4_entry 13 = .ok (.bipush 30, 2) := by decide +kernel
theorem dX4_entry_15 : decode cX4_entry 15 = .ok (.if_icmp .lt 6, 3) := by decide +kernel
theorem dX4_entry_18 : decode cX4_entry 18 = .ok (.bipush (-2), 2) := by decide +kernel
theorem dX4_entry_20 : decode cX4_entry 20 = .ok (.ireturn, 1) := by decide +kernel
theorem dX4_entry_21 : decode cX4_entry 21 = .ok (.aload_n 0, 1) := by decide +kernel
theorem dX4_entry_22 : decode cX4_entry 22 = .ok (.getfield 30, 3) := by decide +kernel
theorem dX4_entry_25 : decode cX4_entry 25 = .ok (.iload_n 1, 1) := by decide +kernel
theorem dX4_entry_26 : decode cX4_entry 26 = .ok (.iaload, 1) := by decide +kernel
theorem dX4_entry_27 : decode cX4_entry 27 = .ok (.istore_n 3, 1) := by decide +kernel
theorem dX4_entry_28 : decode cX4_entry 28 = .ok (.iload_n 2, 1) := by decide +kernel
theorem dX4_entry_29 : decode cX4_entry 29 = .ok (.tableswitch 54 0 3 #[31, 36, 43, 50], 31) := by decide +kernel
theorem dX4_entry_60 : decode cX4_entry 60 = .ok (.iload_n 3, 1) := by decide +kernel
theorem dX4_entry_61 : decode cX4_entry 61 = .ok (.bipush 120, 2) := by decide +kernel
theorem dX4_entry_63 : decode cX4_entry 63 = .ok (.idiv, 1) := by decide +kernel
theorem dX4_entry_64 : decode cX4_entry 64 = .ok (.ireturn, 1) := by decide +kernel
theorem dX4_entry_65 : decode cX4_entry 65 = .ok (.iload_n 3, 1) := by decide +kernel
theorem dX4_entry_66 : decode cX4_entry 66 = .ok (.bipush 24, 2) := by decide +kernel
theorem dX4_entry_68 : decode cX4_entry 68 = .ok (.idiv, 1) := by decide +kernel
theorem dX4_entry_69 : decode cX4_entry 69 = .ok (.iconst 5, 1) := by decide +kernel
theorem dX4_entry_70 : decode cX4_entry 70 = .ok (.irem, 1) := by decide +kernel
theorem dX4_entry_71 : decode cX4_entry 71 = .ok (.ireturn, 1) := by decide +kernel
theorem dX4_entry_72 : decode cX4_entry 72 = .ok (.iload_n 3, 1) := by decide +kernel
theorem dX4_entry_73 : decode cX4_entry 73 = .ok (.iconst 2, 1) := by decide +kernel
theorem dX4_entry_74 : decode cX4_entry 74 = .ok (.idiv, 1) := by decide +kernel
theorem dX4_entry_75 : decode cX4_entry 75 = .ok (.bipush 12, 2) := by decide +kernel
theorem dX4_entry_77 : decode cX4_entry 77 = .ok (.irem, 1) := by decide +kernel
theorem dX4_entry_78 : decode cX4_entry 78 = .ok (.ireturn, 1) := by decide +kernel
theorem dX4_entry_79 : decode cX4_entry 79 = .ok (.iload_n 3, 1) := by decide +kernel
theorem dX4_entry_80 : decode cX4_entry 80 = .ok (.iconst 2, 1) := by decide +kernel
theorem dX4_entry_81 : decode cX4_entry 81 = .ok (.irem, 1) := by decide +kernel
theorem dX4_entry_82 : decode cX4_entry 82 = .ok (.ireturn, 1) := by decide +kernel
theorem dX4_entry_83 : decode cX4_entry 83 = .ok (.bipush (-2), 2) := by decide +kernel
theorem dX4_entry_85 : decode cX4_entry 85 = .ok (.ireturn, 1) := by decide +kernel
theorem dX5_init_0 : decode cX5_init 0 = .ok (.aload_n 0, 1) := by decide +kernel
theorem dX5_init_1 : decode cX5_init 1 = .ok (.invokespecial 3, 3) := by decide +kernel
theorem dX5_init_4 : decode cX5_init 4 = .ok (.aload_n 0, 1) := by decide +kernel
theorem dX5_init_5 : decode cX5_init 5 = .ok (.bipush 10, 2) := by decide +kernel
theorem dX5_init_7 : decode cX5_init 7 = .ok (.newarray .int, 2) := by decide +kernel
theorem dX5_init_9 : decode cX5_init 9 = .ok (.putfield 11, 3) := by decide +kernel
theorem dX5_init_12 : decode cX5_init 12 = .ok (.aload_n 0, 1) := by decide +kernel
theorem dX5_init_13 : decode cX5_init 13 = .ok (.sipush 300, 3) := by decide +kernel
theorem dX5_init_16 : decode cX5_init 16 = .ok (.newarray .int, 2) := by decide +kernel
theorem dX5_init_18 : decode cX5_init 18 = .ok (.putfield 15, 3) := by decide +kernel
theorem dX5_init_21 : decode cX5_init 21 = .ok (.aload_n 0, 1) := by decide +kernel
theorem dX5_init_22 : decode cX5_init 22 = .ok (.aload_n 1, 1) := by decide +kernel
theorem dX5_init_23 : decode cX5_init 23 = .ok (.putfield 18, 3) := by decide +kernel
theorem dX5_init_26 : decode cX5_init 26 = .ok (.return_, 1) := by decide +kernel
theorem dX5_saysNext_0 : decode cX5_saysNext 0 = .ok (.iload 4, 2) := by decide +kernel
theorem dX5_saysNext_2 : decode cX5_saysNext 2 = .ok (.invokestatic 22, 3) := by decide +kernel
theorem dX5_saysNext_5 : decode cX5_saysNext 5 = .ok (.ifCond .eq 11, 3) := by decide +kernel
theorem dX5_saysNext_8 : decode cX5_saysNext 8 = .ok (.aload_n 2, 1) := by decide +kernel
theorem dX5_saysNext_9 : decode cX5_saysNext 9 = .ok (.iload_n 3, 1) := by decide +kernel
theorem dX5_saysNext_10 : decode cX5_saysNext 10 = .ok (.invokevirtual 26, 3) := by decide +kernel
theorem dX5_saysNext_13 : decode cX5_saysNext 13 = .ok (.ifCond .ne 5, 3) := by decide +kernel
theorem dX5_saysNext_16 : decode cX5_saysNext 16 = .ok (.iconst 0, 1) := by decide +kernel
theorem dX5_saysNext_17 : decode cX5_saysNext 17 = .ok (.ireturn, 1) := by decide +kernel
theorem dX5_saysNext_18 : decode cX5_saysNext 18 = .ok (.aload_n 1, 1) := by decide +kernel
theorem dX5_saysNext_19 : decode cX5_saysNext 19 = .ok (.ifnull 12, 3) := by decide +kernel
theorem dX5_saysNext_22 : decode cX5_saysNext 22 = .ok (.aload_n 1, 1) := by decide +kernel
theorem dX5_saysNext_23 : decode cX5_saysNext 23 = .ok (.bipush 16, 2) := by decide +kernel
theorem dX5_saysNext_25 : decode cX5_saysNext 25 = .ok (.invokevirtual 33, 3) := by decide +kernel
theorem dX5_saysNext_28 : decode cX5_saysNext 28 = .ok (.ifCond .ne 14, 3) := by decide +kernel
theorem dX5_saysNext_31 : decode cX5_saysNext 31 = .ok (.aload_n 0, 1) := by decide +kernel
theorem dX5_saysNext_32 : decode cX5_saysNext 32 = .ok (.getfield 18, 3) := by decide +kernel
theorem dX5_saysNext_35 : decode cX5_saysNext 35 = .ok (.getfield 38, 3) := by decide +kernel
theorem dX5_saysNext_38 : decode cX5_saysNext 38 = .ok (.iload 4, 2) := by decide +kernel
theorem dX5_saysNext_40 : decode cX5_saysNext 40 = .ok (.iaload, 1) := by decide +kernel
theorem dX5_saysNext_41 : decode cX5_saysNext 41 = .ok (.ireturn, 1) := by decide +kernel
theorem dX5_saysNext_42 : decode cX5_saysNext 42 = .ok (.aload_n 0, 1) := by decide +kernel
theorem dX5_saysNext_43 : decode cX5_saysNext 43 = .ok (.aload_n 2, 1) := by decide +kernel
theorem dX5_saysNext_44 : decode cX5_saysNext 44 = .ok (.iload_n 3, 1) := by decide +kernel
theorem dX5_saysNext_45 : decode cX5_saysNext 45 = .ok (.invokevirtual 43, 3) := by decide +kernel
theorem dX5_saysNext_48 : decode cX5_saysNext 48 = .ok (.aload_n 0, 1) := by decide +kernel
theorem dX5_saysNext_49 : decode cX5_saysNext 49 = .ok (.getfield 11, 3) := by decide +kernel
theorem dX5_saysNext_52 : decode cX5_saysNext 52 = .ok (.bipush 7, 2) := by decide +kernel
theorem dX5_saysNext_54 : decode cX5_saysNext 54 = .ok (.iload 4, 2) := by decide +kernel
theorem dX5_saysNext_56 : decode cX5_saysNext 56 = .ok (.iastore, 1) := by decide +kernel
theorem dX5_saysNext_57 : decode cX5_saysNext 57 = .ok (.aload_n 0, 1) := by decide +kernel
theorem dX5_saysNext_58 : decode cX5_saysNext 58 = .ok (.getfield 11, 3) := by decide +kernel
theorem dX5_saysNext_61 : decode cX5_saysNext 61 = .ok (.bipush 8, 2) := by decide +kernel
theorem dX5_saysNext_63 : decode cX5_saysNext 63 = .ok (.aload_n 0, 1) := by decide +kernel
theorem dX5_saysNext_64 : decode cX5_saysNext 64 = .ok (.getfield 18, 3) := by decide +kernel
theorem dX5_saysNext_67 : decode cX5_saysNext 67 = .ok (.getfield 38, 3) := by decide +kernel
theorem dX5_saysNext_70 : decode cX5_saysNext 70 = .ok (.iload 4, 2) := by decide +kernel
theorem dX5_saysNext_72 : decode cX5_saysNext 72 = .ok (.iaload, 1) := by decide +kernel
theorem dX5_saysNext_73 : decode cX5_saysNext 73 = .ok (.iastore, 1) := by decide +kernel
theorem dX5_saysNext_74 : decode cX5_saysNext 74 = .ok (.aload_n 0, 1) := by decide +kernel
theorem dX5_saysNext_75 : decode cX5_saysNext 75 = .ok (.getfield 11, 3) := by decide +kernel
theorem dX5_saysNext_78 : decode cX5_saysNext 78 = .ok (.bipush 9, 2) := by decide +kernel
theorem dX5_saysNext_80 : decode cX5_saysNext 80 = .ok (.aload_n 0, 1) := by decide +kernel
theorem dX5_saysNext_81 : decode cX5_saysNext 81 = .ok (.getfield 18, 3) := by decide +kernel
theorem dX5_saysNext_84 : decode cX5_saysNext 84 = .ok (.getfield 47, 3) := by decide +kernel
theorem dX5_saysNext_87 : decode cX5_saysNext 87 = .ok (.iload 4, 2) := by decide +kernel
theorem dX5_saysNext_89 : decode cX5_saysNext 89 = .ok (.iaload, 1) := by decide +kernel
theorem dX5_saysNext_90 : decode cX5_saysNext 90 = .ok (.iastore, 1) := by decide +kernel
theorem dX5_saysNext_91 : decode cX5_saysNext 91 = .ok (.sipush (-999), 3) := by decide +kernel
theorem dX5_saysNext_94 : decode cX5_saysNext 94 = .ok (.sipush 999, 3) := by decide +kernel
theorem dX5_saysNext_97 : decode cX5_saysNext 97 = .ok (.aload_n 0, 1) := by decide +kernel
theorem dX5_saysNext_98 : decode cX5_saysNext 98 = .ok (.aload_n 1, 1) := by decide +kernel
theorem dX5_saysNext_99 : decode cX5_saysNext 99 = .ok (.aload_n 1, 1) := by decide +kernel
theorem dX5_saysNext_100 : decode cX5_saysNext 100 = .ok (.getfield 50, 3) := by decide +kernel
theorem dX5_saysNext_103 : decode cX5_saysNext 103 = .ok (.aload_n 1, 1) := by decide +kernel
theorem dX5_saysNext_104 : decode cX5_saysNext 104 = .ok (.getfield 54, 3) := by decide +kernel
theorem dX5_saysNext_107 : decode cX5_saysNext 107 = .ok (.invokevirtual 57, 3) := by decide +kernel
theorem dX5_saysNext_110 : decode cX5_saysNext 110 = .ok (.invokestatic 61, 3) := by decide +kernel
theorem dX5_saysNext_113 : decode cX5_saysNext 113 = .ok (.invokestatic 67, 3) := by decide +kernel
theorem dX5_saysNext_116 : decode cX5_saysNext 116 = .ok (.ireturn, 1) := by decide +kernel
theorem dX5_saysNeed_0 : decode cX5_saysNeed 0 = .ok (.aload_n 2, 1) := by decide +kernel
theorem dX5_saysNeed_1 : decode cX5_saysNeed 1 = .ok (.iload_n 3, 1) := by decide +kernel
theorem dX5_saysNeed_2 : decode cX5_saysNeed 2 = .ok (.invokevirtual 26, 3) := by decide +kernel
theorem dX5_saysNeed_5 : decode cX5_saysNeed 5 = .ok (.ifCond .ne 5, 3) := by decide +kernel
theorem dX5_saysNeed_8 : decode cX5_saysNeed 8 = .ok (.iconst 0, 1) := by decide +kernel
theorem dX5_saysNeed_9 : decode cX5_saysNeed 9 = .ok (.ireturn, 1) := by decide +kernel
theorem dX5_saysNeed_10 : decode cX5_saysNeed 10 = .ok (.aload_n 1, 1) := by decide +kernel
theorem dX5_saysNeed_11 : decode cX5_saysNeed 11 = .ok (.ifnull 12, 3) := by decide +kernel
theorem dX5_saysNeed_14 : decode cX5_saysNeed 14 = .ok (.aload_n 1, 1) := by decide +kernel
theorem dX5_saysNeed_15 : decode cX5_saysNeed 15 = .ok (.bipush 17, 2) := by decide +kernel
theorem dX5_saysNeed_17 : decode cX5_saysNeed 17 = .ok (.invokevirtual 33, 3) := by decide +kernel
theorem dX5_saysNeed_20 : decode cX5_saysNeed 20 = .ok (.ifCond .ne 19, 3) := by decide +kernel
theorem dX5_saysNeed_23 : decode cX5_saysNeed 23 = .ok (.aload_n 2, 1) := by decide +kernel
theorem dX5_saysNeed_24 : decode cX5_saysNeed 24 = .ok (.getfield 70, 3) := by decide +kernel
theorem dX5_saysNeed_27 : decode cX5_saysNeed 27 = .ok (.iload_n 3, 1) := by decide +kernel
theorem dX5_saysNeed_28 : decode cX5_saysNeed 28 = .ok (.iaload, 1) := by decide +kernel
theorem dX5_saysNeed_29 : decode cX5_saysNeed 29 = .ok (.iconst 2, 1) := by decide +kernel
theorem dX5_saysNeed_30 : decode cX5_saysNeed 30 = .ok (.aload_n 2, 1) := by decide +kernel
theorem dX5_saysNeed_31 : decode cX5_saysNeed 31 = .ok (.getfield 73, 3) := by decide +kernel
theorem dX5_saysNeed_34 : decode cX5_saysNeed 34 = .ok (.iload_n 3, 1) := by decide +kernel
theorem dX5_saysNeed_35 : decode cX5_saysNeed 35 = .ok (.iaload, 1) := by decide +kernel
theorem dX5_saysNeed_36 : decode cX5_saysNeed 36 = .ok (.imul, 1) := by decide +kernel
theorem dX5_saysNeed_37 : decode cX5_saysNeed 37 = .ok (.isub, 1) := by decide +kernel
theorem dX5_saysNeed_38 : decode cX5_saysNeed 38 = .ok (.ireturn, 1) := by decide +kernel
theorem dX5_saysNeed_39 : decode cX5_saysNeed 39 = .ok (.aload_n 0, 1) := by decide +kernel
theorem dX5_saysNeed_40 : decode cX5_saysNeed 40 = .ok (.aload_n 2, 1) := by decide +kernel
theorem dX5_saysNeed_41 : decode cX5_saysNeed 41 = .ok (.iload_n 3, 1) := by decide +kernel
theorem dX5_saysNeed_42 : decode cX5_saysNeed 42 = .ok (.invokevirtual 43, 3) := by decide +kernel
theorem dX5_saysNeed_45 : decode cX5_saysNeed 45 = .ok (.sipush (-999), 3) := by decide +kernel
theorem dX5_saysNeed_48 : decode cX5_saysNeed 48 = .ok (.sipush 999, 3) := by decide +kernel
theorem dX5_saysNeed_51 : decode cX5_saysNeed 51 = .ok (.aload_n 0, 1) := by decide +kernel
theorem dX5_saysNeed_52 : decode cX5_saysNeed 52 = .ok (.aload_n 1, 1) := by decide +kernel
theorem dX5_saysNeed_53 : decode cX5_saysNeed 53 = .ok (.aload_n 1, 1) := by decide +kernel
theorem dX5_saysNeed_54 : decode cX5_saysNeed 54 = .ok (.getfield 76, 3) := by decide +kernel
theorem dX5_saysNeed_57 : decode cX5_saysNeed 57 = .ok (.aload_n 1, 1) := by decide +kernel
theorem dX5_saysNeed_58 : decode cX5_saysNeed 58 = .ok (.getfield 79, 3) := by decide +kernel
theorem dX5_saysNeed_61 : decode cX5_saysNeed 61 = .ok (.invokevirtual 57, 3) := by decide +kernel
theorem dX5_saysNeed_64 : decode cX5_saysNeed 64 = .ok (.invokestatic 61, 3) := by decide +kernel
theorem dX5_saysNeed_67 : decode cX5_saysNeed 67 = .ok (.invokestatic 67, 3) := by decide +kernel
theorem dX5_saysNeed_70 : decode cX5_saysNeed 70 = .ok (.ireturn, 1) := by decide +kernel
theorem dX5_load_0 : decode cX5_load 0 = .ok (.iload_n 2, 1) := by decide +kernel
theorem dX5_load_1 : decode cX5_load 1 = .ok (.invokestatic 82, 3) := by decide +kernel
theorem dX5_load_4 : decode cX5_load 4 = .ok (.ifCond .eq 84, 3) := by decide +kernel
theorem dX5_load_7 : decode cX5_load 7 = .ok (.aload_n 0, 1) := by decide +kernel
theorem dX5_load_8 : decode cX5_load 8 = .ok (.getfield 11, 3) := by decide +kernel
theorem dX5_load_11 : decode cX5_load 11 = .ok (.iconst 0, 1) := by decide +kernel
theorem dX5_load_12 : decode cX5_load 12 = .ok (.aload_n 1, 1) := by decide +kernel
theorem dX5_load_13 : decode cX5_load 13 = .ok (.getfield 85, 3) := by decide +kernel
theorem dX5_load_16 : decode cX5_load 16 = .ok (.iastore, 1) := by decide +kernel
theorem dX5_load_17 : decode cX5_load 17 = .ok (.aload_n 0, 1) := by decide +kernel
theorem dX5_load_18 : decode cX5_load 18 = .ok (.getfield 11, 3) := by decide +kernel
theorem dX5_load_21 : decode cX5_load 21 = .ok (.iconst 1, 1) := by decide +kernel
theorem dX5_load_22 : decode cX5_load 22 = .ok (.iload_n 2, 1) := by decide +kernel
theorem dX5_load_23 : decode cX5_load 23 = .ok (.iastore, 1) := by decide +kernel
theorem dX5_load_24 : decode cX5_load 24 = .ok (.aload_n 0, 1) := by decide +kernel
theorem dX5_load_25 : decode cX5_load 25 = .ok (.getfield 11, 3) := by decide +kernel
theorem dX5_load_28 : decode cX5_load 28 = .ok (.iconst 2, 1) := by decide +kernel
theorem dX5_load_29 : decode cX5_load 29 = .ok (.aload_n 1, 1) := by decide +kernel
theorem dX5_load_30 : decode cX5_load 30 = .ok (.getfield 70, 3) := by decide +kernel
theorem dX5_load_33 : decode cX5_load 33 = .ok (.iload_n 2, 1) := by decide +kernel
theorem dX5_load_34 : decode cX5_load 34 = .ok (.iaload, 1) := by decide +kernel
theorem dX5_load_35 : decode cX5_load 35 = .ok (.iastore, 1) := by decide +kernel
theorem dX5_load_36 : decode cX5_load 36 = .ok (.aload_n 0, 1) := by decide +kernel
theorem dX5_load_37 : decode cX5_load 37 = .ok (.getfield 11, 3) := by decide +kernel
theorem dX5_load_40 : decode cX5_load 40 = .ok (.iconst 3, 1) := by decide +kernel
theorem dX5_load_41 : decode cX5_load 41 = .ok (.aload_n 1, 1) := by decide +kernel
theorem dX5_load_42 : decode cX5_load 42 = .ok (.getfield 73, 3) := by decide +kernel
theorem dX5_load_45 : decode cX5_load 45 = .ok (.iload_n 2, 1) := by decide +kernel
theorem dX5_load_46 : decode cX5_load 46 = .ok (.iaload, 1) := by decide +kernel
theorem dX5_load_47 : decode cX5_load 47 = .ok (.iastore, 1) := by decide +kernel
theorem dX5_load_48 : decode cX5_load 48 = .ok (.aload_n 0, 1) := by decide +kernel
theorem dX5_load_49 : decode cX5_load 49 = .ok (.getfield 11, 3) := by decide +kernel
theorem dX5_load_52 : decode cX5_load 52 = .ok (.iconst 4, 1) := by decide +kernel
theorem dX5_load_53 : decode cX5_load 53 = .ok (.aload_n 1, 1) := by decide +kernel
theorem dX5_load_54 : decode cX5_load 54 = .ok (.getfield 88, 3) := by decide +kernel
theorem dX5_load_57 : decode cX5_load 57 = .ok (.iload_n 2, 1) := by decide +kernel
theorem dX5_load_58 : decode cX5_load 58 = .ok (.iaload, 1) := by decide +kernel
theorem dX5_load_59 : decode cX5_load 59 = .ok (.iastore, 1) := by decide +kernel
theorem dX5_load_60 : decode cX5_load 60 = .ok (.aload_n 0, 1) := by decide +kernel
theorem dX5_load_61 : decode cX5_load 61 = .ok (.getfield 11, 3) := by decide +kernel
theorem dX5_load_64 : decode cX5_load 64 = .ok (.iconst 5, 1) := by decide +kernel
theorem dX5_load_65 : decode cX5_load 65 = .ok (.aload_n 1, 1) := by decide +kernel
theorem dX5_load_66 : decode cX5_load 66 = .ok (.getfield 91, 3) := by decide +kernel
theorem dX5_load_69 : decode cX5_load 69 = .ok (.iload_n 2, 1) := by decide +kernel
theorem dX5_load_70 : decode cX5_load 70 = .ok (.iaload, 1) := by decide +kernel
theorem dX5_load_71 : decode cX5_load 71 = .ok (.iastore, 1) := by decide +kernel
theorem dX5_load_72 : decode cX5_load 72 = .ok (.aload_n 0, 1) := by decide +kernel
theorem dX5_load_73 : decode cX5_load 73 = .ok (.getfield 11, 3) := by decide +kernel
theorem dX5_load_76 : decode cX5_load 76 = .ok (.bipush 6, 2) := by decide +kernel
theorem dX5_load_78 : decode cX5_load 78 = .ok (.aload_n 1, 1) := by decide +kernel
theorem dX5_load_79 : decode cX5_load 79 = .ok (.getfield 94, 3) := by decide +kernel
theorem dX5_load_82 : decode cX5_load 82 = .ok (.iload_n 2, 1) := by decide +kernel
theorem dX5_load_83 : decode cX5_load 83 = .ok (.iaload, 1) := by decide +kernel
theorem dX5_load_84 : decode cX5_load 84 = .ok (.invokestatic 97, 3) := by decide +kernel
theorem dX5_load_87 : decode cX5_load 87 = .ok (.iastore, 1) := by decide +kernel
theorem dX5_load_88 : decode cX5_load 88 = .ok (.return_, 1) := by decide +kernel
theorem dX5_run_0 : decode cX5_run 0 = .ok (.iconst 0, 1) := by decide +kernel
theorem dX5_run_1 : decode cX5_run 1 = .ok (.istore 4, 2) := by decide +kernel
theorem dX5_run_3 : decode cX5_run 3 = .ok (.iconst 0, 1) := by decide +kernel
theorem dX5_run_4 : decode cX5_run 4 = .ok (.iload_n 2, 1) := by decide +kernel
theorem dX5_run_5 : decode cX5_run 5 = .ok (.invokestatic 67, 3) := by decide +kernel
theorem dX5_run_8 : decode cX5_run 8 = .ok (.istore 5, 2) := by decide +kernel
theorem dX5_run_10 : decode cX5_run 10 = .ok (.iload 5, 2) := by decide +kernel
theorem dX5_run_12 : decode cX5_run 12 = .ok (.iload_n 3, 1) := by decide +kernel
theorem dX5_run_13 : decode cX5_run 13 = .ok (.if_icmp .ge 261, 3) := by decide +kernel
theorem dX5_run_16 : decode cX5_run 16 = .ok (.iload 5, 2) := by decide +kernel
theorem dX5_run_18 : decode cX5_run 18 = .ok (.sipush 300, 3) := by decide +kernel
theorem dX5_run_21 : decode cX5_run 21 = .ok (.if_icmp .ge 253, 3) := by decide +kernel
theorem dX5_run_24 : decode cX5_run 24 = .ok (.aload_n 1, 1) := by decide +kernel
theorem dX5_run_25 : decode cX5_run 25 = .ok (.getfield 103, 3) := by decide +kernel
theorem dX5_run_28 : decode cX5_run 28 = .ok (.iload 5, 2) := by decide +kernel
theorem dX5_run_30 : decode cX5_run 30 = .ok (.iaload, 1) := by decide +kernel
theorem dX5_run_31 : decode cX5_run 31 = .ok (.istore 6, 2) := by decide +kernel
theorem dX5_run_33 : decode cX5_run 33 = .ok (.aload_n 1, 1) := by decide +kernel
theorem dX5_run_34 : decode cX5_run 34 = .ok (.getfield 106, 3) := by decide +kernel
theorem dX5_run_37 : decode cX5_run 37 = .ok (.iload 5, 2) := by decide +kernel
theorem dX5_run_39 : decode cX5_run 39 = .ok (.iaload, 1) := by decide +kernel
theorem dX5_run_40 : decode cX5_run 40 = .ok (.istore 7, 2) := by decide +kernel
theorem dX5_run_42 : decode cX5_run 42 = .ok (.iload 6, 2) := by decide +kernel
theorem dX5_run_44 : decode cX5_run 44 = .ok (.iconst 2, 1) := by decide +kernel
theorem dX5_run_45 : decode cX5_run 45 = .ok (.if_icmp .eq 10, 3) := by decide +kernel
theorem dX5_run_48 : decode cX5_run 48 = .ok (.iload 6, 2) := by decide +kernel
theorem dX5_run_50 : decode cX5_run 50 = .ok (.bipush 45, 2) := by decide +kernel
theorem dX5_run_52 : decode cX5_run 52 = .ok (.if_icmp .ne 41, 3) := by decide +kernel
theorem dX5_run_55 : decode cX5_run 55 = .ok (.iload 4, 2) := by decide +kernel
theorem dX5_run_57 : decode cX5_run 57 = .ok (.sipush 300, 3) := by decide +kernel
theorem dX5_run_60 : decode cX5_run 60 = .ok (.if_icmp .ge 208, 3) := by decide +kernel
theorem dX5_run_63 : decode cX5_run 63 = .ok (.aload_n 0, 1) := by decide +kernel
theorem dX5_run_64 : decode cX5_run 64 = .ok (.getfield 15, 3) := by decide +kernel
theorem dX5_run_67 : decode cX5_run 67 = .ok (.iload 4, 2) := by decide +kernel
theorem dX5_run_69 : decode cX5_run 69 = .ok (.iload 6, 2) := by decide +kernel
theorem dX5_run_71 : decode cX5_run 71 = .ok (.iconst 2, 1) := by decide +kernel
theorem dX5_run_72 : decode cX5_run 72 = .ok (.if_icmp .ne 8, 3) := by decide +kernel
theorem dX5_run_75 : decode cX5_run 75 = .ok (.iload 7, 2) := by decide +kernel
theorem dX5_run_77 : decode cX5_run 77 = .ok (.goto 9, 3) := by decide +kernel
theorem dX5_run_80 : decode cX5_run 80 = .ok (.aload_n 0, 1) := by decide +kernel
theorem dX5_run_81 : decode cX5_run 81 = .ok (.iload 7, 2) := by decide +kernel
theorem dX5_run_83 : decode cX5_run 83 = .ok (.invokevirtual 109, 3) := by decide +kernel
theorem dX5_run_86 : decode cX5_run 86 = .ok (.iastore, 1) := by decide +kernel
theorem dX5_run_87 : decode cX5_run 87 = .ok (.iinc 4 1, 3) := by decide +kernel
theorem dX5_run_90 : decode cX5_run 90 = .ok (.goto 178, 3) := by decide +kernel
theorem dX5_run_93 : decode cX5_run 93 = .ok (.iload 6, 2) := by decide +kernel
theorem dX5_run_95 : decode cX5_run 95 = .ok (.bipush 33, 2) := by decide +kernel
theorem dX5_run_97 : decode cX5_run 97 = .ok (.if_icmp .ne 17, 3) := by decide +kernel
theorem dX5_run_100 : decode cX5_run 100 = .ok (.iload 5, 2) := by decide +kernel
theorem dX5_run_102 : decode cX5_run 102 = .ok (.iload 7, 2) := by decide +kernel
theorem dX5_run_104 : decode cX5_run 104 = .ok (.iconst 1, 1) := by decide +kernel
theorem dX5_run_105 : decode cX5_run 105 = .ok (.isub, 1) := by decide +kernel
theorem dX5_run_106 : decode cX5_run 106 = .ok (.invokestatic 67, 3) := by decide +kernel
theorem dX5_run_109 : decode cX5_run 109 = .ok (.istore 5, 2) := by decide +kernel
theorem dX5_run_111 : decode cX5_run 111 = .ok (.goto 157, 3) := by decide +kernel
theorem dX5_run_114 : decode cX5_run 114 = .ok (.iload 6, 2) := by decide +kernel
theorem dX5_run_116 : decode cX5_run 116 = .ok (.bipush 32, 2) := by decide +kernel
theorem dX5_run_118 : decode cX5_run 118 = .ok (.if_icmp .ne 37, 3) := by decide +kernel
theorem dX5_run_121 : decode cX5_run 121 = .ok (.iconst 0, 1) := by decide +kernel
theorem dX5_run_122 : decode cX5_run 122 = .ok (.iload 4, 2) := by decide +kernel
theorem dX5_run_124 : decode cX5_run 124 = .ok (.iconst 1, 1) := by decide +kernel
theorem dX5_run_125 : decode cX5_run 125 = .ok (.isub, 1) := by decide +kernel
theorem dX5_run_126 : decode cX5_run 126 = .ok (.invokestatic 67, 3) := by decide +kernel
theorem dX5_run_129 : decode cX5_run 129 = .ok (.istore 4, 2) := by decide +kernel
theorem dX5_run_131 : decode cX5_run 131 = .ok (.aload_n 0, 1) := by decide +kernel
theorem dX5_run_132 : decode cX5_run 132 = .ok (.getfield 15, 3) := by decide +kernel
theorem dX5_run_135 : decode cX5_run 135 = .ok (.iload 4, 2) := by decide +kernel
theorem dX5_run_137 : decode cX5_run 137 = .ok (.iaload, 1) := by decide +kernel
theorem dX5_run_138 : decode cX5_run 138 = .ok (.ifCond .ne 130, 3) := by decide +kernel
theorem dX5_run_141 : decode cX5_run 141 = .ok (.iload 5, 2) := by decide +kernel
theorem dX5_run_143 : decode cX5_run 143 = .ok (.iload 7, 2) := by decide +kernel
theorem dX5_run_145 : decode cX5_run 145 = .ok (.iconst 1, 1) := by decide +kernel
theorem dX5_run_146 : decode cX5_run 146 = .ok (.isub, 1) := by decide +kernel
theorem dX5_run_147 : decode cX5_run 147 = .ok (.invokestatic 67, 3) := by decide +kernel
theorem dX5_run_150 : decode cX5_run 150 = .ok (.istore 5, 2) := by decide +kernel
theorem dX5_run_152 : decode cX5_run 152 = .ok (.goto 116, 3) := by decide +kernel
theorem dX5_run_155 : decode cX5_run 155 = .ok (.iload 6, 2) := by decide +kernel
theorem dX5_run_157 : decode cX5_run 157 = .ok (.bipush 46, 2) := by decide +kernel
theorem dX5_run_159 : decode cX5_run 159 = .ok (.if_icmp .eq 17, 3) := by decide +kernel
theorem dX5_run_162 : decode cX5_run 162 = .ok (.iload 6, 2) := by decide +kernel
theorem dX5_run_164 : decode cX5_run 164 = .ok (.bipush 37, 2) := by decide +kernel
theorem dX5_run_166 : decode cX5_run 166 = .ok (.if_icmp .eq 10, 3) := by decide +kernel
theorem dX5_run_169 : decode cX5_run 169 = .ok (.iload 6, 2) := by decide +kernel
theorem dX5_run_171 : decode cX5_run 171 = .ok (.bipush 30, 2) := by decide +kernel
theorem dX5_run_173 : decode cX5_run 173 = .ok (.if_icmp .ne 35, 3) := by decide +kernel
theorem dX5_run_176 : decode cX5_run 176 = .ok (.iload 4, 2) := by decide +kernel
theorem dX5_run_178 : decode cX5_run 178 = .ok (.ifCond .le 90, 3) := by decide +kernel
theorem dX5_run_181 : decode cX5_run 181 = .ok (.aload_n 0, 1) := by decide +kernel
theorem dX5_run_182 : decode cX5_run 182 = .ok (.getfield 15, 3) := by decide +kernel
theorem dX5_run_185 : decode cX5_run 185 = .ok (.iload 4, 2) := by decide +kernel
theorem dX5_run_187 : decode cX5_run 187 = .ok (.iconst 1, 1) := by decide +kernel
theorem dX5_run_188 : decode cX5_run 188 = .ok (.isub, 1) := by decide +kernel
theorem dX5_run_189 : decode cX5_run 189 = .ok (.aload_n 0, 1) := by decide +kernel
theorem dX5_run_190 : decode cX5_run 190 = .ok (.iload 6, 2) := by decide +kernel
theorem dX5_run_192 : decode cX5_run 192 = .ok (.aload_n 0, 1) := by decide +kernel
theorem dX5_run_193 : decode cX5_run 193 = .ok (.getfield 15, 3) := by decide +kernel
theorem dX5_run_196 : decode cX5_run 196 = .ok (.iload 4, 2) := by decide +kernel
theorem dX5_run_198 : decode cX5_run 198 = .ok (.iconst 1, 1) := by decide +kernel
theorem dX5_run_199 : decode cX5_run 199 = .ok (.isub, 1) := by decide +kernel
theorem dX5_run_200 : decode cX5_run 200 = .ok (.iaload, 1) := by decide +kernel
theorem dX5_run_201 : decode cX5_run 201 = .ok (.invokevirtual 112, 3) := by decide +kernel
theorem dX5_run_204 : decode cX5_run 204 = .ok (.iastore, 1) := by decide +kernel
theorem dX5_run_205 : decode cX5_run 205 = .ok (.goto 63, 3) := by decide +kernel
theorem dX5_run_208 : decode cX5_run 208 = .ok (.iload 4, 2) := by decide +kernel
theorem dX5_run_210 : decode cX5_run 210 = .ok (.iconst 1, 1) := by decide +kernel
theorem dX5_run_211 : decode cX5_run 211 = .ok (.if_icmp .le 57, 3) := by decide +kernel
theorem dX5_run_214 : decode cX5_run 214 = .ok (.iload 6, 2) := by decide +kernel
theorem dX5_run_216 : decode cX5_run 216 = .ok (.aload_n 0, 1) := by decide +kernel
theorem dX5_run_217 : decode cX5_run 217 = .ok (.getfield 15, 3) := by decide +kernel
theorem dX5_run_220 : decode cX5_run 220 = .ok (.iload 4, 2) := by decide +kernel
theorem dX5_run_222 : decode cX5_run 222 = .ok (.iconst 2, 1) := by decide +kernel
theorem dX5_run_223 : decode cX5_run 223 = .ok (.isub, 1) := by decide +kernel
theorem dX5_run_224 : decode cX5_run 224 = .ok (.iaload, 1) := by decide +kernel
theorem dX5_run_225 : decode cX5_run 225 = .ok (.i2l, 1) := by decide +kernel
theorem dX5_run_226 : decode cX5_run 226 = .ok (.aload_n 0, 1) := by decide +kernel
theorem dX5_run_227 : decode cX5_run 227 = .ok (.getfield 15, 3) := by decide +kernel
theorem dX5_run_230 : decode cX5_run 230 = .ok (.iload 4, 2) := by decide +kernel
theorem dX5_run_232 : decode cX5_run 232 = .ok (.iconst 1, 1) := by decide +kernel
theorem dX5_run_233 : decode cX5_run 233 = .ok (.isub, 1) := by decide +kernel
theorem dX5_run_234 : decode cX5_run 234 = .ok (.iaload, 1) := by decide +kernel
theorem dX5_run_235 : decode cX5_run 235 = .ok (.i2l, 1) := by decide +kernel
theorem dX5_run_236 : decode cX5_run 236 = .ok (.invokestatic 115, 3) := by decide +kernel
theorem dX5_run_239 : decode cX5_run 239 = .ok (.lstore 8, 2) := by decide +kernel
theorem dX5_run_241 : decode cX5_run 241 = .ok (.aload_n 0, 1) := by decide +kernel
theorem dX5_run_242 : decode cX5_run 242 = .ok (.getfield 15, 3) := by decide +kernel
theorem dX5_run_245 : decode cX5_run 245 = .ok (.iload 4, 2) := by decide +kernel
theorem dX5_run_247 : decode cX5_run 247 = .ok (.iconst 2, 1) := by decide +kernel
theorem dX5_run_248 : decode cX5_run 248 = .ok (.isub, 1) := by decide +kernel
theorem dX5_run_249 : decode cX5_run 249 = .ok (.ldc2_w 119, 3) := by decide +kernel
theorem dX5_run_252 : decode cX5_run 252 = .ok (.ldc2_w 121, 3) := by decide +kernel
theorem dX5_run_255 : decode cX5_run 255 = .ok (.lload 8, 2) := by decide +kernel
theorem dX5_run_257 : decode cX5_run 257 = .ok (.invokestatic 123, 3) := by decide +kernel
theorem dX5_run_260 : decode cX5_run 260 = .ok (.invokestatic 126, 3) := by decide +kernel
theorem dX5_run_263 : decode cX5_run 263 = .ok (.l2i, 1) := by decide +kernel
theorem dX5_run_264 : decode cX5_run 264 = .ok (.iastore, 1) := by decide +kernel
theorem dX5_run_265 : decode cX5_run 265 = .ok (.iinc 4 (-1), 3) := by decide +kernel
theorem dX5_run_268 : decode cX5_run 268 = .ok (.iinc 5 1, 3) := by decide +kernel
theorem dX5_run_271 : decode cX5_run 271 = .ok (.goto (-261), 3) := by decide +kernel
theorem dX5_run_274 : decode cX5_run 274 = .ok (.aload_n 0, 1) := by decide +kernel
theorem dX5_run_275 : decode cX5_run 275 = .ok (.getfield 15, 3) := by decide +kernel
theorem dX5_run_278 : decode cX5_run 278 = .ok (.iconst 0, 1) := by decide +kernel
theorem dX5_run_279 : decode cX5_run 279 = .ok (.iaload, 1) := by decide +kernel
theorem dX5_run_280 : decode cX5_run 280 = .ok (.ireturn, 1) := by decide +kernel
theorem dX5_nameAt_0 : decode cX5_nameAt 0 = .ok (.iload_n 1, 1) := by decide +kernel
theorem dX5_nameAt_1 : decode cX5_nameAt 1 = .ok (.ifCond .lt 18, 3) := by decide +kernel
theorem dX5_nameAt_4 : decode cX5_nameAt 4 = .ok (.iload_n 1, 1) := by decide +kernel
theorem dX5_nameAt_5 : decode cX5_nameAt 5 = .ok (.bipush 10, 2) := by decide +kernel
theorem dX5_nameAt_7 : decode cX5_nameAt 7 = .ok (.if_icmp .ge 12, 3) := by decide +kernel
theorem dX5_nameAt_10 : decode cX5_nameAt 10 = .ok (.aload_n 0, 1) := by decide +kernel
theorem dX5_nameAt_11 : decode cX5_nameAt 11 = .ok (.getfield 11, 3) := by decide +kernel
theorem dX5_nameAt_14 : decode cX5_nameAt 14 = .ok (.iload_n 1, 1) := by decide +kernel
theorem dX5_nameAt_15 : decode cX5_nameAt 15 = .ok (.iaload, 1) := by decide +kernel
theorem dX5_nameAt_16 : decode cX5_nameAt 16 = .ok (.goto 4, 3) := by decide +kernel
theorem dX5_nameAt_19 : decode cX5_nameAt 19 = .ok (.iconst 0, 1) := by decide +kernel
theorem dX5_nameAt_20 : decode cX5_nameAt 20 = .ok (.ireturn, 1) := by decide +kernel
theorem dX5_changed_0 : decode cX5_changed 0 = .ok (.iload_n 1, 1) := by decide +kernel
theorem dX5_changed_1 : decode cX5_changed 1 = .ok (.bipush 46, 2) := by decide +kernel
theorem dX5_changed_3 : decode cX5_changed 3 = .ok (.if_icmp .ne 6, 3) := by decide +kernel
theorem dX5_changed_6 : decode cX5_changed 6 = .ok (.iload_n 2, 1) := by decide +kernel
theorem dX5_changed_7 : decode cX5_changed 7 = .ok (.ineg, 1) := by decide +kernel
theorem dX5_changed_8 : decode cX5_changed 8 = .ok (.ireturn, 1) := by decide +kernel
theorem dX5_changed_9 : decode cX5_changed 9 = .ok (.iload_n 1, 1) := by decide +kernel
theorem dX5_changed_10 : decode cX5_changed 10 = .ok (.bipush 37, 2) := by decide +kernel
theorem dX5_changed_12 : decode cX5_changed 12 = .ok (.if_icmp .ne 13, 3) := by decide +kernel
theorem dX5_changed_15 : decode cX5_changed 15 = .ok (.iload_n 2, 1) := by decide +kernel
theorem dX5_changed_16 : decode cX5_changed 16 = .ok (.ifCond .ne 7, 3) := by decide +kernel
theorem dX5_changed_19 : decode cX5_changed 19 = .ok (.iconst 1, 1) := by decide +kernel
theorem dX5_changed_20 : decode cX5_changed 20 = .ok (.goto 4, 3) := by decide +kernel
theorem dX5_changed_23 : decode cX5_changed 23 = .ok (.iconst 0, 1) := by decide +kernel
theorem dX5_changed_24 : decode cX5_changed 24 = .ok (.ireturn, 1) := by decide +kernel
theorem dX5_changed_25 : decode cX5_changed 25 = .ok (.iload_n 2, 1) := by decide +kernel
theorem dX5_changed_26 : decode cX5_changed 26 = .ok (.ifCond .lt 21, 3) := by decide +kernel
theorem dX5_changed_29 : decode cX5_changed 29 = .ok (.iload_n 2, 1) := by decide +kernel
theorem dX5_changed_30 : decode cX5_changed 30 = .ok (.bipush 12, 2) := by decide +kernel
theorem dX5_changed_32 : decode cX5_changed 32 = .ok (.if_icmp .ge 15, 3) := by decide +kernel
theorem dX5_changed_35 : decode cX5_changed 35 = .ok (.aload_n 0, 1) := by decide +kernel
theorem dX5_changed_36 : decode cX5_changed 36 = .ok (.getfield 18, 3) := by decide +kernel
theorem dX5_changed_39 : decode cX5_changed 39 = .ok (.getfield 128, 3) := by decide +kernel
theorem dX5_changed_42 : decode cX5_changed 42 = .ok (.iload_n 2, 1) := by decide +kernel
theorem dX5_changed_43 : decode cX5_changed 43 = .ok (.iaload, 1) := by decide +kernel
theorem dX5_changed_44 : decode cX5_changed 44 = .ok (.goto 4, 3) := by decide +kernel
theorem dX5_changed_47 : decode cX5_changed 47 = .ok (.iconst 0, 1) := by decide +kernel
theorem dX5_changed_48 : decode cX5_changed 48 = .ok (.ireturn, 1) := by decide +kernel
theorem dX5_joined_0 : decode cX5_joined 0 = .ok (.iload_n 0, 1) := by decide +kernel
theorem dX5_joined_1 : decode cX5_joined 1 = .ok (.tableswitch 301 3 36 #[211, 223, 235, 247, 259, 271, 151, 155, 159, 163, 301, 301, 301, 301, 301, 301, 301, 301, 301, 301, 301, 301, 301, 301, 301, 301, 177, 301, 301, 301, 301, 301, 301, 283], 151) := by decide +kernel
theorem dX5_joined_152 : decode cX5_joined 152 = .ok (.lload_n 1, 1) := by decide +kernel
theorem dX5_joined_153 : decode cX5_joined 153 = .ok (.lload_n 3, 1) := by decide +kernel
theorem dX5_joined_154 : decode cX5_joined 154 = .ok (.ladd, 1) := by decide +kernel
theorem dX5_joined_155 : decode cX5_joined 155 = .ok (.lreturn, 1) := by decide +kernel
theorem dX5_joined_156 : decode cX5_joined 156 = .ok (.lload_n 1, 1) := by decide +kernel
theorem dX5_joined_157 : decode cX5_joined 157 = .ok (.lload_n 3, 1) := by decide +kernel
theorem dX5_joined_158 : decode cX5_joined 158 = .ok (.lsub, 1) := by decide +kernel
theorem dX5_joined_159 : decode cX5_joined 159 = .ok (.lreturn, 1) := by decide +kernel
theorem dX5_joined_160 : decode cX5_joined 160 = .ok (.lload_n 1, 1) := by decide +kernel
theorem dX5_joined_161 : decode cX5_joined 161 = .ok (.lload_n 3, 1) := by decide +kernel
theorem dX5_joined_162 : decode cX5_joined 162 = .ok (.lmul, 1) := by decide +kernel
theorem dX5_joined_163 : decode cX5_joined 163 = .ok (.lreturn, 1) := by decide +kernel
theorem dX5_joined_164 : decode cX5_joined 164 = .ok (.lload_n 3, 1) := by decide +kernel
theorem dX5_joined_165 : decode cX5_joined 165 = .ok (.lconst 0, 1) := by decide +kernel
theorem dX5_joined_166 : decode cX5_joined 166 = .ok (.lcmp, 1) := by decide +kernel
theorem dX5_joined_167 : decode cX5_joined 167 = .ok (.ifCond .ne 7, 3) := by decide +kernel
theorem dX5_joined_170 : decode cX5_joined 170 = .ok (.lconst 0, 1) := by decide +kernel
theorem dX5_joined_171 : decode cX5_joined 171 = .ok (.goto 6, 3) := by decide +kernel
theorem dX5_joined_174 : decode cX5_joined 174 = .ok (.lload_n 1, 1) := by decide +kernel
theorem dX5_joined_175 : decode cX5_joined 175 = .ok (.lload_n 3, 1) := by decide +kernel
theorem dX5_joined_176 : decode cX5_joined 176 = .ok (.ldiv, 1) := by decide +kernel
theorem dX5_joined_177 : decode cX5_joined 177 = .ok (.lreturn, 1) := by decide +kernel
theorem dX5_joined_178 : decode cX5_joined 178 = .ok (.lload_n 3, 1) := by decide +kernel
theorem dX5_joined_179 : decode cX5_joined 179 = .ok (.lconst 0, 1) := by decide +kernel
theorem dX5_joined_180 : decode cX5_joined 180 = .ok (.lcmp, 1) := by decide +kernel
theorem dX5_joined_181 : decode cX5_joined 181 = .ok (.ifCond .gt 7, 3) := by decide +kernel
theorem dX5_joined_184 : decode cX5_joined 184 = .ok (.lconst 0, 1) := by decide +kernel
theorem dX5_joined_185 : decode cX5_joined 185 = .ok (.goto 26, 3) := by decide +kernel
theorem dX5_joined_188 : decode cX5_joined 188 = .ok (.lload_n 1, 1) := by decide +kernel
theorem dX5_joined_189 : decode cX5_joined 189 = .ok (.lload_n 3, 1) := by decide +kernel
theorem dX5_joined_190 : decode cX5_joined 190 = .ok (.lcmp, 1) := by decide +kernel
theorem dX5_joined_191 : decode cX5_joined 191 = .ok (.ifCond .le 7, 3) := by decide +kernel
theorem dX5_joined_194 : decode cX5_joined 194 = .ok (.lload_n 3, 1) := by decide +kernel
theorem dX5_joined_195 : decode cX5_joined 195 = .ok (.goto 16, 3) := by decide +kernel
theorem dX5_joined_198 : decode cX5_joined 198 = .ok (.lload_n 1, 1) := by decide +kernel
theorem dX5_joined_199 : decode cX5_joined 199 = .ok (.lload_n 3, 1) := by decide +kernel
theorem dX5_joined_200 : decode cX5_joined 200 = .ok (.lneg, 1) := by decide +kernel
theorem dX5_joined_201 : decode cX5_joined 201 = .ok (.lcmp, 1) := by decide +kernel
theorem dX5_joined_202 : decode cX5_joined 202 = .ok (.ifCond .ge 8, 3) := by decide +kernel
theorem dX5_joined_205 : decode cX5_joined 205 = .ok (.lload_n 3, 1) := by decide +kernel
theorem dX5_joined_206 : decode cX5_joined 206 = .ok (.lneg, 1) := by decide +kernel
theorem dX5_joined_207 : decode cX5_joined 207 = .ok (.goto 4, 3) := by decide +kernel
theorem dX5_joined_210 : decode cX5_joined 210 = .ok (.lload_n 1, 1) := by decide +kernel
theorem dX5_joined_211 : decode cX5_joined 211 = .ok (.lreturn, 1) := by decide +kernel
theorem dX5_joined_212 : decode cX5_joined 212 = .ok (.lload_n 1, 1) := by decide +kernel
theorem dX5_joined_213 : decode cX5_joined 213 = .ok (.lload_n 3, 1) := by decide +kernel
theorem dX5_joined_214 : decode cX5_joined 214 = .ok (.lcmp, 1) := by decide +kernel
theorem dX5_joined_215 : decode cX5_joined 215 = .ok (.ifCond .ge 7, 3) := by decide +kernel
theorem dX5_joined_218 : decode cX5_joined 218 = .ok (.lconst 1, 1) := by decide +kernel
theorem dX5_joined_219 : decode cX5_joined 219 = .ok (.goto 4, 3) := by decide +kernel
theorem dX5_joined_222 : decode cX5_joined 222 = .ok (.lconst 0, 1) := by decide +kernel
theorem dX5_joined_223 : decode cX5_joined 223 = .ok (.lreturn, 1) := by decide +kernel
theorem dX5_joined_224 : decode cX5_joined 224 = .ok (.lload_n 1, 1) := by decide +kernel
theorem dX5_joined_225 : decode cX5_joined 225 = .ok (.lload_n 3, 1) := by decide +kernel
theorem dX5_joined_226 : decode cX5_joined 226 = .ok (.lcmp, 1) := by decide +kernel
theorem dX5_joined_227 : decode cX5_joined 227 = .ok (.ifCond .gt 7, 3) := by decide +kernel
theorem dX5_joined_230 : decode cX5_joined 230 = .ok (.lconst 1, 1) := by decide +kernel
theorem dX5_joined_231 : decode cX5_joined 231 = .ok (.goto 4, 3) := by decide +kernel
theorem dX5_joined_234 : decode cX5_joined 234 = .ok (.lconst 0, 1) := by decide +kernel
theorem dX5_joined_235 : decode cX5_joined 235 = .ok (.lreturn, 1) := by decide +kernel
theorem dX5_joined_236 : decode cX5_joined 236 = .ok (.lload_n 1, 1) := by decide +kernel
theorem dX5_joined_237 : decode cX5_joined 237 = .ok (.lload_n 3, 1) := by decide +kernel
theorem dX5_joined_238 : decode cX5_joined 238 = .ok (.lcmp, 1) := by decide +kernel
theorem dX5_joined_239 : decode cX5_joined 239 = .ok (.ifCond .le 7, 3) := by decide +kernel
theorem dX5_joined_242 : decode cX5_joined 242 = .ok (.lconst 1, 1) := by decide +kernel
theorem dX5_joined_243 : decode cX5_joined 243 = .ok (.goto 4, 3) := by decide +kernel
theorem dX5_joined_246 : decode cX5_joined 246 = .ok (.lconst 0, 1) := by decide +kernel
theorem dX5_joined_247 : decode cX5_joined 247 = .ok (.lreturn, 1) := by decide +kernel
theorem dX5_joined_248 : decode cX5_joined 248 = .ok (.lload_n 1, 1) := by decide +kernel
theorem dX5_joined_249 : decode cX5_joined 249 = .ok (.lload_n 3, 1) := by decide +kernel
theorem dX5_joined_250 : decode cX5_joined 250 = .ok (.lcmp, 1) := by decide +kernel
theorem dX5_joined_251 : decode cX5_joined 251 = .ok (.ifCond .lt 7, 3) := by decide +kernel
theorem dX5_joined_254 : decode cX5_joined 254 = .ok (.lconst 1, 1) := by decide +kernel
theorem dX5_joined_255 : decode cX5_joined 255 = .ok (.goto 4, 3) := by decide +kernel
theorem dX5_joined_258 : decode cX5_joined 258 = .ok (.lconst 0, 1) := by decide +kernel
theorem dX5_joined_259 : decode cX5_joined 259 = .ok (.lreturn, 1) := by decide +kernel
theorem dX5_joined_260 : decode cX5_joined 260 = .ok (.lload_n 1, 1) := by decide +kernel
theorem dX5_joined_261 : decode cX5_joined 261 = .ok (.lload_n 3, 1) := by decide +kernel
theorem dX5_joined_262 : decode cX5_joined 262 = .ok (.lcmp, 1) := by decide +kernel
theorem dX5_joined_263 : decode cX5_joined 263 = .ok (.ifCond .ne 7, 3) := by decide +kernel
theorem dX5_joined_266 : decode cX5_joined 266 = .ok (.lconst 1, 1) := by decide +kernel
theorem dX5_joined_267 : decode cX5_joined 267 = .ok (.goto 4, 3) := by decide +kernel
theorem dX5_joined_270 : decode cX5_joined 270 = .ok (.lconst 0, 1) := by decide +kernel
theorem dX5_joined_271 : decode cX5_joined 271 = .ok (.lreturn, 1) := by decide +kernel
theorem dX5_joined_272 : decode cX5_joined 272 = .ok (.lload_n 1, 1) := by decide +kernel
theorem dX5_joined_273 : decode cX5_joined 273 = .ok (.lload_n 3, 1) := by decide +kernel
theorem dX5_joined_274 : decode cX5_joined 274 = .ok (.lcmp, 1) := by decide +kernel
theorem dX5_joined_275 : decode cX5_joined 275 = .ok (.ifCond .eq 7, 3) := by decide +kernel
theorem dX5_joined_278 : decode cX5_joined 278 = .ok (.lconst 1, 1) := by decide +kernel
theorem dX5_joined_279 : decode cX5_joined 279 = .ok (.goto 4, 3) := by decide +kernel
theorem dX5_joined_282 : decode cX5_joined 282 = .ok (.lconst 0, 1) := by decide +kernel
theorem dX5_joined_283 : decode cX5_joined 283 = .ok (.lreturn, 1) := by decide +kernel
theorem dX5_joined_284 : decode cX5_joined 284 = .ok (.lload_n 1, 1) := by decide +kernel
theorem dX5_joined_285 : decode cX5_joined 285 = .ok (.lconst 0, 1) := by decide +kernel
theorem dX5_joined_286 : decode cX5_joined 286 = .ok (.lcmp, 1) := by decide +kernel
theorem dX5_joined_287 : decode cX5_joined 287 = .ok (.ifCond .eq 13, 3) := by decide +kernel
theorem dX5_joined_290 : decode cX5_joined 290 = .ok (.lload_n 3, 1) := by decide +kernel
theorem dX5_joined_291 : decode cX5_joined 291 = .ok (.lconst 0, 1) := by decide +kernel
theorem dX5_joined_292 : decode cX5_joined 292 = .ok (.lcmp, 1) := by decide +kernel
theorem dX5_joined_293 : decode cX5_joined 293 = .ok (.ifCond .eq 7, 3) := by decide +kernel
theorem dX5_joined_296 : decode cX5_joined 296 = .ok (.lconst 1, 1) := by decide +kernel
theorem dX5_joined_297 : decode cX5_joined 297 = .ok (.goto 4, 3) := by decide +kernel
theorem dX5_joined_300 : decode cX5_joined 300 = .ok (.lconst 0, 1) := by decide +kernel
theorem dX5_joined_301 : decode cX5_joined 301 = .ok (.lreturn, 1) := by decide +kernel
theorem dX5_joined_302 : decode cX5_joined 302 = .ok (.lload_n 1, 1) := by decide +kernel
theorem dX5_joined_303 : decode cX5_joined 303 = .ok (.lconst 0, 1) := by decide +kernel
theorem dX5_joined_304 : decode cX5_joined 304 = .ok (.lcmp, 1) := by decide +kernel
theorem dX5_joined_305 : decode cX5_joined 305 = .ok (.ifCond .ne 9, 3) := by decide +kernel
theorem dX5_joined_308 : decode cX5_joined 308 = .ok (.lload_n 3, 1) := by decide +kernel
theorem dX5_joined_309 : decode cX5_joined 309 = .ok (.lconst 0, 1) := by decide +kernel
