theorem dX0_init_0 : decode cX0_init 0 = .ok (.aload_n 0, 1) := by decide +kernel
theorem dX0_init_1 : decode cX0_init 1 = .ok (.invokespecial 3, 3) := by decide +kernel
theorem dX0_init_4 : decode cX0_init 4 = .ok (.aload_n 0, 1) := by decide +kernel
theorem dX0_init_5 : decode cX0_init 5 = .ok (.sipush 4096, 3) := by decide +kernel
theorem dX0_init_8 : decode cX0_init 8 = .ok (.newarray .byte, 2) := by decide +kernel
theorem dX0_init_10 : decode cX0_init 10 = .ok (.putfield 9, 3) := by decide +kernel
theorem dX0_init_13 : decode cX0_init 13 = .ok (.aload_n 0, 1) := by decide +kernel
theorem dX0_init_14 : decode cX0_init 14 = .ok (.bipush 12, 2) := by decide +kernel
theorem dX0_init_16 : decode cX0_init 16 = .ok (.newarray .int, 2) := by decide +kernel
theorem dX0_init_18 : decode cX0_init 18 = .ok (.putfield 15, 3) := by decide +kernel
theorem dX0_init_21 : decode cX0_init 21 = .ok (.aload_n 0, 1) := by decide +kernel
theorem dX0_init_22 : decode cX0_init 22 = .ok (.aload_n 1, 1) := by decide +kernel
theorem dX0_init_23 : decode cX0_init 23 = .ok (.putfield 19, 3) := by decide +kernel
theorem dX0_init_26 : decode cX0_init 26 = .ok (.return_, 1) := by decide +kernel
set_option maxRecDepth 20000 in
theorem ggX0_questions_X0_forgetIfChanged : GoodIn wsX0_questions wsX0_forgetIfChanged := goodIn_r _ [5, 6, 7, 8, 9, 45, 46, 47, 48, 49, 50, 51, 52] (by decide +kernel) (by decide +kernel)
set_option maxRecDepth 20000 in
theorem gX0_questions_X0_forgetIfChanged : GoodIn wsX0_questions (wsV RX0 23 RX0 yX0_forgetIfChanged wsX0_forgetIfChanged) := goodIn_app (goodIn_of _ (by decide +kernel)) ggX0_questions_X0_forgetIfChanged
set_option maxRecDepth 20000 in
theorem ggX0_questions_X0_fewest : GoodIn wsX0_questions wsX0_fewest := goodIn_r _ [13, 9, 14, 15, 16, 17, 18, 19, 20, 21, 22, 23, 24, 25, 26, 27, 4, 28, 7, 29, 30, 31, 32, 33, 34, 35, 36, 37, 38, 39, 40, 41, 42, 43, 44, 10, 11, 12, 45, 46, 47, 48, 49, 50, 51, 52] (by decide +kernel) (by decide +kernel)
set_option maxRecDepth 20000 in
theorem gX0_questions_X0_fewest : GoodIn wsX0_questions (wsV RX0 26 RX0 yX0_fewest wsX0_fewest) := goodIn_app (goodIn_of _ (by decide +kernel)) ggX0_questions_X0_fewest
theorem dX0_questions_0 : decode cX0_questions 0 = .ok (.aload_n 0, 1) := by decide +kernel
theorem dX0_questions_1 : decode cX0_questions 1 = .ok (.invokevirtual 23, 3) := by decide +kernel
theorem dX0_questions_4 : decode cX0_questions 4 = .ok (.aload_n 0, 1) := by decide +kernel
theorem dX0_questions_5 : decode cX0_questions 5 = .ok (.iload_n 1, 1) := by decide +kernel
theorem dX0_questions_6 : decode cX0_questions 6 = .ok (.iconst 0, 1) := by decide +kernel
theorem dX0_questions_7 : decode cX0_questions 7 = .ok (.invokevirtual 26, 3) := by decide +kernel
theorem dX0_questions_10 : decode cX0_questions 10 = .ok (.ireturn, 1) := by decide +kernel
set_option maxRecDepth 20000 in
theorem ggX0_best_X0_forgetIfChanged : GoodIn wsX0_best wsX0_forgetIfChanged := goodIn_r _ [5, 6, 7, 8, 9, 45, 46, 47, 48, 49, 50, 51, 52] (by decide +kernel) (by decide +kernel)
set_option maxRecDepth 20000 in
theorem gX0_best_X0_forgetIfChanged : GoodIn wsX0_best (wsV RX0 23 RX0 yX0_forgetIfChanged wsX0_forgetIfChanged) := goodIn_app (goodIn_of _ (by decide +kernel)) ggX0_best_X0_forgetIfChanged
set_option maxRecDepth 20000 in
theorem ggX0_best_X0_fewest : GoodIn wsX0_best wsX0_fewest := goodIn_r _ [13, 9, 14, 15, 16, 17, 18, 19, 20, 21, 22, 23, 24, 25, 26, 27, 4, 28, 7, 29, 30, 31, 32, 33, 34, 35, 36, 37, 38, 39, 40, 41, 42, 43, 44, 10, 11, 12, 45, 46, 47, 48, 49, 50, 51, 52] (by decide +kernel) (by decide +kernel)
set_option maxRecDepth 20000 in
theorem gX0_best_X0_fewest : GoodIn wsX0_best (wsV RX0 26 RX0 yX0_fewest wsX0_fewest) := goodIn_app (goodIn_of _ (by decide +kernel)) ggX0_best_X0_fewest
set_option maxRecDepth 20000 in
theorem ggX0_best_X0_askingFirst : GoodIn wsX0_best wsX0_askingFirst := goodIn_r _ [44, 7, 29, 30, 16, 31, 32, 33, 34, 35, 36, 37, 38, 39, 40, 10, 11, 12, 4, 13, 9, 14, 15, 17, 18, 19, 20, 21, 22, 23, 24, 25, 26, 27, 28, 41, 42, 43, 45, 46, 47, 48, 49, 50, 51, 52] (by decide +kernel) (by decide +kernel)
set_option maxRecDepth 20000 in
theorem gX0_best_X0_askingFirst : GoodIn wsX0_best (wsV RX0 30 RX0 yX0_askingFirst wsX0_askingFirst) := goodIn_app (goodIn_of _ (by decide +kernel)) ggX0_best_X0_askingFirst
theorem dX0_best_0 : decode cX0_best 0 = .ok (.aload_n 0, 1) := by decide +kernel
theorem dX0_best_1 : decode cX0_best 1 = .ok (.invokevirtual 23, 3) := by decide +kernel
theorem dX0_best_4 : decode cX0_best 4 = .ok (.aload_n 0, 1) := by decide +kernel
theorem dX0_best_5 : decode cX0_best 5 = .ok (.iload_n 1, 1) := by decide +kernel
theorem dX0_best_6 : decode cX0_best 6 = .ok (.iconst 0, 1) := by decide +kernel
theorem dX0_best_7 : decode cX0_best 7 = .ok (.invokevirtual 26, 3) := by decide +kernel
theorem dX0_best_10 : decode cX0_best 10 = .ok (.istore_n 2, 1) := by decide +kernel
theorem dX0_best_11 : decode cX0_best 11 = .ok (.iconst 0, 1) := by decide +kernel
theorem dX0_best_12 : decode cX0_best 12 = .ok (.istore_n 3, 1) := by decide +kernel
theorem dX0_best_13 : decode cX0_best 13 = .ok (.iload_n 3, 1) := by decide +kernel
theorem dX0_best_14 : decode cX0_best 14 = .ok (.bipush 12, 2) := by decide +kernel
theorem dX0_best_16 : decode cX0_best 16 = .ok (.if_icmp .ge 26, 3) := by decide +kernel
theorem dX0_best_19 : decode cX0_best 19 = .ok (.iload_n 2, 1) := by decide +kernel
theorem dX0_best_20 : decode cX0_best 20 = .ok (.ifCond .le 22, 3) := by decide +kernel
theorem dX0_best_23 : decode cX0_best 23 = .ok (.aload_n 0, 1) := by decide +kernel
theorem dX0_best_24 : decode cX0_best 24 = .ok (.iload_n 1, 1) := by decide +kernel
theorem dX0_best_25 : decode cX0_best 25 = .ok (.iload_n 3, 1) := by decide +kernel
theorem dX0_best_26 : decode cX0_best 26 = .ok (.iconst 0, 1) := by decide +kernel
theorem dX0_best_27 : decode cX0_best 27 = .ok (.invokevirtual 30, 3) := by decide +kernel
theorem dX0_best_30 : decode cX0_best 30 = .ok (.iload_n 2, 1) := by decide +kernel
theorem dX0_best_31 : decode cX0_best 31 = .ok (.if_icmp .ne 5, 3) := by decide +kernel
theorem dX0_best_34 : decode cX0_best 34 = .ok (.iload_n 3, 1) := by decide +kernel
theorem dX0_best_35 : decode cX0_best 35 = .ok (.ireturn, 1) := by decide +kernel
theorem dX0_best_36 : decode cX0_best 36 = .ok (.iinc 3 1, 3) := by decide +kernel
theorem dX0_best_39 : decode cX0_best 39 = .ok (.goto (-26), 3) := by decide +kernel
theorem dX0_best_42 : decode cX0_best 42 = .ok (.iconst (-1), 1) := by decide +kernel
theorem dX0_best_43 : decode cX0_best 43 = .ok (.ireturn, 1) := by decide +kernel
theorem dX0_forgetIfChanged_0 : decode cX0_forgetIfChanged 0 = .ok (.iconst 0, 1) := by decide +kernel
theorem dX0_forgetIfChanged_1 : decode cX0_forgetIfChanged 1 = .ok (.istore_n 1, 1) := by decide +kernel
theorem dX0_forgetIfChanged_2 : decode cX0_forgetIfChanged 2 = .ok (.iconst 0, 1) := by decide +kernel
theorem dX0_forgetIfChanged_3 : decode cX0_forgetIfChanged 3 = .ok (.istore_n 2, 1) := by decide +kernel
theorem dX0_forgetIfChanged_4 : decode cX0_forgetIfChanged 4 = .ok (.iload_n 2, 1) := by decide +kernel
theorem dX0_forgetIfChanged_5 : decode cX0_forgetIfChanged 5 = .ok (.bipush 12, 2) := by decide +kernel
theorem dX0_forgetIfChanged_7 : decode cX0_forgetIfChanged 7 = .ok (.if_icmp .ge 50, 3) := by decide +kernel
theorem dX0_forgetIfChanged_10 : decode cX0_forgetIfChanged 10 = .ok (.iload_n 1, 1) := by decide +kernel
theorem dX0_forgetIfChanged_11 : decode cX0_forgetIfChanged 11 = .ok (.aload_n 0, 1) := by decide +kernel
theorem dX0_forgetIfChanged_12 : decode cX0_forgetIfChanged 12 = .ok (.getfield 15, 3) := by decide +kernel
theorem dX0_forgetIfChanged_15 : decode cX0_forgetIfChanged 15 = .ok (.iload_n 2, 1) := by decide +kernel
theorem dX0_forgetIfChanged_16 : decode cX0_forgetIfChanged 16 = .ok (.iaload, 1) := by decide +kernel
theorem dX0_forgetIfChanged_17 : decode cX0_forgetIfChanged 17 = .ok (.aload_n 0, 1) := by decide +kernel
theorem dX0_forgetIfChanged_18 : decode cX0_forgetIfChanged 18 = .ok (.getfield 19, 3) := by decide +kernel
theorem dX0_forgetIfChanged_21 : decode cX0_forgetIfChanged 21 = .ok (.getfield 34, 3) := by decide +kernel
theorem dX0_forgetIfChanged_24 : decode cX0_forgetIfChanged 24 = .ok (.iload_n 2, 1) := by decide +kernel
theorem dX0_forgetIfChanged_25 : decode cX0_forgetIfChanged 25 = .ok (.iaload, 1) := by decide +kernel
theorem dX0_forgetIfChanged_26 : decode cX0_forgetIfChanged 26 = .ok (.if_icmp .eq 7, 3) := by decide +kernel
theorem dX0_forgetIfChanged_29 : decode cX0_forgetIfChanged 29 = .ok (.iconst 1, 1) := by decide +kernel
theorem dX0_forgetIfChanged_30 : decode cX0_forgetIfChanged 30 = .ok (.goto 4, 3) := by decide +kernel
theorem dX0_forgetIfChanged_33 : decode cX0_forgetIfChanged 33 = .ok (.iconst 0, 1) := by decide +kernel
theorem dX0_forgetIfChanged_34 : decode cX0_forgetIfChanged 34 = .ok (.ior, 1) := by decide +kernel
theorem dX0_forgetIfChanged_35 : decode cX0_forgetIfChanged 35 = .ok (.istore_n 1, 1) := by decide +kernel
theorem dX0_forgetIfChanged_36 : decode cX0_forgetIfChanged 36 = .ok (.aload_n 0, 1) := by decide +kernel
theorem dX0_forgetIfChanged_37 : decode cX0_forgetIfChanged 37 = .ok (.getfield 15, 3) := by decide +kernel
theorem dX0_forgetIfChanged_40 : decode cX0_forgetIfChanged 40 = .ok (.iload_n 2, 1) := by decide +kernel
theorem dX0_forgetIfChanged_41 : decode cX0_forgetIfChanged 41 = .ok (.aload_n 0, 1) := by decide +kernel
theorem dX0_forgetIfChanged_42 : decode cX0_forgetIfChanged 42 = .ok (.getfield 19, 3) := by decide +kernel
theorem dX0_forgetIfChanged_45 : decode cX0_forgetIfChanged 45 = .ok (.getfield 34, 3) := by decide +kernel
theorem dX0_forgetIfChanged_48 : decode cX0_forgetIfChanged 48 = .ok (.iload_n 2, 1) := by decide +kernel
theorem dX0_forgetIfChanged_49 : decode cX0_forgetIfChanged 49 = .ok (.iaload, 1) := by decide +kernel
theorem dX0_forgetIfChanged_50 : decode cX0_forgetIfChanged 50 = .ok (.iastore, 1) := by decide +kernel
theorem dX0_forgetIfChanged_51 : decode cX0_forgetIfChanged 51 = .ok (.iinc 2 1, 3) := by decide +kernel
theorem dX0_forgetIfChanged_54 : decode cX0_forgetIfChanged 54 = .ok (.goto (-50), 3) := by decide +kernel
theorem dX0_forgetIfChanged_57 : decode cX0_forgetIfChanged 57 = .ok (.iconst 0, 1) := by decide +kernel
theorem dX0_forgetIfChanged_58 : decode cX0_forgetIfChanged 58 = .ok (.istore_n 2, 1) := by decide +kernel
theorem dX0_forgetIfChanged_59 : decode cX0_forgetIfChanged 59 = .ok (.iload_n 1, 1) := by decide +kernel
theorem dX0_forgetIfChanged_60 : decode cX0_forgetIfChanged 60 = .ok (.ifCond .eq 23, 3) := by decide +kernel
theorem dX0_forgetIfChanged_63 : decode cX0_forgetIfChanged 63 = .ok (.iload_n 2, 1) := by decide +kernel
theorem dX0_forgetIfChanged_64 : decode cX0_forgetIfChanged 64 = .ok (.sipush 4096, 3) := by decide +kernel
theorem dX0_forgetIfChanged_67 : decode cX0_forgetIfChanged 67 = .ok (.if_icmp .ge 16, 3) := by decide +kernel
theorem dX0_forgetIfChanged_70 : decode cX0_forgetIfChanged 70 = .ok (.aload_n 0, 1) := by decide +kernel
theorem dX0_forgetIfChanged_71 : decode cX0_forgetIfChanged 71 = .ok (.getfield 9, 3) := by decide +kernel
theorem dX0_forgetIfChanged_74 : decode cX0_forgetIfChanged 74 = .ok (.iload_n 2, 1) := by decide +kernel
theorem dX0_forgetIfChanged_75 : decode cX0_forgetIfChanged 75 = .ok (.iconst 0, 1) := by decide +kernel
theorem dX0_forgetIfChanged_76 : decode cX0_forgetIfChanged 76 = .ok (.bastore, 1) := by decide +kernel
theorem dX0_forgetIfChanged_77 : decode cX0_forgetIfChanged 77 = .ok (.iinc 2 1, 3) := by decide +kernel
theorem dX0_forgetIfChanged_80 : decode cX0_forgetIfChanged 80 = .ok (.goto (-21), 3) := by decide +kernel
theorem dX0_forgetIfChanged_83 : decode cX0_forgetIfChanged 83 = .ok (.return_, 1) := by decide +kernel
set_option maxRecDepth 20000 in
theorem ggX0_fewest_J6_bitCount_0f7a4 : GoodIn wsX0_fewest wsJ6_bitCount_0f7a4 := goodIn_r _ [9, 10, 11, 12] (by decide +kernel) (by decide +kernel)
set_option maxRecDepth 20000 in
theorem gX0_fewest_J6_bitCount_0f7a4 : GoodIn wsX0_fewest (va_wsS RX0 39 yJ6_bitCount_0f7a4 wsJ6_bitCount_0f7a4) := goodIn_app (goodIn_of _ (by decide +kernel)) ggX0_fewest_J6_bitCount_0f7a4
set_option maxRecDepth 20000 in
theorem ggX0_fewest_X0_atLeast : GoodIn wsX0_fewest wsX0_atLeast := goodIn_r _ [17, 18, 2, 3, 4, 5, 19, 20, 21, 6, 7, 8, 9, 10, 11, 12, 22, 23, 24, 25, 26, 27, 28, 29, 30, 38, 39, 40, 41, 42, 43, 44, 45] (by decide +kernel) (by decide +kernel)
set_option maxRecDepth 20000 in
theorem gX0_fewest_X0_atLeast : GoodIn wsX0_fewest (wsV RX0 45 RX0 yX0_atLeast wsX0_atLeast) := goodIn_app (goodIn_of _ (by decide +kernel)) ggX0_fewest_X0_atLeast
set_option maxRecDepth 20000 in
theorem ggX0_fewest_X0_askingFirst : GoodIn wsX0_fewest wsX0_askingFirst := goodIn_r _ [34, 18, 19, 20, 4, 21, 22, 23, 24, 25, 26, 27, 28, 29, 30, 35, 36, 37, 16, 0, 1, 2, 3, 5, 6, 7, 8, 9, 10, 11, 12, 13, 14, 15, 17, 31, 32, 33, 38, 39, 40, 41, 42, 43, 44, 45] (by decide +kernel) (by decide +kernel)
set_option maxRecDepth 20000 in
theorem gX0_fewest_X0_askingFirst : GoodIn wsX0_fewest (wsV RX0 30 RX0 yX0_askingFirst wsX0_askingFirst) := goodIn_app (goodIn_of _ (by decide +kernel)) ggX0_fewest_X0_askingFirst
theorem dX0_fewest_0 : decode cX0_fewest 0 = .ok (.iload_n 1, 1) := by decide +kernel
theorem dX0_fewest_1 : decode cX0_fewest 1 = .ok (.ifCond .lt 24, 3) := by decide +kernel
theorem dX0_fewest_4 : decode cX0_fewest 4 = .ok (.iload_n 1, 1) := by decide +kernel
theorem dX0_fewest_5 : decode cX0_fewest 5 = .ok (.sipush 4096, 3) := by decide +kernel
theorem dX0_fewest_8 : decode cX0_fewest 8 = .ok (.if_icmp .ge 17, 3) := by decide +kernel
theorem dX0_fewest_11 : decode cX0_fewest 11 = .ok (.iload_n 2, 1) := by decide +kernel
theorem dX0_fewest_12 : decode cX0_fewest 12 = .ok (.bipush 12, 2) := by decide +kernel
theorem dX0_fewest_14 : decode cX0_fewest 14 = .ok (.if_icmp .gt 11, 3) := by decide +kernel
theorem dX0_fewest_17 : decode cX0_fewest 17 = .ok (.iload_n 1, 1) := by decide +kernel
theorem dX0_fewest_18 : decode cX0_fewest 18 = .ok (.invokestatic 39, 3) := by decide +kernel
theorem dX0_fewest_21 : decode cX0_fewest 21 = .ok (.iconst 2, 1) := by decide +kernel
theorem dX0_fewest_22 : decode cX0_fewest 22 = .ok (.if_icmp .ge 5, 3) := by decide +kernel
theorem dX0_fewest_25 : decode cX0_fewest 25 = .ok (.iconst 0, 1) := by decide +kernel
theorem dX0_fewest_26 : decode cX0_fewest 26 = .ok (.ireturn, 1) := by decide +kernel
theorem dX0_fewest_27 : decode cX0_fewest 27 = .ok (.aload_n 0, 1) := by decide +kernel
theorem dX0_fewest_28 : decode cX0_fewest 28 = .ok (.getfield 9, 3) := by decide +kernel
theorem dX0_fewest_31 : decode cX0_fewest 31 = .ok (.iload_n 1, 1) := by decide +kernel
theorem dX0_fewest_32 : decode cX0_fewest 32 = .ok (.baload, 1) := by decide +kernel
theorem dX0_fewest_33 : decode cX0_fewest 33 = .ok (.ifCond .ne 59, 3) := by decide +kernel
theorem dX0_fewest_36 : decode cX0_fewest 36 = .ok (.aload_n 0, 1) := by decide +kernel
theorem dX0_fewest_37 : decode cX0_fewest 37 = .ok (.iload_n 1, 1) := by decide +kernel
theorem dX0_fewest_38 : decode cX0_fewest 38 = .ok (.invokevirtual 45, 3) := by decide +kernel
theorem dX0_fewest_41 : decode cX0_fewest 41 = .ok (.istore_n 3, 1) := by decide +kernel
theorem dX0_fewest_42 : decode cX0_fewest 42 = .ok (.bipush 12, 2) := by decide +kernel
theorem dX0_fewest_44 : decode cX0_fewest 44 = .ok (.istore 4, 2) := by decide +kernel
theorem dX0_fewest_46 : decode cX0_fewest 46 = .ok (.iconst 0, 1) := by decide +kernel
theorem dX0_fewest_47 : decode cX0_fewest 47 = .ok (.istore 5, 2) := by decide +kernel
theorem dX0_fewest_49 : decode cX0_fewest 49 = .ok (.iload 5, 2) := by decide +kernel
theorem dX0_fewest_51 : decode cX0_fewest 51 = .ok (.bipush 12, 2) := by decide +kernel
theorem dX0_fewest_53 : decode cX0_fewest 53 = .ok (.if_icmp .ge 30, 3) := by decide +kernel
theorem dX0_fewest_56 : decode cX0_fewest 56 = .ok (.iload 4, 2) := by decide +kernel
theorem dX0_fewest_58 : decode cX0_fewest 58 = .ok (.iload_n 3, 1) := by decide +kernel
theorem dX0_fewest_59 : decode cX0_fewest 59 = .ok (.if_icmp .le 24, 3) := by decide +kernel
theorem dX0_fewest_62 : decode cX0_fewest 62 = .ok (.iload 4, 2) := by decide +kernel
theorem dX0_fewest_64 : decode cX0_fewest 64 = .ok (.aload_n 0, 1) := by decide +kernel
theorem dX0_fewest_65 : decode cX0_fewest 65 = .ok (.iload_n 1, 1) := by decide +kernel
theorem dX0_fewest_66 : decode cX0_fewest 66 = .ok (.iload 5, 2) := by decide +kernel
theorem dX0_fewest_68 : decode cX0_fewest 68 = .ok (.iload_n 2, 1) := by decide +kernel
theorem dX0_fewest_69 : decode cX0_fewest 69 = .ok (.invokevirtual 30, 3) := by decide +kernel
theorem dX0_fewest_72 : decode cX0_fewest 72 = .ok (.invokestatic 48, 3) := by decide +kernel
theorem dX0_fewest_75 : decode cX0_fewest 75 = .ok (.istore 4, 2) := by decide +kernel
theorem dX0_fewest_77 : decode cX0_fewest 77 = .ok (.iinc 5 1, 3) := by decide +kernel
theorem dX0_fewest_80 : decode cX0_fewest 80 = .ok (.goto (-31), 3) := by decide +kernel
theorem dX0_fewest_83 : decode cX0_fewest 83 = .ok (.aload_n 0, 1) := by decide +kernel
theorem dX0_fewest_84 : decode cX0_fewest 84 = .ok (.getfield 9, 3) := by decide +kernel
theorem dX0_fewest_87 : decode cX0_fewest 87 = .ok (.iload_n 1, 1) := by decide +kernel
theorem dX0_fewest_88 : decode cX0_fewest 88 = .ok (.iload 4, 2) := by decide +kernel
theorem dX0_fewest_90 : decode cX0_fewest 90 = .ok (.i2b, 1) := by decide +kernel
theorem dX0_fewest_91 : decode cX0_fewest 91 = .ok (.bastore, 1) := by decide +kernel
theorem dX0_fewest_92 : decode cX0_fewest 92 = .ok (.aload_n 0, 1) := by decide +kernel
theorem dX0_fewest_93 : decode cX0_fewest 93 = .ok (.getfield 9, 3) := by decide +kernel
theorem dX0_fewest_96 : decode cX0_fewest 96 = .ok (.iload_n 1, 1) := by decide +kernel
theorem dX0_fewest_97 : decode cX0_fewest 97 = .ok (.baload, 1) := by decide +kernel
theorem dX0_fewest_98 : decode cX0_fewest 98 = .ok (.ireturn, 1) := by decide +kernel
set_option maxRecDepth 20000 in
theorem ggX0_atLeast_J6_bitCount_0f7a4 : GoodIn wsX0_atLeast wsJ6_bitCount_0f7a4 := goodIn_r _ [12, 13, 14, 15] (by decide +kernel) (by decide +kernel)
set_option maxRecDepth 20000 in
theorem gX0_atLeast_J6_bitCount_0f7a4 : GoodIn wsX0_atLeast (va_wsS RX0 39 yJ6_bitCount_0f7a4 wsJ6_bitCount_0f7a4) := goodIn_app (goodIn_of _ (by decide +kernel)) ggX0_atLeast_J6_bitCount_0f7a4
set_option maxRecDepth 20000 in
theorem ggX0_atLeast_X10_withLower : GoodIn wsX0_atLeast wsX10_withLower := goodIn_r _ [20, 21, 22, 23, 24, 28, 29, 30, 31, 32] (by decide +kernel) (by decide +kernel)
set_option maxRecDepth 20000 in
theorem gX0_atLeast_X10_withLower : GoodIn wsX0_atLeast (wsV RX0 53 RX10 yX10_withLower wsX10_withLower) := goodIn_app (goodIn_of _ (by decide +kernel)) ggX0_atLeast_X10_withLower
theorem dX0_atLeast_0 : decode cX0_atLeast 0 = .ok (.iload_n 1, 1) := by decide +kernel
theorem dX0_atLeast_1 : decode cX0_atLeast 1 = .ok (.invokestatic 39, 3) := by decide +kernel
theorem dX0_atLeast_4 : decode cX0_atLeast 4 = .ok (.istore_n 2, 1) := by decide +kernel
theorem dX0_atLeast_5 : decode cX0_atLeast 5 = .ok (.iconst 1, 1) := by decide +kernel
theorem dX0_atLeast_6 : decode cX0_atLeast 6 = .ok (.istore_n 3, 1) := by decide +kernel
theorem dX0_atLeast_7 : decode cX0_atLeast 7 = .ok (.iconst 0, 1) := by decide +kernel
theorem dX0_atLeast_8 : decode cX0_atLeast 8 = .ok (.istore 4, 2) := by decide +kernel
theorem dX0_atLeast_10 : decode cX0_atLeast 10 = .ok (.iload 4, 2) := by decide +kernel
theorem dX0_atLeast_12 : decode cX0_atLeast 12 = .ok (.bipush 12, 2) := by decide +kernel
theorem dX0_atLeast_14 : decode cX0_atLeast 14 = .ok (.if_icmp .ge 39, 3) := by decide +kernel
theorem dX0_atLeast_17 : decode cX0_atLeast 17 = .ok (.iload_n 1, 1) := by decide +kernel
theorem dX0_atLeast_18 : decode cX0_atLeast 18 = .ok (.aload_n 0, 1) := by decide +kernel
theorem dX0_atLeast_19 : decode cX0_atLeast 19 = .ok (.getfield 19, 3) := by decide +kernel
theorem dX0_atLeast_22 : decode cX0_atLeast 22 = .ok (.iload 4, 2) := by decide +kernel
theorem dX0_atLeast_24 : decode cX0_atLeast 24 = .ok (.invokevirtual 53, 3) := by decide +kernel
theorem dX0_atLeast_27 : decode cX0_atLeast 27 = .ok (.iand, 1) := by decide +kernel
theorem dX0_atLeast_28 : decode cX0_atLeast 28 = .ok (.invokestatic 39, 3) := by decide +kernel
theorem dX0_atLeast_31 : decode cX0_atLeast 31 = .ok (.istore 5, 2) := by decide +kernel
theorem dX0_atLeast_33 : decode cX0_atLeast 33 = .ok (.iload_n 3, 1) := by decide +kernel
theorem dX0_atLeast_34 : decode cX0_atLeast 34 = .ok (.iload 5, 2) := by decide +kernel
theorem dX0_atLeast_36 : decode cX0_atLeast 36 = .ok (.iload_n 2, 1) := by decide +kernel
theorem dX0_atLeast_37 : decode cX0_atLeast 37 = .ok (.iload 5, 2) := by decide +kernel
theorem dX0_atLeast_39 : decode cX0_atLeast 39 = .ok (.isub, 1) := by decide +kernel
theorem dX0_atLeast_40 : decode cX0_atLeast 40 = .ok (.invokestatic 48, 3) := by decide +kernel
theorem dX0_atLeast_43 : decode cX0_atLeast 43 = .ok (.invokestatic 56, 3) := by decide +kernel
theorem dX0_atLeast_46 : decode cX0_atLeast 46 = .ok (.istore_n 3, 1) := by decide +kernel
theorem dX0_atLeast_47 : decode cX0_atLeast 47 = .ok (.iinc 4 1, 3) := by decide +kernel
theorem dX0_atLeast_50 : decode cX0_atLeast 50 = .ok (.goto (-40), 3) := by decide +kernel
theorem dX0_atLeast_53 : decode cX0_atLeast 53 = .ok (.iconst 0, 1) := by decide +kernel
theorem dX0_atLeast_54 : decode cX0_atLeast 54 = .ok (.istore 4, 2) := by decide +kernel
theorem dX0_atLeast_56 : decode cX0_atLeast 56 = .ok (.iload 4, 2) := by decide +kernel
theorem dX0_atLeast_58 : decode cX0_atLeast 58 = .ok (.bipush 12, 2) := by decide +kernel
theorem dX0_atLeast_60 : decode cX0_atLeast 60 = .ok (.if_icmp .ge 17, 3) := by decide +kernel
theorem dX0_atLeast_63 : decode cX0_atLeast 63 = .ok (.iconst 1, 1) := by decide +kernel
theorem dX0_atLeast_64 : decode cX0_atLeast 64 = .ok (.iload 4, 2) := by decide +kernel
theorem dX0_atLeast_66 : decode cX0_atLeast 66 = .ok (.ishl, 1) := by decide +kernel
theorem dX0_atLeast_67 : decode cX0_atLeast 67 = .ok (.iload_n 2, 1) := by decide +kernel
theorem dX0_atLeast_68 : decode cX0_atLeast 68 = .ok (.if_icmp .ge 9, 3) := by decide +kernel
theorem dX0_atLeast_71 : decode cX0_atLeast 71 = .ok (.iinc 4 1, 3) := by decide +kernel
theorem dX0_atLeast_74 : decode cX0_atLeast 74 = .ok (.goto (-18), 3) := by decide +kernel
theorem dX0_atLeast_77 : decode cX0_atLeast 77 = .ok (.iload 4, 2) := by decide +kernel
theorem dX0_atLeast_79 : decode cX0_atLeast 79 = .ok (.iload_n 2, 1) := by decide +kernel
theorem dX0_atLeast_80 : decode cX0_atLeast 80 = .ok (.iconst 2, 1) := by decide +kernel
theorem dX0_atLeast_81 : decode cX0_atLeast 81 = .ok (.isub, 1) := by decide +kernel
theorem dX0_atLeast_82 : decode cX0_atLeast 82 = .ok (.iload_n 3, 1) := by decide +kernel
theorem dX0_atLeast_83 : decode cX0_atLeast 83 = .ok (.iadd, 1) := by decide +kernel
theorem dX0_atLeast_84 : decode cX0_atLeast 84 = .ok (.iload_n 3, 1) := by decide +kernel
theorem dX0_atLeast_85 : decode cX0_atLeast 85 = .ok (.idiv, 1) := by decide +kernel
theorem dX0_atLeast_86 : decode cX0_atLeast 86 = .ok (.invokestatic 56, 3) := by decide +kernel
theorem dX0_atLeast_89 : decode cX0_atLeast 89 = .ok (.ireturn, 1) := by decide +kernel
set_option maxRecDepth 20000 in
theorem ggX0_askingFirst_X10_withLower : GoodIn wsX0_askingFirst wsX10_withLower := goodIn_r _ [10, 11, 12, 13, 14, 41, 42, 43, 44, 45] (by decide +kernel) (by decide +kernel)
set_option maxRecDepth 20000 in
theorem gX0_askingFirst_X10_withLower : GoodIn wsX0_askingFirst (wsV RX0 53 RX10 yX10_withLower wsX10_withLower) := goodIn_app (goodIn_of _ (by decide +kernel)) ggX0_askingFirst_X10_withLower
set_option maxRecDepth 20000 in
theorem ggX0_askingFirst_X0_fewest : GoodIn wsX0_askingFirst wsX0_fewest := goodIn_r _ [19, 20, 21, 22, 4, 23, 24, 25, 26, 27, 28, 29, 30, 31, 32, 33, 18, 34, 1, 2, 3, 5, 6, 7, 8, 9, 10, 11, 12, 13, 14, 35, 36, 37, 0, 15, 16, 17, 38, 39, 40, 41, 42, 43, 44, 45] (by decide +kernel) (by decide +kernel)
set_option maxRecDepth 20000 in
theorem gX0_askingFirst_X0_fewest : GoodIn wsX0_askingFirst (wsV RX0 26 RX0 yX0_fewest wsX0_fewest) := goodIn_app (goodIn_of _ (by decide +kernel)) ggX0_askingFirst_X0_fewest
theorem dX0_askingFirst_0 : decode cX0_askingFirst 0 = .ok (.iload_n 1, 1) := by decide +kernel
theorem dX0_askingFirst_1 : decode cX0_askingFirst 1 = .ok (.aload_n 0, 1) := by decide +kernel
theorem dX0_askingFirst_2 : decode cX0_askingFirst 2 = .ok (.getfield 19, 3) := by decide +kernel
theorem dX0_askingFirst_5 : decode cX0_askingFirst 5 = .ok (.iload_n 2, 1) := by decide +kernel
theorem dX0_askingFirst_6 : decode cX0_askingFirst 6 = .ok (.invokevirtual 53, 3) := by decide +kernel
theorem dX0_askingFirst_9 : decode cX0_askingFirst 9 = .ok (.iand, 1) := by decide +kernel
theorem dX0_askingFirst_10 : decode cX0_askingFirst 10 = .ok (.istore 4, 2) := by decide +kernel
theorem dX0_askingFirst_12 : decode cX0_askingFirst 12 = .ok (.iload 4, 2) := by decide +kernel
theorem dX0_askingFirst_14 : decode cX0_askingFirst 14 = .ok (.ifCond .eq 9, 3) := by decide +kernel
theorem dX0_askingFirst_17 : decode cX0_askingFirst 17 = .ok (.iload 4, 2) := by decide +kernel
theorem dX0_askingFirst_19 : decode cX0_askingFirst 19 = .ok (.iload_n 1, 1) := by decide +kernel
theorem dX0_askingFirst_20 : decode cX0_askingFirst 20 = .ok (.if_icmp .ne 6, 3) := by decide +kernel
theorem dX0_askingFirst_23 : decode cX0_askingFirst 23 = .ok (.bipush 12, 2) := by decide +kernel
theorem dX0_askingFirst_25 : decode cX0_askingFirst 25 = .ok (.ireturn, 1) := by decide +kernel
theorem dX0_askingFirst_26 : decode cX0_askingFirst 26 = .ok (.iconst 1, 1) := by decide +kernel
theorem dX0_askingFirst_27 : decode cX0_askingFirst 27 = .ok (.aload_n 0, 1) := by decide +kernel
theorem dX0_askingFirst_28 : decode cX0_askingFirst 28 = .ok (.iload 4, 2) := by decide +kernel
theorem dX0_askingFirst_30 : decode cX0_askingFirst 30 = .ok (.iload_n 3, 1) := by decide +kernel
theorem dX0_askingFirst_31 : decode cX0_askingFirst 31 = .ok (.iconst 1, 1) := by decide +kernel
theorem dX0_askingFirst_32 : decode cX0_askingFirst 32 = .ok (.iadd, 1) := by decide +kernel
theorem dX0_askingFirst_33 : decode cX0_askingFirst 33 = .ok (.invokevirtual 26, 3) := by decide +kernel
theorem dX0_askingFirst_36 : decode cX0_askingFirst 36 = .ok (.aload_n 0, 1) := by decide +kernel
theorem dX0_askingFirst_37 : decode cX0_askingFirst 37 = .ok (.iload_n 1, 1) := by decide +kernel
theorem dX0_askingFirst_38 : decode cX0_askingFirst 38 = .ok (.iload 4, 2) := by decide +kernel
theorem dX0_askingFirst_40 : decode cX0_askingFirst 40 = .ok (.iconst (-1), 1) := by decide +kernel
theorem dX0_askingFirst_41 : decode cX0_askingFirst 41 = .ok (.ixor, 1) := by decide +kernel
theorem dX0_askingFirst_42 : decode cX0_askingFirst 42 = .ok (.iand, 1) := by decide +kernel
theorem dX0_askingFirst_43 : decode cX0_askingFirst 43 = .ok (.iload_n 3, 1) := by decide +kernel
theorem dX0_askingFirst_44 : decode cX0_askingFirst 44 = .ok (.iconst 1, 1) := by decide +kernel
theorem dX0_askingFirst_45 : decode cX0_askingFirst 45 = .ok (.iadd, 1) := by decide +kernel
theorem dX0_askingFirst_46 : decode cX0_askingFirst 46 = .ok (.invokevirtual 26, 3) := by decide +kernel
theorem dX0_askingFirst_49 : decode cX0_askingFirst 49 = .ok (.invokestatic 56, 3) := by decide +kernel
theorem dX0_askingFirst_52 : decode cX0_askingFirst 52 = .ok (.iadd, 1) := by decide +kernel
theorem dX0_askingFirst_53 : decode cX0_askingFirst 53 = .ok (.ireturn, 1) := by decide +kernel
set_option maxRecDepth 20000 in
theorem ggX1_init_X10_init : GoodIn wsX1_init wsX10_init := goodIn_r _ [22, 23, 2, 3, 14, 24, 25, 26, 27, 28, 40, 41, 42, 43, 44] (by decide +kernel) (by decide +kernel)
set_option maxRecDepth 20000 in
theorem gX1_init_X10_init : GoodIn wsX1_init (wsX10_init) := ggX1_init_X10_init
set_option maxRecDepth 20000 in
theorem ggX1_init_X4_init : GoodIn wsX1_init wsX4_init := goodIn_r _ [30, 31, 2, 3, 14, 32, 33, 34, 35, 36, 37, 38, 39, 57, 58, 59, 60, 61, 62, 63, 64, 65, 66, 67, 68] (by decide +kernel) (by decide +kernel)
set_option maxRecDepth 20000 in
theorem gX1_init_X4_init_n20 : GoodIn wsX1_init (wsX4_init) := ggX1_init_X4_init
theorem dX1_init_0 : decode cX1_init 0 = .ok (.aload_n 0, 1) := by decide +kernel
theorem dX1_init_1 : decode cX1_init 1 = .ok (.invokespecial 3, 3) := by decide +kernel
theorem dX1_init_4 : decode cX1_init 4 = .ok (.aload_n 0, 1) := by decide +kernel
theorem dX1_init_5 : decode cX1_init 5 = .ok (.new 9, 3) := by decide +kernel
theorem dX1_init_8 : decode cX1_init 8 = .ok (.dup, 1) := by decide +kernel
theorem dX1_init_9 : decode cX1_init 9 = .ok (.invokespecial 11, 3) := by decide +kernel
theorem dX1_init_12 : decode cX1_init 12 = .ok (.putfield 12, 3) := by decide +kernel
theorem dX1_init_15 : decode cX1_init 15 = .ok (.aload_n 0, 1) := by decide +kernel
theorem dX1_init_16 : decode cX1_init 16 = .ok (.new 18, 3) := by decide +kernel
theorem dX1_init_19 : decode cX1_init 19 = .ok (.dup, 1) := by decide +kernel
theorem dX1_init_20 : decode cX1_init 20 = .ok (.invokespecial 20, 3) := by decide +kernel
theorem dX1_init_23 : decode cX1_init 23 = .ok (.putfield 21, 3) := by decide +kernel
theorem dX1_init_26 : decode cX1_init 26 = .ok (.aload_n 0, 1) := by decide +kernel
theorem dX1_init_27 : decode cX1_init 27 = .ok (.bipush 30, 2) := by decide +kernel
theorem dX1_init_29 : decode cX1_init 29 = .ok (.anewarray 18, 3) := by decide +kernel
theorem dX1_init_32 : decode cX1_init 32 = .ok (.putfield 25, 3) := by decide +kernel
theorem dX1_init_35 : decode cX1_init 35 = .ok (.aload_n 0, 1) := by decide +kernel
theorem dX1_init_36 : decode cX1_init 36 = .ok (.iconst (-1), 1) := by decide +kernel
theorem dX1_init_37 : decode cX1_init 37 = .ok (.putfield 29, 3) := by decide +kernel
theorem dX1_init_40 : decode cX1_init 40 = .ok (.aload_n 0, 1) := by decide +kernel
theorem dX1_init_41 : decode cX1_init 41 = .ok (.iconst 5, 1) := by decide +kernel
theorem dX1_init_42 : decode cX1_init 42 = .ok (.newarray .int, 2) := by decide +kernel
theorem dX1_init_44 : decode cX1_init 44 = .ok (.putfield 33, 3) := by decide +kernel
theorem dX1_init_47 : decode cX1_init 47 = .ok (.aload_n 0, 1) := by decide +kernel
theorem dX1_init_48 : decode cX1_init 48 = .ok (.iconst 5, 1) := by decide +kernel
theorem dX1_init_49 : decode cX1_init 49 = .ok (.newarray .int, 2) := by decide +kernel
theorem dX1_init_51 : decode cX1_init 51 = .ok (.putfield 37, 3) := by decide +kernel
theorem dX1_init_54 : decode cX1_init 54 = .ok (.aload_n 0, 1) := by decide +kernel
theorem dX1_init_55 : decode cX1_init 55 = .ok (.iconst 5, 1) := by decide +kernel
theorem dX1_init_56 : decode cX1_init 56 = .ok (.newarray .int, 2) := by decide +kernel
theorem dX1_init_58 : decode cX1_init 58 = .ok (.putfield 40, 3) := by decide +kernel
theorem dX1_init_61 : decode cX1_init 61 = .ok (.aload_n 0, 1) := by decide +kernel
theorem dX1_init_62 : decode cX1_init 62 = .ok (.bipush 8, 2) := by decide +kernel
theorem dX1_init_64 : decode cX1_init 64 = .ok (.newarray .int, 2) := by decide +kernel
theorem dX1_init_66 : decode cX1_init 66 = .ok (.putfield 43, 3) := by decide +kernel
theorem dX1_init_69 : decode cX1_init 69 = .ok (.aload_n 0, 1) := by decide +kernel
theorem dX1_init_70 : decode cX1_init 70 = .ok (.bipush 8, 2) := by decide +kernel
theorem dX1_init_72 : decode cX1_init 72 = .ok (.newarray .int, 2) := by decide +kernel
theorem dX1_init_74 : decode cX1_init 74 = .ok (.putfield 46, 3) := by decide +kernel
theorem dX1_init_77 : decode cX1_init 77 = .ok (.iconst 0, 1) := by decide +kernel
theorem dX1_init_78 : decode cX1_init 78 = .ok (.istore_n 1, 1) := by decide +kernel
theorem dX1_init_79 : decode cX1_init 79 = .ok (.iload_n 1, 1) := by decide +kernel
theorem dX1_init_80 : decode cX1_init 80 = .ok (.bipush 30, 2) := by decide +kernel
theorem dX1_init_82 : decode cX1_init 82 = .ok (.if_icmp .ge 22, 3) := by decide +kernel
theorem dX1_init_85 : decode cX1_init 85 = .ok (.aload_n 0, 1) := by decide +kernel
theorem dX1_init_86 : decode cX1_init 86 = .ok (.getfield 25, 3) := by decide +kernel
theorem dX1_init_89 : decode cX1_init 89 = .ok (.iload_n 1, 1) := by decide +kernel
theorem dX1_init_90 : decode cX1_init 90 = .ok (.new 18, 3) := by decide +kernel
theorem dX1_init_93 : decode cX1_init 93 = .ok (.dup, 1) := by decide +kernel
theorem dX1_init_94 : decode cX1_init 94 = .ok (.invokespecial 20, 3) := by decide +kernel
theorem dX1_init_97 : decode cX1_init 97 = .ok (.aastore, 1) := by decide +kernel
theorem dX1_init_98 : decode cX1_init 98 = .ok (.iinc 1 1, 3) := by decide +kernel
theorem dX1_init_101 : decode cX1_init 101 = .ok (.goto (-22), 3) := by decide +kernel
theorem dX1_init_104 : decode cX1_init 104 = .ok (.iconst 0, 1) := by decide +kernel
theorem dX1_init_105 : decode cX1_init 105 = .ok (.istore_n 1, 1) := by decide +kernel
theorem dX1_init_106 : decode cX1_init 106 = .ok (.iload_n 1, 1) := by decide +kernel
theorem dX1_init_107 : decode cX1_init 107 = .ok (.iconst 5, 1) := by decide +kernel
theorem dX1_init_108 : decode cX1_init 108 = .ok (.if_icmp .ge 24, 3) := by decide +kernel
theorem dX1_init_111 : decode cX1_init 111 = .ok (.aload_n 0, 1) := by decide +kernel
theorem dX1_init_112 : decode cX1_init 112 = .ok (.getfield 37, 3) := by decide +kernel
theorem dX1_init_115 : decode cX1_init 115 = .ok (.iload_n 1, 1) := by decide +kernel
theorem dX1_init_116 : decode cX1_init 116 = .ok (.iconst 5, 1) := by decide +kernel
theorem dX1_init_117 : decode cX1_init 117 = .ok (.iastore, 1) := by decide +kernel
theorem dX1_init_118 : decode cX1_init 118 = .ok (.aload_n 0, 1) := by decide +kernel
theorem dX1_init_119 : decode cX1_init 119 = .ok (.getfield 40, 3) := by decide +kernel
theorem dX1_init_122 : decode cX1_init 122 = .ok (.iload_n 1, 1) := by decide +kernel
theorem dX1_init_123 : decode cX1_init 123 = .ok (.bipush 10, 2) := by decide +kernel
theorem dX1_init_125 : decode cX1_init 125 = .ok (.iastore, 1) := by decide +kernel
theorem dX1_init_126 : decode cX1_init 126 = .ok (.iinc 1 1, 3) := by decide +kernel
theorem dX1_init_129 : decode cX1_init 129 = .ok (.goto (-23), 3) := by decide +kernel
theorem dX1_init_132 : decode cX1_init 132 = .ok (.return_, 1) := by decide +kernel
set_option maxRecDepth 20000 in
theorem ggX1_copyFrom_X10_copyFrom : GoodIn wsX1_copyFrom wsX10_copyFrom := goodIn_r _ [21, 22, 23, 9, 10, 11, 24, 25, 26, 27, 58, 59, 60, 61, 62] (by decide +kernel) (by decide +kernel)
set_option maxRecDepth 20000 in
theorem gX1_copyFrom_X10_copyFrom : GoodIn wsX1_copyFrom (wsV RX1 49 RX10 yX10_copyFrom wsX10_copyFrom) := goodIn_app (goodIn_of _ (by decide +kernel)) ggX1_copyFrom_X10_copyFrom
set_option maxRecDepth 20000 in
theorem ggX1_copyFrom_X4_copyFrom : GoodIn wsX1_copyFrom wsX4_copyFrom := goodIn_r _ [32, 33, 34, 9, 10, 11, 35, 36, 37, 38, 39, 40, 41, 42, 43, 44, 45, 63, 64, 65, 66, 67, 68, 69, 70, 71, 72, 73, 74] (by decide +kernel) (by decide +kernel)
set_option maxRecDepth 20000 in
theorem gX1_copyFrom_X4_copyFrom : GoodIn wsX1_copyFrom (wsV RX1 53 RX4 yX4_copyFrom wsX4_copyFrom) := goodIn_app (goodIn_of _ (by decide +kernel)) ggX1_copyFrom_X4_copyFrom
theorem dX1_copyFrom_0 : decode cX1_copyFrom 0 = .ok (.aload_n 0, 1) := by decide +kernel
theorem dX1_copyFrom_1 : decode cX1_copyFrom 1 = .ok (.getfield 12, 3) := by decide +kernel
theorem dX1_copyFrom_4 : decode cX1_copyFrom 4 = .ok (.aload_n 1, 1) := by decide +kernel
theorem dX1_copyFrom_5 : decode cX1_copyFrom 5 = .ok (.getfield 12, 3) := by decide +kernel
theorem dX1_copyFrom_8 : decode cX1_copyFrom 8 = .ok (.invokevirtual 49, 3) := by decide +kernel
theorem dX1_copyFrom_11 : decode cX1_copyFrom 11 = .ok (.aload_n 0, 1) := by decide +kernel
theorem dX1_copyFrom_12 : decode cX1_copyFrom 12 = .ok (.getfield 21, 3) := by decide +kernel
theorem dX1_copyFrom_15 : decode cX1_copyFrom 15 = .ok (.aload_n 1, 1) := by decide +kernel
theorem dX1_copyFrom_16 : decode cX1_copyFrom 16 = .ok (.getfield 21, 3) := by decide +kernel
theorem dX1_copyFrom_19 : decode cX1_copyFrom 19 = .ok (.invokevirtual 53, 3) := by decide +kernel
theorem dX1_copyFrom_22 : decode cX1_copyFrom 22 = .ok (.iconst 0, 1) := by decide +kernel
theorem dX1_copyFrom_23 : decode cX1_copyFrom 23 = .ok (.istore_n 2, 1) := by decide +kernel
theorem dX1_copyFrom_24 : decode cX1_copyFrom 24 = .ok (.iload_n 2, 1) := by decide +kernel
theorem dX1_copyFrom_25 : decode cX1_copyFrom 25 = .ok (.bipush 30, 2) := by decide +kernel
theorem dX1_copyFrom_27 : decode cX1_copyFrom 27 = .ok (.if_icmp .ge 32, 3) := by decide +kernel
theorem dX1_copyFrom_30 : decode cX1_copyFrom 30 = .ok (.iload_n 2, 1) := by decide +kernel
theorem dX1_copyFrom_31 : decode cX1_copyFrom 31 = .ok (.aload_n 1, 1) := by decide +kernel
theorem dX1_copyFrom_32 : decode cX1_copyFrom 32 = .ok (.getfield 56, 3) := by decide +kernel
theorem dX1_copyFrom_35 : decode cX1_copyFrom 35 = .ok (.if_icmp .ge 24, 3) := by decide +kernel
theorem dX1_copyFrom_38 : decode cX1_copyFrom 38 = .ok (.aload_n 0, 1) := by decide +kernel
theorem dX1_copyFrom_39 : decode cX1_copyFrom 39 = .ok (.getfield 25, 3) := by decide +kernel
theorem dX1_copyFrom_42 : decode cX1_copyFrom 42 = .ok (.iload_n 2, 1) := by decide +kernel
theorem dX1_copyFrom_43 : decode cX1_copyFrom 43 = .ok (.aaload, 1) := by decide +kernel
theorem dX1_copyFrom_44 : decode cX1_copyFrom 44 = .ok (.aload_n 1, 1) := by decide +kernel
theorem dX1_copyFrom_45 : decode cX1_copyFrom 45 = .ok (.getfield 25, 3) := by decide +kernel
theorem dX1_copyFrom_48 : decode cX1_copyFrom 48 = .ok (.iload_n 2, 1) := by decide +kernel
theorem dX1_copyFrom_49 : decode cX1_copyFrom 49 = .ok (.aaload, 1) := by decide +kernel
theorem dX1_copyFrom_50 : decode cX1_copyFrom 50 = .ok (.invokevirtual 53, 3) := by decide +kernel
theorem dX1_copyFrom_53 : decode cX1_copyFrom 53 = .ok (.iinc 2 1, 3) := by decide +kernel
theorem dX1_copyFrom_56 : decode cX1_copyFrom 56 = .ok (.goto (-32), 3) := by decide +kernel
theorem dX1_copyFrom_59 : decode cX1_copyFrom 59 = .ok (.aload_n 0, 1) := by decide +kernel
theorem dX1_copyFrom_60 : decode cX1_copyFrom 60 = .ok (.aload_n 1, 1) := by decide +kernel
theorem dX1_copyFrom_61 : decode cX1_copyFrom 61 = .ok (.getfield 56, 3) := by decide +kernel
theorem dX1_copyFrom_64 : decode cX1_copyFrom 64 = .ok (.putfield 56, 3) := by decide +kernel
theorem dX1_copyFrom_67 : decode cX1_copyFrom 67 = .ok (.aload_n 0, 1) := by decide +kernel
theorem dX1_copyFrom_68 : decode cX1_copyFrom 68 = .ok (.aload_n 1, 1) := by decide +kernel
theorem dX1_copyFrom_69 : decode cX1_copyFrom 69 = .ok (.getfield 59, 3) := by decide +kernel
theorem dX1_copyFrom_72 : decode cX1_copyFrom 72 = .ok (.putfield 59, 3) := by decide +kernel
theorem dX1_copyFrom_75 : decode cX1_copyFrom 75 = .ok (.aload_n 0, 1) := by decide +kernel
theorem dX1_copyFrom_76 : decode cX1_copyFrom 76 = .ok (.aload_n 1, 1) := by decide +kernel
theorem dX1_copyFrom_77 : decode cX1_copyFrom 77 = .ok (.getfield 29, 3) := by decide +kernel
theorem dX1_copyFrom_80 : decode cX1_copyFrom 80 = .ok (.putfield 29, 3) := by decide +kernel
theorem dX1_copyFrom_83 : decode cX1_copyFrom 83 = .ok (.aload_n 1, 1) := by decide +kernel
theorem dX1_copyFrom_84 : decode cX1_copyFrom 84 = .ok (.getfield 33, 3) := by decide +kernel
theorem dX1_copyFrom_87 : decode cX1_copyFrom 87 = .ok (.iconst 0, 1) := by decide +kernel
theorem dX1_copyFrom_88 : decode cX1_copyFrom 88 = .ok (.aload_n 0, 1) := by decide +kernel
theorem dX1_copyFrom_89 : decode cX1_copyFrom 89 = .ok (.getfield 33, 3) := by decide +kernel
theorem dX1_copyFrom_92 : decode cX1_copyFrom 92 = .ok (.iconst 0, 1) := by decide +kernel
theorem dX1_copyFrom_93 : decode cX1_copyFrom 93 = .ok (.iconst 5, 1) := by decide +kernel
theorem dX1_copyFrom_94 : decode cX1_copyFrom 94 = .ok (.invokestatic 62, 3) := by decide +kernel
theorem dX1_copyFrom_97 : decode cX1_copyFrom 97 = .ok (.aload_n 1, 1) := by decide +kernel
theorem dX1_copyFrom_98 : decode cX1_copyFrom 98 = .ok (.getfield 37, 3) := by decide +kernel
theorem dX1_copyFrom_101 : decode cX1_copyFrom 101 = .ok (.iconst 0, 1) := by decide +kernel
theorem dX1_copyFrom_102 : decode cX1_copyFrom 102 = .ok (.aload_n 0, 1) := by decide +kernel
theorem dX1_copyFrom_103 : decode cX1_copyFrom 103 = .ok (.getfield 37, 3) := by decide +kernel
theorem dX1_copyFrom_106 : decode cX1_copyFrom 106 = .ok (.iconst 0, 1) := by decide +kernel
theorem dX1_copyFrom_107 : decode cX1_copyFrom 107 = .ok (.iconst 5, 1) := by decide +kernel
theorem dX1_copyFrom_108 : decode cX1_copyFrom 108 = .ok (.invokestatic 62, 3) := by decide +kernel
theorem dX1_copyFrom_111 : decode cX1_copyFrom 111 = .ok (.aload_n 1, 1) := by decide +kernel
theorem dX1_copyFrom_112 : decode cX1_copyFrom 112 = .ok (.getfield 40, 3) := by decide +kernel
theorem dX1_copyFrom_115 : decode cX1_copyFrom 115 = .ok (.iconst 0, 1) := by decide +kernel
theorem dX1_copyFrom_116 : decode cX1_copyFrom 116 = .ok (.aload_n 0, 1) := by decide +kernel
theorem dX1_copyFrom_117 : decode cX1_copyFrom 117 = .ok (.getfield 40, 3) := by decide +kernel
theorem dX1_copyFrom_120 : decode cX1_copyFrom 120 = .ok (.iconst 0, 1) := by decide +kernel
theorem dX1_copyFrom_121 : decode cX1_copyFrom 121 = .ok (.iconst 5, 1) := by decide +kernel
theorem dX1_copyFrom_122 : decode cX1_copyFrom 122 = .ok (.invokestatic 62, 3) := by decide +kernel
theorem dX1_copyFrom_125 : decode cX1_copyFrom 125 = .ok (.aload_n 1, 1) := by decide +kernel
theorem dX1_copyFrom_126 : decode cX1_copyFrom 126 = .ok (.getfield 43, 3) := by decide +kernel
theorem dX1_copyFrom_129 : decode cX1_copyFrom 129 = .ok (.iconst 0, 1) := by decide +kernel
theorem dX1_copyFrom_130 : decode cX1_copyFrom 130 = .ok (.aload_n 0, 1) := by decide +kernel
theorem dX1_copyFrom_131 : decode cX1_copyFrom 131 = .ok (.getfield 43, 3) := by decide +kernel
theorem dX1_copyFrom_134 : decode cX1_copyFrom 134 = .ok (.iconst 0, 1) := by decide +kernel
theorem dX1_copyFrom_135 : decode cX1_copyFrom 135 = .ok (.bipush 8, 2) := by decide +kernel
theorem dX1_copyFrom_137 : decode cX1_copyFrom 137 = .ok (.invokestatic 62, 3) := by decide +kernel
theorem dX1_copyFrom_140 : decode cX1_copyFrom 140 = .ok (.aload_n 1, 1) := by decide +kernel
theorem dX1_copyFrom_141 : decode cX1_copyFrom 141 = .ok (.getfield 46, 3) := by decide +kernel
theorem dX1_copyFrom_144 : decode cX1_copyFrom 144 = .ok (.iconst 0, 1) := by decide +kernel
theorem dX1_copyFrom_145 : decode cX1_copyFrom 145 = .ok (.aload_n 0, 1) := by decide +kernel
theorem dX1_copyFrom_146 : decode cX1_copyFrom 146 = .ok (.getfield 46, 3) := by decide +kernel
theorem dX1_copyFrom_149 : decode cX1_copyFrom 149 = .ok (.iconst 0, 1) := by decide +kernel
theorem dX1_copyFrom_150 : decode cX1_copyFrom 150 = .ok (.bipush 8, 2) := by decide +kernel
theorem dX1_copyFrom_152 : decode cX1_copyFrom 152 = .ok (.invokestatic 62, 3) := by decide +kernel
theorem dX1_copyFrom_155 : decode cX1_copyFrom 155 = .ok (.aload_n 0, 1) := by decide +kernel
theorem dX1_copyFrom_156 : decode cX1_copyFrom 156 = .ok (.aload_n 1, 1) := by decide +kernel
theorem dX1_copyFrom_157 : decode cX1_copyFrom 157 = .ok (.getfield 68, 3) := by decide +kernel
theorem dX1_copyFrom_160 : decode cX1_copyFrom 160 = .ok (.putfield 68, 3) := by decide +kernel
theorem dX1_copyFrom_163 : decode cX1_copyFrom 163 = .ok (.return_, 1) := by decide +kernel
set_option maxRecDepth 20000 in
theorem ggX1_admit_X11_isPerson : GoodIn wsX1_admit wsX11_isPerson := goodIn_r _ [7] (by decide +kernel) (by decide +kernel)
set_option maxRecDepth 20000 in
theorem gX1_admit_X11_isPerson_n74 : GoodIn wsX1_admit (wsX11_isPerson) := ggX1_admit_X11_isPerson
set_option maxRecDepth 20000 in
theorem ggX1_admit_X4_seat : GoodIn wsX1_admit wsX4_seat := goodIn_r _ [12, 13, 14, 15, 16, 17, 18, 5, 6, 7, 31, 32, 33, 34, 35, 36, 37, 38, 39, 40, 41, 42] (by decide +kernel) (by decide +kernel)
set_option maxRecDepth 20000 in
theorem gX1_admit_X4_seat : GoodIn wsX1_admit (wsV RX1 78 RX4 yX4_seat wsX4_seat) := goodIn_app (goodIn_of _ (by decide +kernel)) ggX1_admit_X4_seat
theorem dX1_admit_0 : decode cX1_admit 0 = .ok (.aload_n 0, 1) := by decide +kernel
theorem dX1_admit_1 : decode cX1_admit 1 = .ok (.getfield 21, 3) := by decide +kernel
theorem dX1_admit_4 : decode cX1_admit 4 = .ok (.getfield 71, 3) := by decide +kernel
theorem dX1_admit_7 : decode cX1_admit 7 = .ok (.istore_n 3, 1) := by decide +kernel
theorem dX1_admit_8 : decode cX1_admit 8 = .ok (.iload_n 3, 1) := by decide +kernel
theorem dX1_admit_9 : decode cX1_admit 9 = .ok (.invokestatic 74, 3) := by decide +kernel
theorem dX1_admit_12 : decode cX1_admit 12 = .ok (.ifCond .ne 5, 3) := by decide +kernel
theorem dX1_admit_15 : decode cX1_admit 15 = .ok (.iconst (-1), 1) := by decide +kernel
theorem dX1_admit_16 : decode cX1_admit 16 = .ok (.ireturn, 1) := by decide +kernel
theorem dX1_admit_17 : decode cX1_admit 17 = .ok (.aload_n 0, 1) := by decide +kernel
theorem dX1_admit_18 : decode cX1_admit 18 = .ok (.getfield 21, 3) := by decide +kernel
theorem dX1_admit_21 : decode cX1_admit 21 = .ok (.iload_n 3, 1) := by decide +kernel
theorem dX1_admit_22 : decode cX1_admit 22 = .ok (.iload_n 1, 1) := by decide +kernel
theorem dX1_admit_23 : decode cX1_admit 23 = .ok (.iload_n 2, 1) := by decide +kernel
theorem dX1_admit_24 : decode cX1_admit 24 = .ok (.invokevirtual 78, 3) := by decide +kernel
theorem dX1_admit_27 : decode cX1_admit 27 = .ok (.aload_n 0, 1) := by decide +kernel
theorem dX1_admit_28 : decode cX1_admit 28 = .ok (.getfield 21, 3) := by decide +kernel
theorem dX1_admit_31 : decode cX1_admit 31 = .ok (.iload_n 3, 1) := by decide +kernel
theorem dX1_admit_32 : decode cX1_admit 32 = .ok (.iconst 1, 1) := by decide +kernel
theorem dX1_admit_33 : decode cX1_admit 33 = .ok (.iadd, 1) := by decide +kernel
theorem dX1_admit_34 : decode cX1_admit 34 = .ok (.putfield 71, 3) := by decide +kernel
theorem dX1_admit_37 : decode cX1_admit 37 = .ok (.iconst 0, 1) := by decide +kernel
theorem dX1_admit_38 : decode cX1_admit 38 = .ok (.istore 4, 2) := by decide +kernel
theorem dX1_admit_40 : decode cX1_admit 40 = .ok (.iload 4, 2) := by decide +kernel
theorem dX1_admit_42 : decode cX1_admit 42 = .ok (.bipush 30, 2) := by decide +kernel
theorem dX1_admit_44 : decode cX1_admit 44 = .ok (.if_icmp .ge 44, 3) := by decide +kernel
theorem dX1_admit_47 : decode cX1_admit 47 = .ok (.iload 4, 2) := by decide +kernel
theorem dX1_admit_49 : decode cX1_admit 49 = .ok (.aload_n 0, 1) := by decide +kernel
theorem dX1_admit_50 : decode cX1_admit 50 = .ok (.getfield 56, 3) := by decide +kernel
theorem dX1_admit_53 : decode cX1_admit 53 = .ok (.if_icmp .ge 35, 3) := by decide +kernel
theorem dX1_admit_56 : decode cX1_admit 56 = .ok (.aload_n 0, 1) := by decide +kernel
theorem dX1_admit_57 : decode cX1_admit 57 = .ok (.getfield 25, 3) := by decide +kernel
theorem dX1_admit_60 : decode cX1_admit 60 = .ok (.iload 4, 2) := by decide +kernel
theorem dX1_admit_62 : decode cX1_admit 62 = .ok (.aaload, 1) := by decide +kernel
theorem dX1_admit_63 : decode cX1_admit 63 = .ok (.iload_n 3, 1) := by decide +kernel
theorem dX1_admit_64 : decode cX1_admit 64 = .ok (.iload_n 1, 1) := by decide +kernel
theorem dX1_admit_65 : decode cX1_admit 65 = .ok (.iload_n 2, 1) := by decide +kernel
theorem dX1_admit_66 : decode cX1_admit 66 = .ok (.invokevirtual 78, 3) := by decide +kernel
theorem dX1_admit_69 : decode cX1_admit 69 = .ok (.aload_n 0, 1) := by decide +kernel
theorem dX1_admit_70 : decode cX1_admit 70 = .ok (.getfield 25, 3) := by decide +kernel
theorem dX1_admit_73 : decode cX1_admit 73 = .ok (.iload 4, 2) := by decide +kernel
theorem dX1_admit_75 : decode cX1_admit 75 = .ok (.aaload, 1) := by decide +kernel
theorem dX1_admit_76 : decode cX1_admit 76 = .ok (.iload_n 3, 1) := by decide +kernel
theorem dX1_admit_77 : decode cX1_admit 77 = .ok (.iconst 1, 1) := by decide +kernel
theorem dX1_admit_78 : decode cX1_admit 78 = .ok (.iadd, 1) := by decide +kernel
theorem dX1_admit_79 : decode cX1_admit 79 = .ok (.putfield 71, 3) := by decide +kernel
theorem dX1_admit_82 : decode cX1_admit 82 = .ok (.iinc 4 1, 3) := by decide +kernel
theorem dX1_admit_85 : decode cX1_admit 85 = .ok (.goto (-45), 3) := by decide +kernel
theorem dX1_admit_88 : decode cX1_admit 88 = .ok (.iload_n 3, 1) := by decide +kernel
theorem dX1_admit_89 : decode cX1_admit 89 = .ok (.ireturn, 1) := by decide +kernel
set_option maxRecDepth 20000 in
theorem ggX1_keepStep_X4_copyFrom : GoodIn wsX1_keepStep wsX4_copyFrom := goodIn_r _ [8, 9, 10, 11, 12, 13, 14, 15, 16, 17, 18, 19, 20, 21, 22, 23, 24, 37, 38, 39, 40, 41, 42, 43, 44, 45, 46, 47, 48] (by decide +kernel) (by decide +kernel)
set_option maxRecDepth 20000 in
theorem gX1_keepStep_X4_copyFrom : GoodIn wsX1_keepStep (wsV RX1 53 RX4 yX4_copyFrom wsX4_copyFrom) := goodIn_app (goodIn_of _ (by decide +kernel)) ggX1_keepStep_X4_copyFrom
theorem dX1_keepStep_0 : decode cX1_keepStep 0 = .ok (.aload_n 0, 1) := by decide +kernel
theorem dX1_keepStep_1 : decode cX1_keepStep 1 = .ok (.getfield 56, 3) := by decide +kernel
theorem dX1_keepStep_4 : decode cX1_keepStep 4 = .ok (.bipush 30, 2) := by decide +kernel
theorem dX1_keepStep_6 : decode cX1_keepStep 6 = .ok (.if_icmp .lt 52, 3) := by decide +kernel
theorem dX1_keepStep_9 : decode cX1_keepStep 9 = .ok (.aload_n 0, 1) := by decide +kernel
theorem dX1_keepStep_10 : decode cX1_keepStep 10 = .ok (.getfield 25, 3) := by decide +kernel
theorem dX1_keepStep_13 : decode cX1_keepStep 13 = .ok (.iconst 0, 1) := by decide +kernel
theorem dX1_keepStep_14 : decode cX1_keepStep 14 = .ok (.aaload, 1) := by decide +kernel
theorem dX1_keepStep_15 : decode cX1_keepStep 15 = .ok (.astore_n 1, 1) := by decide +kernel
theorem dX1_keepStep_16 : decode cX1_keepStep 16 = .ok (.iconst 1, 1) := by decide +kernel
theorem dX1_keepStep_17 : decode cX1_keepStep 17 = .ok (.istore_n 2, 1) := by decide +kernel
theorem dX1_keepStep_18 : decode cX1_keepStep 18 = .ok (.iload_n 2, 1) := by decide +kernel
theorem dX1_keepStep_19 : decode cX1_keepStep 19 = .ok (.bipush 30, 2) := by decide +kernel
theorem dX1_keepStep_21 : decode cX1_keepStep 21 = .ok (.if_icmp .ge 23, 3) := by decide +kernel
theorem dX1_keepStep_24 : decode cX1_keepStep 24 = .ok (.aload_n 0, 1) := by decide +kernel
theorem dX1_keepStep_25 : decode cX1_keepStep 25 = .ok (.getfield 25, 3) := by decide +kernel
theorem dX1_keepStep_28 : decode cX1_keepStep 28 = .ok (.iload_n 2, 1) := by decide +kernel
theorem dX1_keepStep_29 : decode cX1_keepStep 29 = .ok (.iconst 1, 1) := by decide +kernel
theorem dX1_keepStep_30 : decode cX1_keepStep 30 = .ok (.isub, 1) := by decide +kernel
theorem dX1_keepStep_31 : decode cX1_keepStep 31 = .ok (.aload_n 0, 1) := by decide +kernel
theorem dX1_keepStep_32 : decode cX1_keepStep 32 = .ok (.getfield 25, 3) := by decide +kernel
theorem dX1_keepStep_35 : decode cX1_keepStep 35 = .ok (.iload_n 2, 1) := by decide +kernel
theorem dX1_keepStep_36 : decode cX1_keepStep 36 = .ok (.aaload, 1) := by decide +kernel
theorem dX1_keepStep_37 : decode cX1_keepStep 37 = .ok (.aastore, 1) := by decide +kernel
theorem dX1_keepStep_38 : decode cX1_keepStep 38 = .ok (.iinc 2 1, 3) := by decide +kernel
theorem dX1_keepStep_41 : decode cX1_keepStep 41 = .ok (.goto (-23), 3) := by decide +kernel
theorem dX1_keepStep_44 : decode cX1_keepStep 44 = .ok (.aload_n 0, 1) := by decide +kernel
theorem dX1_keepStep_45 : decode cX1_keepStep 45 = .ok (.getfield 25, 3) := by decide +kernel
theorem dX1_keepStep_48 : decode cX1_keepStep 48 = .ok (.bipush 29, 2) := by decide +kernel
theorem dX1_keepStep_50 : decode cX1_keepStep 50 = .ok (.aload_n 1, 1) := by decide +kernel
theorem dX1_keepStep_51 : decode cX1_keepStep 51 = .ok (.aastore, 1) := by decide +kernel
theorem dX1_keepStep_52 : decode cX1_keepStep 52 = .ok (.aload_n 0, 1) := by decide +kernel
theorem dX1_keepStep_53 : decode cX1_keepStep 53 = .ok (.bipush 29, 2) := by decide +kernel
theorem dX1_keepStep_55 : decode cX1_keepStep 55 = .ok (.putfield 56, 3) := by decide +kernel
theorem dX1_keepStep_58 : decode cX1_keepStep 58 = .ok (.aload_n 0, 1) := by decide +kernel
theorem dX1_keepStep_59 : decode cX1_keepStep 59 = .ok (.getfield 56, 3) := by decide +kernel
theorem dX1_keepStep_62 : decode cX1_keepStep 62 = .ok (.ifCond .lt 29, 3) := by decide +kernel
theorem dX1_keepStep_65 : decode cX1_keepStep 65 = .ok (.aload_n 0, 1) := by decide +kernel
theorem dX1_keepStep_66 : decode cX1_keepStep 66 = .ok (.getfield 25, 3) := by decide +kernel
theorem dX1_keepStep_69 : decode cX1_keepStep 69 = .ok (.aload_n 0, 1) := by decide +kernel
theorem dX1_keepStep_70 : decode cX1_keepStep 70 = .ok (.getfield 56, 3) := by decide +kernel
theorem dX1_keepStep_73 : decode cX1_keepStep 73 = .ok (.aaload, 1) := by decide +kernel
theorem dX1_keepStep_74 : decode cX1_keepStep 74 = .ok (.aload_n 0, 1) := by decide +kernel
theorem dX1_keepStep_75 : decode cX1_keepStep 75 = .ok (.getfield 21, 3) := by decide +kernel
theorem dX1_keepStep_78 : decode cX1_keepStep 78 = .ok (.invokevirtual 53, 3) := by decide +kernel
theorem dX1_keepStep_81 : decode cX1_keepStep 81 = .ok (.aload_n 0, 1) := by decide +kernel
theorem dX1_keepStep_82 : decode cX1_keepStep 82 = .ok (.dup, 1) := by decide +kernel
theorem dX1_keepStep_83 : decode cX1_keepStep 83 = .ok (.getfield 56, 3) := by decide +kernel
theorem dX1_keepStep_86 : decode cX1_keepStep 86 = .ok (.iconst 1, 1) := by decide +kernel
theorem dX1_keepStep_87 : decode cX1_keepStep 87 = .ok (.iadd, 1) := by decide +kernel
theorem dX1_keepStep_88 : decode cX1_keepStep 88 = .ok (.putfield 56, 3) := by decide +kernel
theorem dX1_keepStep_91 : decode cX1_keepStep 91 = .ok (.return_, 1) := by decide +kernel
set_option maxRecDepth 20000 in
theorem ggX1_takeBack_X4_copyFrom : GoodIn wsX1_takeBack wsX4_copyFrom := goodIn_r _ [8, 9, 10, 11, 12, 13, 14, 15, 16, 17, 18, 19, 20, 21, 22, 23, 24, 37, 38, 39, 40, 41, 42, 43, 44, 45, 46, 47, 48] (by decide +kernel) (by decide +kernel)
set_option maxRecDepth 20000 in
theorem gX1_takeBack_X4_copyFrom : GoodIn wsX1_takeBack (wsV RX1 53 RX4 yX4_copyFrom wsX4_copyFrom) := goodIn_app (goodIn_of _ (by decide +kernel)) ggX1_takeBack_X4_copyFrom
theorem dX1_takeBack_0 : decode cX1_takeBack 0 = .ok (.aload_n 0, 1) := by decide +kernel
theorem dX1_takeBack_1 : decode cX1_takeBack 1 = .ok (.getfield 56, 3) := by decide +kernel
theorem dX1_takeBack_4 : decode cX1_takeBack 4 = .ok (.iconst 1, 1) := by decide +kernel
theorem dX1_takeBack_5 : decode cX1_takeBack 5 = .ok (.if_icmp .lt 12, 3) := by decide +kernel
theorem dX1_takeBack_8 : decode cX1_takeBack 8 = .ok (.aload_n 0, 1) := by decide +kernel
theorem dX1_takeBack_9 : decode cX1_takeBack 9 = .ok (.getfield 56, 3) := by decide +kernel
theorem dX1_takeBack_12 : decode cX1_takeBack 12 = .ok (.bipush 30, 2) := by decide +kernel
theorem dX1_takeBack_14 : decode cX1_takeBack 14 = .ok (.if_icmp .le 5, 3) := by decide +kernel
theorem dX1_takeBack_17 : decode cX1_takeBack 17 = .ok (.iconst 0, 1) := by decide +kernel
theorem dX1_takeBack_18 : decode cX1_takeBack 18 = .ok (.ireturn, 1) := by decide +kernel
theorem dX1_takeBack_19 : decode cX1_takeBack 19 = .ok (.aload_n 0, 1) := by decide +kernel
theorem dX1_takeBack_20 : decode cX1_takeBack 20 = .ok (.dup, 1) := by decide +kernel
theorem dX1_takeBack_21 : decode cX1_takeBack 21 = .ok (.getfield 56, 3) := by decide +kernel
theorem dX1_takeBack_24 : decode cX1_takeBack 24 = .ok (.iconst 1, 1) := by decide +kernel
theorem dX1_takeBack_25 : decode cX1_takeBack 25 = .ok (.isub, 1) := by decide +kernel
theorem dX1_takeBack_26 : decode cX1_takeBack 26 = .ok (.putfield 56, 3) := by decide +kernel
theorem dX1_takeBack_29 : decode cX1_takeBack 29 = .ok (.aload_n 0, 1) := by decide +kernel
theorem dX1_takeBack_30 : decode cX1_takeBack 30 = .ok (.getfield 21, 3) := by decide +kernel
theorem dX1_takeBack_33 : decode cX1_takeBack 33 = .ok (.aload_n 0, 1) := by decide +kernel
theorem dX1_takeBack_34 : decode cX1_takeBack 34 = .ok (.getfield 25, 3) := by decide +kernel
theorem dX1_takeBack_37 : decode cX1_takeBack 37 = .ok (.aload_n 0, 1) := by decide +kernel
theorem dX1_takeBack_38 : decode cX1_takeBack 38 = .ok (.getfield 56, 3) := by decide +kernel
theorem dX1_takeBack_41 : decode cX1_takeBack 41 = .ok (.aaload, 1) := by decide +kernel
theorem dX1_takeBack_42 : decode cX1_takeBack 42 = .ok (.invokevirtual 53, 3) := by decide +kernel
theorem dX1_takeBack_45 : decode cX1_takeBack 45 = .ok (.iconst 1, 1) := by decide +kernel
theorem dX1_takeBack_46 : decode cX1_takeBack 46 = .ok (.ireturn, 1) := by decide +kernel
theorem dX1_note_0 : decode cX1_note 0 = .ok (.aload_n 0, 1) := by decide +kernel
theorem dX1_note_1 : decode cX1_note 1 = .ok (.getfield 68, 3) := by decide +kernel
theorem dX1_note_4 : decode cX1_note 4 = .ok (.ifCond .lt 12, 3) := by decide +kernel
theorem dX1_note_7 : decode cX1_note 7 = .ok (.aload_n 0, 1) := by decide +kernel
theorem dX1_note_8 : decode cX1_note 8 = .ok (.getfield 68, 3) := by decide +kernel
theorem dX1_note_11 : decode cX1_note 11 = .ok (.bipush 8, 2) := by decide +kernel
theorem dX1_note_13 : decode cX1_note 13 = .ok (.if_icmp .lt 6, 3) := by decide +kernel
theorem dX1_note_16 : decode cX1_note 16 = .ok (.bipush (-2), 2) := by decide +kernel
theorem dX1_note_18 : decode cX1_note 18 = .ok (.ireturn, 1) := by decide +kernel
theorem dX1_note_19 : decode cX1_note 19 = .ok (.aload_n 0, 1) := by decide +kernel
theorem dX1_note_20 : decode cX1_note 20 = .ok (.getfield 43, 3) := by decide +kernel
theorem dX1_note_23 : decode cX1_note 23 = .ok (.aload_n 0, 1) := by decide +kernel
theorem dX1_note_24 : decode cX1_note 24 = .ok (.getfield 68, 3) := by decide +kernel
theorem dX1_note_27 : decode cX1_note 27 = .ok (.iload_n 1, 1) := by decide +kernel
theorem dX1_note_28 : decode cX1_note 28 = .ok (.iastore, 1) := by decide +kernel
theorem dX1_note_29 : decode cX1_note 29 = .ok (.aload_n 0, 1) := by decide +kernel
theorem dX1_note_30 : decode cX1_note 30 = .ok (.getfield 46, 3) := by decide +kernel
theorem dX1_note_33 : decode cX1_note 33 = .ok (.aload_n 0, 1) := by decide +kernel
theorem dX1_note_34 : decode cX1_note 34 = .ok (.getfield 68, 3) := by decide +kernel
theorem dX1_note_37 : decode cX1_note 37 = .ok (.iload_n 2, 1) := by decide +kernel
theorem dX1_note_38 : decode cX1_note 38 = .ok (.iastore, 1) := by decide +kernel
theorem dX1_note_39 : decode cX1_note 39 = .ok (.aload_n 0, 1) := by decide +kernel
theorem dX1_note_40 : decode cX1_note 40 = .ok (.dup, 1) := by decide +kernel
theorem dX1_note_41 : decode cX1_note 41 = .ok (.getfield 68, 3) := by decide +kernel
theorem dX1_note_44 : decode cX1_note 44 = .ok (.iconst 1, 1) := by decide +kernel
theorem dX1_note_45 : decode cX1_note 45 = .ok (.iadd, 1) := by decide +kernel
theorem dX1_note_46 : decode cX1_note 46 = .ok (.putfield 68, 3) := by decide +kernel
theorem dX1_note_49 : decode cX1_note 49 = .ok (.aload_n 0, 1) := by decide +kernel
theorem dX1_note_50 : decode cX1_note 50 = .ok (.getfield 68, 3) := by decide +kernel
theorem dX1_note_53 : decode cX1_note 53 = .ok (.ireturn, 1) := by decide +kernel
theorem dX2_init_0 : decode cX2_init 0 = .ok (.aload_n 0, 1) := by decide +kernel
theorem dX2_init_1 : decode cX2_init 1 = .ok (.invokespecial 3, 3) := by decide +kernel
theorem dX2_init_4 : decode cX2_init 4 = .ok (.aload_n 0, 1) := by decide +kernel
theorem dX2_init_5 : decode cX2_init 5 = .ok (.aload_n 1, 1) := by decide +kernel
theorem dX2_init_6 : decode cX2_init 6 = .ok (.putfield 9, 3) := by decide +kernel
theorem dX2_init_9 : decode cX2_init 9 = .ok (.aload_n 0, 1) := by decide +kernel
theorem dX2_init_10 : decode cX2_init 10 = .ok (.aload_n 2, 1) := by decide +kernel
theorem dX2_init_11 : decode cX2_init 11 = .ok (.putfield 15, 3) := by decide +kernel
theorem dX2_init_14 : decode cX2_init 14 = .ok (.aload_n 0, 1) := by decide +kernel
theorem dX2_init_15 : decode cX2_init 15 = .ok (.aload_n 3, 1) := by decide +kernel
theorem dX2_init_16 : decode cX2_init 16 = .ok (.putfield 19, 3) := by decide +kernel
theorem dX2_init_19 : decode cX2_init 19 = .ok (.return_, 1) := by decide +kernel
theorem dX2_rulingText_0 : decode cX2_rulingText 0 = .ok (.aload_n 0, 1) := by decide +kernel
theorem dX2_rulingText_1 : decode cX2_rulingText 1 = .ok (.getfield 9, 3) := by decide +kernel
theorem dX2_rulingText_4 : decode cX2_rulingText 4 = .ok (.getfield 23, 3) := by decide +kernel
theorem dX2_rulingText_7 : decode cX2_rulingText 7 = .ok (.istore_n 1, 1) := by decide +kernel
theorem dX2_rulingText_8 : decode cX2_rulingText 8 = .ok (.iload_n 1, 1) := by decide +kernel
theorem dX2_rulingText_9 : decode cX2_rulingText 9 = .ok (.ifCond .lt 21, 3) := by decide +kernel
theorem dX2_rulingText_12 : decode cX2_rulingText 12 = .ok (.iload_n 1, 1) := by decide +kernel
theorem dX2_rulingText_13 : decode cX2_rulingText 13 = .ok (.aload_n 0, 1) := by decide +kernel
theorem dX2_rulingText_14 : decode cX2_rulingText 14 = .ok (.getfield 15, 3) := by decide +kernel
theorem dX2_rulingText_17 : decode cX2_rulingText 17 = .ok (.arraylength, 1) := by decide +kernel
theorem dX2_rulingText_18 : decode cX2_rulingText 18 = .ok (.if_icmp .ge 12, 3) := by decide +kernel
theorem dX2_rulingText_21 : decode cX2_rulingText 21 = .ok (.aload_n 0, 1) := by decide +kernel
theorem dX2_rulingText_22 : decode cX2_rulingText 22 = .ok (.getfield 15, 3) := by decide +kernel
theorem dX2_rulingText_25 : decode cX2_rulingText 25 = .ok (.iload_n 1, 1) := by decide +kernel
theorem dX2_rulingText_26 : decode cX2_rulingText 26 = .ok (.aaload, 1) := by decide +kernel
theorem dX2_rulingText_27 : decode cX2_rulingText 27 = .ok (.goto 4, 3) := by decide +kernel
theorem dX2_rulingText_30 : decode cX2_rulingText 30 = .ok (.aconst_null, 1) := by decide +kernel
theorem dX2_rulingText_31 : decode cX2_rulingText 31 = .ok (.areturn, 1) := by decide +kernel
set_option maxRecDepth 20000 in
theorem ggX2_nextPlace_X4_isThere : GoodIn wsX2_nextPlace wsX4_isThere := goodIn_r _ [11, 12, 97, 98, 99, 100, 101, 102, 103, 104, 105, 106, 107, 108] (by decide +kernel) (by decide +kernel)
set_option maxRecDepth 20000 in
theorem gX2_nextPlace_X4_isThere : GoodIn wsX2_nextPlace (wsV RX2 29 RX4 yX4_isThere wsX4_isThere) := goodIn_app (goodIn_of _ (by decide +kernel)) ggX2_nextPlace_X4_isThere
set_option maxRecDepth 20000 in
theorem ggX2_nextPlace_X11_isWant : GoodIn wsX2_nextPlace wsX11_isWant := goodIn_r _ [15] (by decide +kernel) (by decide +kernel)
set_option maxRecDepth 20000 in
theorem gX2_nextPlace_X11_isWant_n39 : GoodIn wsX2_nextPlace (wsX11_isWant) := ggX2_nextPlace_X11_isWant
set_option maxRecDepth 20000 in
theorem ggX2_nextPlace_X2_rulingText : GoodIn wsX2_nextPlace wsX2_rulingText := goodIn_r _ [20, 2, 21, 22, 109, 110, 111, 112, 113, 114, 115, 116, 117, 118, 119, 120, 121, 122, 123] (by decide +kernel) (by decide +kernel)
set_option maxRecDepth 20000 in
theorem gX2_nextPlace_X2_rulingText : GoodIn wsX2_nextPlace (wsV RX2 42 RX2 yX2_rulingText wsX2_rulingText) := goodIn_app (goodIn_of _ (by decide +kernel)) ggX2_nextPlace_X2_rulingText
set_option maxRecDepth 20000 in
theorem ggX2_nextPlace_X11_has : GoodIn wsX2_nextPlace wsX11_has := goodIn_r _ [24] (by decide +kernel) (by decide +kernel)
set_option maxRecDepth 20000 in
theorem gX2_nextPlace_X11_has_n58 : GoodIn wsX2_nextPlace (wsX11_has) := ggX2_nextPlace_X11_has
set_option maxRecDepth 20000 in
theorem ggX2_nextPlace_X5_saysNext : GoodIn wsX2_nextPlace wsX5_saysNext := goodIn_r _ [29, 30, 31, 32, 33, 34, 35, 36, 37, 38, 39, 40, 41, 42, 13, 14, 15, 43, 8, 9, 10, 11, 12, 44, 45, 46, 47, 48, 49, 50, 51, 52, 53, 28, 54, 55, 56, 57, 58, 59, 60, 61, 62, 63, 64, 65, 66, 67, 68, 69, 70, 71, 72, 73, 74, 75, 76, 77, 78, 79, 80, 81, 82, 83, 84, 85, 86, 87, 88, 89, 90, 91, 92, 93, 94, 95, 96, 129, 130, 131, 124, 125, 126, 127, 128, 132, 133, 134, 135, 136, 137, 138, 139, 140, 141, 142, 97, 98, 99, 100, 101, 102, 103, 104, 105, 106, 107, 108] (by decide +kernel) (by decide +kernel)
set_option maxRecDepth 20000 in
theorem gX2_nextPlace_X5_saysNext : GoodIn wsX2_nextPlace (wsV RX2 62 RX5 yX5_saysNext wsX5_saysNext) := goodIn_app (goodIn_of _ (by decide +kernel)) ggX2_nextPlace_X5_saysNext
theorem dX2_nextPlace_0 : decode cX2_nextPlace 0 = .ok (.aload_n 1, 1) := by decide +kernel
theorem dX2_nextPlace_1 : decode cX2_nextPlace 1 = .ok (.iload_n 2, 1) := by decide +kernel
theorem dX2_nextPlace_2 : decode cX2_nextPlace 2 = .ok (.invokevirtual 29, 3) := by decide +kernel
theorem dX2_nextPlace_5 : decode cX2_nextPlace 5 = .ok (.ifCond .eq 15, 3) := by decide +kernel
theorem dX2_nextPlace_8 : decode cX2_nextPlace 8 = .ok (.aload_n 1, 1) := by decide +kernel
theorem dX2_nextPlace_9 : decode cX2_nextPlace 9 = .ok (.getfield 35, 3) := by decide +kernel
theorem dX2_nextPlace_12 : decode cX2_nextPlace 12 = .ok (.iload_n 2, 1) := by decide +kernel
theorem dX2_nextPlace_13 : decode cX2_nextPlace 13 = .ok (.iaload, 1) := by decide +kernel
theorem dX2_nextPlace_14 : decode cX2_nextPlace 14 = .ok (.invokestatic 39, 3) := by decide +kernel
theorem dX2_nextPlace_17 : decode cX2_nextPlace 17 = .ok (.ifCond .ne 5, 3) := by decide +kernel
theorem dX2_nextPlace_20 : decode cX2_nextPlace 20 = .ok (.iconst (-1), 1) := by decide +kernel
theorem dX2_nextPlace_21 : decode cX2_nextPlace 21 = .ok (.ireturn, 1) := by decide +kernel
theorem dX2_nextPlace_22 : decode cX2_nextPlace 22 = .ok (.aload_n 0, 1) := by decide +kernel
theorem dX2_nextPlace_23 : decode cX2_nextPlace 23 = .ok (.invokevirtual 42, 3) := by decide +kernel
theorem dX2_nextPlace_26 : decode cX2_nextPlace 26 = .ok (.astore_n 3, 1) := by decide +kernel
theorem dX2_nextPlace_27 : decode cX2_nextPlace 27 = .ok (.aload_n 0, 1) := by decide +kernel
theorem dX2_nextPlace_28 : decode cX2_nextPlace 28 = .ok (.getfield 9, 3) := by decide +kernel
theorem dX2_nextPlace_31 : decode cX2_nextPlace 31 = .ok (.getfield 46, 3) := by decide +kernel
theorem dX2_nextPlace_34 : decode cX2_nextPlace 34 = .ok (.getfield 50, 3) := by decide +kernel
theorem dX2_nextPlace_37 : decode cX2_nextPlace 37 = .ok (.aload_n 1, 1) := by decide +kernel
theorem dX2_nextPlace_38 : decode cX2_nextPlace 38 = .ok (.getfield 35, 3) := by decide +kernel
theorem dX2_nextPlace_41 : decode cX2_nextPlace 41 = .ok (.iload_n 2, 1) := by decide +kernel
theorem dX2_nextPlace_42 : decode cX2_nextPlace 42 = .ok (.iaload, 1) := by decide +kernel
theorem dX2_nextPlace_43 : decode cX2_nextPlace 43 = .ok (.iaload, 1) := by decide +kernel
theorem dX2_nextPlace_44 : decode cX2_nextPlace 44 = .ok (.aload_n 1, 1) := by decide +kernel
theorem dX2_nextPlace_45 : decode cX2_nextPlace 45 = .ok (.getfield 55, 3) := by decide +kernel
theorem dX2_nextPlace_48 : decode cX2_nextPlace 48 = .ok (.iload_n 2, 1) := by decide +kernel
theorem dX2_nextPlace_49 : decode cX2_nextPlace 49 = .ok (.iaload, 1) := by decide +kernel
theorem dX2_nextPlace_50 : decode cX2_nextPlace 50 = .ok (.iconst (-1), 1) := by decide +kernel
theorem dX2_nextPlace_51 : decode cX2_nextPlace 51 = .ok (.ixor, 1) := by decide +kernel
theorem dX2_nextPlace_52 : decode cX2_nextPlace 52 = .ok (.iand, 1) := by decide +kernel
theorem dX2_nextPlace_53 : decode cX2_nextPlace 53 = .ok (.istore 4, 2) := by decide +kernel
theorem dX2_nextPlace_55 : decode cX2_nextPlace 55 = .ok (.iconst (-1), 1) := by decide +kernel
theorem dX2_nextPlace_56 : decode cX2_nextPlace 56 = .ok (.istore 5, 2) := by decide +kernel
theorem dX2_nextPlace_58 : decode cX2_nextPlace 58 = .ok (.sipush (-1000), 3) := by decide +kernel
theorem dX2_nextPlace_61 : decode cX2_nextPlace 61 = .ok (.istore 6, 2) := by decide +kernel
theorem dX2_nextPlace_63 : decode cX2_nextPlace 63 = .ok (.iconst 0, 1) := by decide +kernel
theorem dX2_nextPlace_64 : decode cX2_nextPlace 64 = .ok (.istore 7, 2) := by decide +kernel
theorem dX2_nextPlace_66 : decode cX2_nextPlace 66 = .ok (.iload 7, 2) := by decide +kernel
theorem dX2_nextPlace_68 : decode cX2_nextPlace 68 = .ok (.bipush 12, 2) := by decide +kernel
theorem dX2_nextPlace_70 : decode cX2_nextPlace 70 = .ok (.if_icmp .ge 48, 3) := by decide +kernel
theorem dX2_nextPlace_73 : decode cX2_nextPlace 73 = .ok (.iload 4, 2) := by decide +kernel
theorem dX2_nextPlace_75 : decode cX2_nextPlace 75 = .ok (.iload 7, 2) := by decide +kernel
theorem dX2_nextPlace_77 : decode cX2_nextPlace 77 = .ok (.invokestatic 58, 3) := by decide +kernel
theorem dX2_nextPlace_80 : decode cX2_nextPlace 80 = .ok (.ifCond .eq 32, 3) := by decide +kernel
theorem dX2_nextPlace_83 : decode cX2_nextPlace 83 = .ok (.aload_n 0, 1) := by decide +kernel
theorem dX2_nextPlace_84 : decode cX2_nextPlace 84 = .ok (.getfield 19, 3) := by decide +kernel
theorem dX2_nextPlace_87 : decode cX2_nextPlace 87 = .ok (.aload_n 3, 1) := by decide +kernel
theorem dX2_nextPlace_88 : decode cX2_nextPlace 88 = .ok (.aload_n 1, 1) := by decide +kernel
theorem dX2_nextPlace_89 : decode cX2_nextPlace 89 = .ok (.iload_n 2, 1) := by decide +kernel
theorem dX2_nextPlace_90 : decode cX2_nextPlace 90 = .ok (.iload 7, 2) := by decide +kernel
theorem dX2_nextPlace_92 : decode cX2_nextPlace 92 = .ok (.invokevirtual 62, 3) := by decide +kernel
theorem dX2_nextPlace_95 : decode cX2_nextPlace 95 = .ok (.istore 8, 2) := by decide +kernel
theorem dX2_nextPlace_97 : decode cX2_nextPlace 97 = .ok (.iload 8, 2) := by decide +kernel
theorem dX2_nextPlace_99 : decode cX2_nextPlace 99 = .ok (.iload 6, 2) := by decide +kernel
theorem dX2_nextPlace_101 : decode cX2_nextPlace 101 = .ok (.if_icmp .le 11, 3) := by decide +kernel
theorem dX2_nextPlace_104 : decode cX2_nextPlace 104 = .ok (.iload 8, 2) := by decide +kernel
theorem dX2_nextPlace_106 : decode cX2_nextPlace 106 = .ok (.istore 6, 2) := by decide +kernel
theorem dX2_nextPlace_108 : decode cX2_nextPlace 108 = .ok (.iload 7, 2) := by decide +kernel
theorem dX2_nextPlace_110 : decode cX2_nextPlace 110 = .ok (.istore 5, 2) := by decide +kernel
theorem dX2_nextPlace_112 : decode cX2_nextPlace 112 = .ok (.iinc 7 1, 3) := by decide +kernel
theorem dX2_nextPlace_115 : decode cX2_nextPlace 115 = .ok (.goto (-49), 3) := by decide +kernel
theorem dX2_nextPlace_118 : decode cX2_nextPlace 118 = .ok (.iload 5, 2) := by decide +kernel
theorem dX2_nextPlace_120 : decode cX2_nextPlace 120 = .ok (.ireturn, 1) := by decide +kernel
set_option maxRecDepth 20000 in
theorem ggX2_lead_X4_doesWait : GoodIn wsX2_lead wsX4_doesWait := goodIn_r _ [15, 16, 17, 18, 19, 14, 20, 21, 139, 140, 141, 142, 143, 144, 145, 146, 147, 148, 149, 150] (by decide +kernel) (by decide +kernel)
set_option maxRecDepth 20000 in
theorem gX2_lead_X4_doesWait : GoodIn wsX2_lead (wsV RX2 68 RX4 yX4_doesWait wsX4_doesWait) := goodIn_app (goodIn_of _ (by decide +kernel)) ggX2_lead_X4_doesWait
set_option maxRecDepth 20000 in
theorem ggX2_lead_X2_nextPlace : GoodIn wsX2_lead wsX2_nextPlace := goodIn_r _ [26, 2, 3, 4, 27, 28, 1, 29, 18, 19, 14, 20, 21, 30, 31, 32, 33, 34, 35, 25, 36, 37, 38, 39, 40, 41, 42, 43, 44, 45, 46, 47, 48, 49, 50, 51, 52, 8, 9, 10, 53, 54, 55, 56, 57, 58, 59, 60, 61, 62, 63, 64, 65, 66, 67, 68, 69, 70, 71, 72, 73, 74, 75, 76, 77, 78, 79, 80, 81, 82, 83, 84, 85, 86, 87, 88, 89, 90, 91, 92, 93, 94, 95, 96, 97, 98, 99, 100, 101, 102, 103, 104, 105, 106, 107, 108, 109, 139, 140, 141, 142, 143, 144, 145, 146, 147, 148, 149, 150, 136, 137, 138, 151, 152, 153, 154, 155, 156, 157, 158, 159, 160, 161, 162, 163, 164, 165, 166, 167, 168, 169, 170, 171, 172, 173, 174, 175, 176, 177, 178, 179, 180, 181] (by decide +kernel) (by decide +kernel)
set_option maxRecDepth 20000 in
theorem gX2_lead_X2_nextPlace : GoodIn wsX2_lead (wsV RX2 71 RX2 yX2_nextPlace wsX2_nextPlace) := goodIn_app (goodIn_of _ (by decide +kernel)) ggX2_lead_X2_nextPlace
set_option maxRecDepth 20000 in
theorem ggX2_lead_X11_isWant : GoodIn wsX2_lead wsX11_isWant := goodIn_r _ [32] (by decide +kernel) (by decide +kernel)
set_option maxRecDepth 20000 in
theorem gX2_lead_X11_isWant_n39 : GoodIn wsX2_lead (wsX11_isWant) := ggX2_lead_X11_isWant
set_option maxRecDepth 20000 in
theorem ggX2_lead_X2_rulingText : GoodIn wsX2_lead wsX2_rulingText := goodIn_r _ [36, 3, 37, 38, 136, 137, 138, 151, 152, 153, 154, 155, 156, 157, 158, 159, 160, 161, 162] (by decide +kernel) (by decide +kernel)
set_option maxRecDepth 20000 in
theorem gX2_lead_X2_rulingText : GoodIn wsX2_lead (wsV RX2 42 RX2 yX2_rulingText wsX2_rulingText) := goodIn_app (goodIn_of _ (by decide +kernel)) ggX2_lead_X2_rulingText
set_option maxRecDepth 20000 in
theorem ggX2_lead_X5_saysNeed : GoodIn wsX2_lead wsX5_saysNeed := goodIn_r _ [113, 69, 70, 114, 115, 52, 8, 9, 10, 53, 54, 55, 56, 18, 19, 14, 20, 21, 57, 58, 59, 60, 61, 62, 63, 64, 65, 66, 44, 67, 48, 68, 71, 72, 73, 74, 31, 75, 76, 77, 78, 79, 80, 81, 82, 83, 84, 85, 86, 87, 88, 89, 90, 91, 92, 93, 94, 95, 96, 97, 98, 99, 100, 101, 102, 103, 104, 105, 46, 106, 107, 108, 109, 139, 140, 141, 142, 143, 144, 145, 146, 147, 148, 149, 150, 171, 172, 173, 174, 175, 176, 177, 178, 179, 180, 181, 168, 169, 170, 163, 164, 165, 166, 167] (by decide +kernel) (by decide +kernel)
set_option maxRecDepth 20000 in
theorem gX2_lead_X5_saysNeed : GoodIn wsX2_lead (wsV RX2 75 RX5 yX5_saysNeed wsX5_saysNeed) := goodIn_app (goodIn_of _ (by decide +kernel)) ggX2_lead_X5_saysNeed
set_option maxRecDepth 20000 in
theorem ggX2_lead_X4_dismiss : GoodIn wsX2_lead wsX4_dismiss := goodIn_r _ [119, 16, 120, 121, 8, 9, 10, 122, 123, 124, 125, 126, 127, 128, 129, 130, 74, 31, 75, 139, 140, 141, 142, 143, 144, 145, 146, 147, 148, 149, 150] (by decide +kernel) (by decide +kernel)
set_option maxRecDepth 20000 in
theorem gX2_lead_X4_dismiss : GoodIn wsX2_lead (wsV RX2 79 RX4 yX4_dismiss wsX4_dismiss) := goodIn_app (goodIn_of _ (by decide +kernel)) ggX2_lead_X4_dismiss
set_option maxRecDepth 20000 in
theorem ggX2_lead_X4_weep : GoodIn wsX2_lead wsX4_weep := goodIn_r _ [134, 135, 121, 8, 9, 10, 74, 31, 75, 139, 140, 141, 142, 143, 144, 145, 146, 147, 148, 149, 150] (by decide +kernel) (by decide +kernel)
set_option maxRecDepth 20000 in
theorem gX2_lead_X4_weep : GoodIn wsX2_lead (wsV RX2 86 RX4 yX4_weep wsX4_weep) := goodIn_app (goodIn_of _ (by decide +kernel)) ggX2_lead_X4_weep
theorem dX2_lead_0 : decode cX2_lead 0 = .ok (.aload_n 1, 1) := by decide +kernel
theorem dX2_lead_1 : decode cX2_lead 1 = .ok (.iload_n 2, 1) := by decide +kernel
theorem dX2_lead_2 : decode cX2_lead 2 = .ok (.invokevirtual 68, 3) := by decide +kernel
theorem dX2_lead_5 : decode cX2_lead 5 = .ok (.ifCond .ne 5, 3) := by decide +kernel
theorem dX2_lead_8 : decode cX2_lead 8 = .ok (.iconst (-1), 1) := by decide +kernel
theorem dX2_lead_9 : decode cX2_lead 9 = .ok (.ireturn, 1) := by decide +kernel
theorem dX2_lead_10 : decode cX2_lead 10 = .ok (.aload_n 0, 1) := by decide +kernel
theorem dX2_lead_11 : decode cX2_lead 11 = .ok (.aload_n 1, 1) := by decide +kernel
theorem dX2_lead_12 : decode cX2_lead 12 = .ok (.iload_n 2, 1) := by decide +kernel
theorem dX2_lead_13 : decode cX2_lead 13 = .ok (.invokevirtual 71, 3) := by decide +kernel
theorem dX2_lead_16 : decode cX2_lead 16 = .ok (.istore_n 3, 1) := by decide +kernel
theorem dX2_lead_17 : decode cX2_lead 17 = .ok (.iload_n 3, 1) := by decide +kernel
theorem dX2_lead_18 : decode cX2_lead 18 = .ok (.invokestatic 39, 3) := by decide +kernel
theorem dX2_lead_21 : decode cX2_lead 21 = .ok (.ifCond .ne 32, 3) := by decide +kernel
theorem dX2_lead_24 : decode cX2_lead 24 = .ok (.aload_n 1, 1) := by decide +kernel
theorem dX2_lead_25 : decode cX2_lead 25 = .ok (.iload_n 2, 1) := by decide +kernel
theorem dX2_lead_26 : decode cX2_lead 26 = .ok (.aload_n 0, 1) := by decide +kernel
theorem dX2_lead_27 : decode cX2_lead 27 = .ok (.getfield 19, 3) := by decide +kernel
theorem dX2_lead_30 : decode cX2_lead 30 = .ok (.aload_n 0, 1) := by decide +kernel
theorem dX2_lead_31 : decode cX2_lead 31 = .ok (.invokevirtual 42, 3) := by decide +kernel
theorem dX2_lead_34 : decode cX2_lead 34 = .ok (.aload_n 1, 1) := by decide +kernel
theorem dX2_lead_35 : decode cX2_lead 35 = .ok (.iload_n 2, 1) := by decide +kernel
theorem dX2_lead_36 : decode cX2_lead 36 = .ok (.invokevirtual 75, 3) := by decide +kernel
theorem dX2_lead_39 : decode cX2_lead 39 = .ok (.ifCond .le 7, 3) := by decide +kernel
theorem dX2_lead_42 : decode cX2_lead 42 = .ok (.iconst 1, 1) := by decide +kernel
theorem dX2_lead_43 : decode cX2_lead 43 = .ok (.goto 4, 3) := by decide +kernel
theorem dX2_lead_46 : decode cX2_lead 46 = .ok (.iconst 0, 1) := by decide +kernel
theorem dX2_lead_47 : decode cX2_lead 47 = .ok (.invokevirtual 79, 3) := by decide +kernel
theorem dX2_lead_50 : decode cX2_lead 50 = .ok (.bipush 12, 2) := by decide +kernel
theorem dX2_lead_52 : decode cX2_lead 52 = .ok (.ireturn, 1) := by decide +kernel
theorem dX2_lead_53 : decode cX2_lead 53 = .ok (.aload_n 1, 1) := by decide +kernel
theorem dX2_lead_54 : decode cX2_lead 54 = .ok (.getfield 35, 3) := by decide +kernel
theorem dX2_lead_57 : decode cX2_lead 57 = .ok (.iload_n 2, 1) := by decide +kernel
theorem dX2_lead_58 : decode cX2_lead 58 = .ok (.iload_n 3, 1) := by decide +kernel
theorem dX2_lead_59 : decode cX2_lead 59 = .ok (.iastore, 1) := by decide +kernel
theorem dX2_lead_60 : decode cX2_lead 60 = .ok (.aload_n 1, 1) := by decide +kernel
theorem dX2_lead_61 : decode cX2_lead 61 = .ok (.iload_n 2, 1) := by decide +kernel
theorem dX2_lead_62 : decode cX2_lead 62 = .ok (.aload_n 0, 1) := by decide +kernel
theorem dX2_lead_63 : decode cX2_lead 63 = .ok (.getfield 9, 3) := by decide +kernel
theorem dX2_lead_66 : decode cX2_lead 66 = .ok (.getfield 46, 3) := by decide +kernel
theorem dX2_lead_69 : decode cX2_lead 69 = .ok (.getfield 83, 3) := by decide +kernel
theorem dX2_lead_72 : decode cX2_lead 72 = .ok (.iload_n 3, 1) := by decide +kernel
theorem dX2_lead_73 : decode cX2_lead 73 = .ok (.iaload, 1) := by decide +kernel
theorem dX2_lead_74 : decode cX2_lead 74 = .ok (.invokevirtual 86, 3) := by decide +kernel
theorem dX2_lead_77 : decode cX2_lead 77 = .ok (.aload_n 1, 1) := by decide +kernel
theorem dX2_lead_78 : decode cX2_lead 78 = .ok (.getfield 90, 3) := by decide +kernel
theorem dX2_lead_81 : decode cX2_lead 81 = .ok (.iload_n 2, 1) := by decide +kernel
theorem dX2_lead_82 : decode cX2_lead 82 = .ok (.sipush 999, 3) := by decide +kernel
theorem dX2_lead_85 : decode cX2_lead 85 = .ok (.aload_n 1, 1) := by decide +kernel
theorem dX2_lead_86 : decode cX2_lead 86 = .ok (.getfield 90, 3) := by decide +kernel
theorem dX2_lead_89 : decode cX2_lead 89 = .ok (.iload_n 2, 1) := by decide +kernel
theorem dX2_lead_90 : decode cX2_lead 90 = .ok (.iaload, 1) := by decide +kernel
theorem dX2_lead_91 : decode cX2_lead 91 = .ok (.iconst 1, 1) := by decide +kernel
theorem dX2_lead_92 : decode cX2_lead 92 = .ok (.iadd, 1) := by decide +kernel
theorem dX2_lead_93 : decode cX2_lead 93 = .ok (.invokestatic 93, 3) := by decide +kernel
theorem dX2_lead_96 : decode cX2_lead 96 = .ok (.iastore, 1) := by decide +kernel
theorem dX2_lead_97 : decode cX2_lead 97 = .ok (.iload_n 3, 1) := by decide +kernel
theorem dX2_lead_98 : decode cX2_lead 98 = .ok (.ireturn, 1) := by decide +kernel
set_option maxRecDepth 20000 in
theorem ggX2_canDrop_X4_doesWait : GoodIn wsX2_canDrop wsX4_doesWait := goodIn_r _ [7, 8, 9, 10, 11, 6, 12, 13, 19, 20, 21, 22, 23, 24, 25, 26, 27, 28, 29, 30] (by decide +kernel) (by decide +kernel)
set_option maxRecDepth 20000 in
theorem gX2_canDrop_X4_doesWait : GoodIn wsX2_canDrop (wsV RX2 68 RX4 yX4_doesWait wsX4_doesWait) := goodIn_app (goodIn_of _ (by decide +kernel)) ggX2_canDrop_X4_doesWait
set_option maxRecDepth 20000 in
theorem ggX2_canDrop_X11_isWant : GoodIn wsX2_canDrop wsX11_isWant := goodIn_r _ [16] (by decide +kernel) (by decide +kernel)
set_option maxRecDepth 20000 in
theorem gX2_canDrop_X11_isWant_n39 : GoodIn wsX2_canDrop (wsX11_isWant) := ggX2_canDrop_X11_isWant
set_option maxRecDepth 20000 in
theorem ggX2_canDrop_X11_has : GoodIn wsX2_canDrop wsX11_has := goodIn_r _ [18] (by decide +kernel) (by decide +kernel)
set_option maxRecDepth 20000 in
theorem gX2_canDrop_X11_has_n58 : GoodIn wsX2_canDrop (wsX11_has) := ggX2_canDrop_X11_has
theorem dX2_canDrop_0 : decode cX2_canDrop 0 = .ok (.aload_n 1, 1) := by decide +kernel
theorem dX2_canDrop_1 : decode cX2_canDrop 1 = .ok (.iload_n 2, 1) := by decide +kernel
theorem dX2_canDrop_2 : decode cX2_canDrop 2 = .ok (.invokevirtual 68, 3) := by decide +kernel
theorem dX2_canDrop_5 : decode cX2_canDrop 5 = .ok (.ifCond .eq 37, 3) := by decide +kernel
theorem dX2_canDrop_8 : decode cX2_canDrop 8 = .ok (.iload_n 3, 1) := by decide +kernel
theorem dX2_canDrop_9 : decode cX2_canDrop 9 = .ok (.invokestatic 39, 3) := by decide +kernel
theorem dX2_canDrop_12 : decode cX2_canDrop 12 = .ok (.ifCond .eq 30, 3) := by decide +kernel
theorem dX2_canDrop_15 : decode cX2_canDrop 15 = .ok (.aload_n 1, 1) := by decide +kernel
theorem dX2_canDrop_16 : decode cX2_canDrop 16 = .ok (.getfield 35, 3) := by decide +kernel
theorem dX2_canDrop_19 : decode cX2_canDrop 19 = .ok (.iload_n 2, 1) := by decide +kernel
theorem dX2_canDrop_20 : decode cX2_canDrop 20 = .ok (.iaload, 1) := by decide +kernel
theorem dX2_canDrop_21 : decode cX2_canDrop 21 = .ok (.iload_n 3, 1) := by decide +kernel
theorem dX2_canDrop_22 : decode cX2_canDrop 22 = .ok (.if_icmp .eq 20, 3) := by decide +kernel
theorem dX2_canDrop_25 : decode cX2_canDrop 25 = .ok (.aload_n 1, 1) := by decide +kernel
theorem dX2_canDrop_26 : decode cX2_canDrop 26 = .ok (.getfield 55, 3) := by decide +kernel
theorem dX2_canDrop_29 : decode cX2_canDrop 29 = .ok (.iload_n 2, 1) := by decide +kernel
theorem dX2_canDrop_30 : decode cX2_canDrop 30 = .ok (.iaload, 1) := by decide +kernel
theorem dX2_canDrop_31 : decode cX2_canDrop 31 = .ok (.iload_n 3, 1) := by decide +kernel
theorem dX2_canDrop_32 : decode cX2_canDrop 32 = .ok (.invokestatic 58, 3) := by decide +kernel
theorem dX2_canDrop_35 : decode cX2_canDrop 35 = .ok (.ifCond .ne 7, 3) := by decide +kernel
theorem dX2_canDrop_38 : decode cX2_canDrop 38 = .ok (.iconst 1, 1) := by decide +kernel
theorem dX2_canDrop_39 : decode cX2_canDrop 39 = .ok (.goto 4, 3) := by decide +kernel
theorem dX2_canDrop_42 : decode cX2_canDrop 42 = .ok (.iconst 0, 1) := by decide +kernel
theorem dX2_canDrop_43 : decode cX2_canDrop 43 = .ok (.ireturn, 1) := by decide +kernel
set_option maxRecDepth 20000 in
theorem ggX2_drop_X11_isPerson : GoodIn wsX2_drop wsX11_isPerson := goodIn_r _ [7] (by decide +kernel) (by decide +kernel)
set_option maxRecDepth 20000 in
theorem gX2_drop_X11_isPerson_n99 : GoodIn wsX2_drop (wsX11_isPerson) := ggX2_drop_X11_isPerson
set_option maxRecDepth 20000 in
theorem ggX2_drop_X11_isWant : GoodIn wsX2_drop wsX11_isWant := goodIn_r _ [9] (by decide +kernel) (by decide +kernel)
set_option maxRecDepth 20000 in
theorem gX2_drop_X11_isWant_n39 : GoodIn wsX2_drop (wsX11_isWant) := ggX2_drop_X11_isWant
set_option maxRecDepth 20000 in
theorem ggX2_drop_X4_weep : GoodIn wsX2_drop wsX4_weep := goodIn_r _ [14, 15, 16, 17, 18, 19, 5, 6, 7, 20, 21, 22, 23, 24, 25, 26, 27, 28, 29, 30, 31] (by decide +kernel) (by decide +kernel)
set_option maxRecDepth 20000 in
theorem gX2_drop_X4_weep : GoodIn wsX2_drop (wsV RX2 86 RX4 yX4_weep wsX4_weep) := goodIn_app (goodIn_of _ (by decide +kernel)) ggX2_drop_X4_weep
theorem dX2_drop_0 : decode cX2_drop 0 = .ok (.iload_n 2, 1) := by decide +kernel
theorem dX2_drop_1 : decode cX2_drop 1 = .ok (.invokestatic 99, 3) := by decide +kernel
theorem dX2_drop_4 : decode cX2_drop 4 = .ok (.ifCond .eq 39, 3) := by decide +kernel
theorem dX2_drop_7 : decode cX2_drop 7 = .ok (.iload_n 3, 1) := by decide +kernel
theorem dX2_drop_8 : decode cX2_drop 8 = .ok (.invokestatic 39, 3) := by decide +kernel
theorem dX2_drop_11 : decode cX2_drop 11 = .ok (.ifCond .eq 32, 3) := by decide +kernel
theorem dX2_drop_14 : decode cX2_drop 14 = .ok (.aload_n 1, 1) := by decide +kernel
theorem dX2_drop_15 : decode cX2_drop 15 = .ok (.getfield 55, 3) := by decide +kernel
theorem dX2_drop_18 : decode cX2_drop 18 = .ok (.iload_n 2, 1) := by decide +kernel
theorem dX2_drop_19 : decode cX2_drop 19 = .ok (.dup2, 1) := by decide +kernel
theorem dX2_drop_20 : decode cX2_drop 20 = .ok (.iaload, 1) := by decide +kernel
theorem dX2_drop_21 : decode cX2_drop 21 = .ok (.iconst 1, 1) := by decide +kernel
theorem dX2_drop_22 : decode cX2_drop 22 = .ok (.iload_n 3, 1) := by decide +kernel
theorem dX2_drop_23 : decode cX2_drop 23 = .ok (.ishl, 1) := by decide +kernel
theorem dX2_drop_24 : decode cX2_drop 24 = .ok (.ior, 1) := by decide +kernel
theorem dX2_drop_25 : decode cX2_drop 25 = .ok (.iastore, 1) := by decide +kernel
theorem dX2_drop_26 : decode cX2_drop 26 = .ok (.aload_n 1, 1) := by decide +kernel
theorem dX2_drop_27 : decode cX2_drop 27 = .ok (.iload_n 2, 1) := by decide +kernel
theorem dX2_drop_28 : decode cX2_drop 28 = .ok (.aload_n 0, 1) := by decide +kernel
theorem dX2_drop_29 : decode cX2_drop 29 = .ok (.getfield 9, 3) := by decide +kernel
theorem dX2_drop_32 : decode cX2_drop 32 = .ok (.getfield 46, 3) := by decide +kernel
theorem dX2_drop_35 : decode cX2_drop 35 = .ok (.getfield 83, 3) := by decide +kernel
theorem dX2_drop_38 : decode cX2_drop 38 = .ok (.iload_n 3, 1) := by decide +kernel
theorem dX2_drop_39 : decode cX2_drop 39 = .ok (.iaload, 1) := by decide +kernel
theorem dX2_drop_40 : decode cX2_drop 40 = .ok (.invokevirtual 86, 3) := by decide +kernel
theorem dX2_drop_43 : decode cX2_drop 43 = .ok (.return_, 1) := by decide +kernel
set_option maxRecDepth 20000 in
theorem ggX2_canReturn_X4_isThere : GoodIn wsX2_canReturn wsX4_isThere := goodIn_r _ [6, 7, 11, 12, 13, 14, 15, 16, 17, 18, 19, 20, 21, 22] (by decide +kernel) (by decide +kernel)
set_option maxRecDepth 20000 in
theorem gX2_canReturn_X4_isThere : GoodIn wsX2_canReturn (wsV RX2 29 RX4 yX4_isThere wsX4_isThere) := goodIn_app (goodIn_of _ (by decide +kernel)) ggX2_canReturn_X4_isThere
set_option maxRecDepth 20000 in
theorem ggX2_canReturn_X11_isWant : GoodIn wsX2_canReturn wsX11_isWant := goodIn_r _ [10] (by decide +kernel) (by decide +kernel)
set_option maxRecDepth 20000 in
theorem gX2_canReturn_X11_isWant_n39 : GoodIn wsX2_canReturn (wsX11_isWant) := ggX2_canReturn_X11_isWant
theorem dX2_canReturn_0 : decode cX2_canReturn 0 = .ok (.aload_n 1, 1) := by decide +kernel
theorem dX2_canReturn_1 : decode cX2_canReturn 1 = .ok (.iload_n 2, 1) := by decide +kernel
theorem dX2_canReturn_2 : decode cX2_canReturn 2 = .ok (.invokevirtual 29, 3) := by decide +kernel
theorem dX2_canReturn_5 : decode cX2_canReturn 5 = .ok (.ifCond .eq 23, 3) := by decide +kernel
theorem dX2_canReturn_8 : decode cX2_canReturn 8 = .ok (.aload_n 1, 1) := by decide +kernel
theorem dX2_canReturn_9 : decode cX2_canReturn 9 = .ok (.getfield 102, 3) := by decide +kernel
theorem dX2_canReturn_12 : decode cX2_canReturn 12 = .ok (.iload_n 2, 1) := by decide +kernel
theorem dX2_canReturn_13 : decode cX2_canReturn 13 = .ok (.iaload, 1) := by decide +kernel
theorem dX2_canReturn_14 : decode cX2_canReturn 14 = .ok (.ifCond .eq 14, 3) := by decide +kernel
theorem dX2_canReturn_17 : decode cX2_canReturn 17 = .ok (.iload_n 3, 1) := by decide +kernel
theorem dX2_canReturn_18 : decode cX2_canReturn 18 = .ok (.invokestatic 39, 3) := by decide +kernel
theorem dX2_canReturn_21 : decode cX2_canReturn 21 = .ok (.ifCond .eq 7, 3) := by decide +kernel
theorem dX2_canReturn_24 : decode cX2_canReturn 24 = .ok (.iconst 1, 1) := by decide +kernel
theorem dX2_canReturn_25 : decode cX2_canReturn 25 = .ok (.goto 4, 3) := by decide +kernel
theorem dX2_canReturn_28 : decode cX2_canReturn 28 = .ok (.iconst 0, 1) := by decide +kernel
theorem dX2_canReturn_29 : decode cX2_canReturn 29 = .ok (.ireturn, 1) := by decide +kernel
set_option maxRecDepth 20000 in
theorem ggX2_passDay_X4_doesWait : GoodIn wsX2_passDay wsX4_doesWait := goodIn_r _ [7, 8, 9, 10, 11, 6, 12, 13, 147, 148, 149, 150, 151, 152, 153, 154, 155, 156, 157, 158] (by decide +kernel) (by decide +kernel)
set_option maxRecDepth 20000 in
theorem gX2_passDay_X4_doesWait : GoodIn wsX2_passDay (wsV RX2 68 RX4 yX4_doesWait wsX4_doesWait) := goodIn_app (goodIn_of _ (by decide +kernel)) ggX2_passDay_X4_doesWait
set_option maxRecDepth 20000 in
theorem ggX2_passDay_X4_drawLot : GoodIn wsX2_passDay wsX4_drawLot := goodIn_r _ [17, 18, 147, 148, 149, 150, 151, 152, 153, 154, 155, 156, 157, 158] (by decide +kernel) (by decide +kernel)
set_option maxRecDepth 20000 in
theorem gX2_passDay_X4_drawLot : GoodIn wsX2_passDay (wsV RX2 105 RX4 yX4_drawLot wsX4_drawLot) := goodIn_app (goodIn_of _ (by decide +kernel)) ggX2_passDay_X4_drawLot
set_option maxRecDepth 20000 in
theorem ggX2_passDay_X2_lead : GoodIn wsX2_passDay wsX2_lead := goodIn_r _ [23, 24, 25, 26, 27, 28, 29, 30, 31, 32, 33, 3, 4, 5, 6, 7, 8, 9, 10, 11, 12, 13, 34, 35, 36, 22, 37, 38, 39, 40, 41, 42, 43, 44, 45, 46, 47, 48, 49, 50, 51, 52, 53, 54, 55, 56, 57, 58, 59, 60, 61, 62, 63, 64, 65, 66, 67, 68, 69, 70, 71, 72, 73, 74, 75, 76, 77, 78, 79, 80, 81, 82, 83, 84, 85, 86, 87, 88, 89, 90, 91, 92, 93, 94, 95, 96, 97, 98, 99, 100, 101, 102, 103, 104, 105, 106, 107, 108, 109, 110, 111, 112, 113, 114, 115, 116, 117, 118, 119, 120, 121, 122, 123, 124, 125, 126, 127, 128, 129, 130, 131, 132, 133, 134, 135, 136, 137, 138, 139, 140, 141, 142, 143, 144, 145, 146, 159, 160, 161, 147, 148, 149, 150, 151, 152, 153, 154, 155, 156, 157, 158, 162, 163, 164, 165, 166, 167, 168, 169, 170, 171, 172, 173, 174, 175, 176, 177, 178, 179, 180, 181, 182, 183, 184, 185, 186, 187, 188, 189, 190, 191, 192] (by decide +kernel) (by decide +kernel)
set_option maxRecDepth 20000 in
theorem gX2_passDay_X2_lead : GoodIn wsX2_passDay (wsV RX2 109 RX2 yX2_lead wsX2_lead) := goodIn_app (goodIn_of _ (by decide +kernel)) ggX2_passDay_X2_lead
theorem dX2_passDay_0 : decode cX2_passDay 0 = .ok (.iconst 0, 1) := by decide +kernel
theorem dX2_passDay_1 : decode cX2_passDay 1 = .ok (.istore_n 2, 1) := by decide +kernel
theorem dX2_passDay_2 : decode cX2_passDay 2 = .ok (.iconst 0, 1) := by decide +kernel
theorem dX2_passDay_3 : decode cX2_passDay 3 = .ok (.istore_n 3, 1) := by decide +kernel
theorem dX2_passDay_4 : decode cX2_passDay 4 = .ok (.iload_n 3, 1) := by decide +kernel
theorem dX2_passDay_5 : decode cX2_passDay 5 = .ok (.iconst 5, 1) := by decide +kernel
theorem dX2_passDay_6 : decode cX2_passDay 6 = .ok (.if_icmp .ge 49, 3) := by decide +kernel
theorem dX2_passDay_9 : decode cX2_passDay 9 = .ok (.aload_n 1, 1) := by decide +kernel
theorem dX2_passDay_10 : decode cX2_passDay 10 = .ok (.iload_n 3, 1) := by decide +kernel
theorem dX2_passDay_11 : decode cX2_passDay 11 = .ok (.invokevirtual 68, 3) := by decide +kernel
theorem dX2_passDay_14 : decode cX2_passDay 14 = .ok (.ifCond .eq 35, 3) := by decide +kernel
theorem dX2_passDay_17 : decode cX2_passDay 17 = .ok (.aload_n 1, 1) := by decide +kernel
theorem dX2_passDay_18 : decode cX2_passDay 18 = .ok (.invokevirtual 105, 3) := by decide +kernel
theorem dX2_passDay_21 : decode cX2_passDay 21 = .ok (.bipush 10, 2) := by decide +kernel
theorem dX2_passDay_23 : decode cX2_passDay 23 = .ok (.irem, 1) := by decide +kernel
theorem dX2_passDay_24 : decode cX2_passDay 24 = .ok (.bipush 6, 2) := by decide +kernel
theorem dX2_passDay_26 : decode cX2_passDay 26 = .ok (.if_icmp .ge 23, 3) := by decide +kernel
theorem dX2_passDay_29 : decode cX2_passDay 29 = .ok (.aload_n 0, 1) := by decide +kernel
theorem dX2_passDay_30 : decode cX2_passDay 30 = .ok (.aload_n 1, 1) := by decide +kernel
theorem dX2_passDay_31 : decode cX2_passDay 31 = .ok (.iload_n 3, 1) := by decide +kernel
theorem dX2_passDay_32 : decode cX2_passDay 32 = .ok (.invokevirtual 109, 3) := by decide +kernel
theorem dX2_passDay_35 : decode cX2_passDay 35 = .ok (.pop, 1) := by decide +kernel
theorem dX2_passDay_36 : decode cX2_passDay 36 = .ok (.aload_n 1, 1) := by decide +kernel
theorem dX2_passDay_37 : decode cX2_passDay 37 = .ok (.getfield 102, 3) := by decide +kernel
theorem dX2_passDay_40 : decode cX2_passDay 40 = .ok (.iload_n 3, 1) := by decide +kernel
theorem dX2_passDay_41 : decode cX2_passDay 41 = .ok (.iaload, 1) := by decide +kernel
theorem dX2_passDay_42 : decode cX2_passDay 42 = .ok (.iconst 1, 1) := by decide +kernel
theorem dX2_passDay_43 : decode cX2_passDay 43 = .ok (.if_icmp .ne 6, 3) := by decide +kernel
theorem dX2_passDay_46 : decode cX2_passDay 46 = .ok (.iinc 2 1, 3) := by decide +kernel
theorem dX2_passDay_49 : decode cX2_passDay 49 = .ok (.iinc 3 1, 3) := by decide +kernel
theorem dX2_passDay_52 : decode cX2_passDay 52 = .ok (.goto (-48), 3) := by decide +kernel
theorem dX2_passDay_55 : decode cX2_passDay 55 = .ok (.aload_n 1, 1) := by decide +kernel
theorem dX2_passDay_56 : decode cX2_passDay 56 = .ok (.dup, 1) := by decide +kernel
theorem dX2_passDay_57 : decode cX2_passDay 57 = .ok (.getfield 112, 3) := by decide +kernel
theorem dX2_passDay_60 : decode cX2_passDay 60 = .ok (.iconst 1, 1) := by decide +kernel
theorem dX2_passDay_61 : decode cX2_passDay 61 = .ok (.iadd, 1) := by decide +kernel
theorem dX2_passDay_62 : decode cX2_passDay 62 = .ok (.putfield 112, 3) := by decide +kernel
theorem dX2_passDay_65 : decode cX2_passDay 65 = .ok (.iload_n 2, 1) := by decide +kernel
theorem dX2_passDay_66 : decode cX2_passDay 66 = .ok (.ireturn, 1) := by decide +kernel
set_option maxRecDepth 20000 in
theorem ggX2_passDraw_X4_drawLot : GoodIn wsX2_passDraw wsX4_drawLot := goodIn_r _ [8, 9, 171, 172, 173, 174, 175, 176, 177, 178, 179, 180, 181, 182] (by decide +kernel) (by decide +kernel)
set_option maxRecDepth 20000 in
theorem gX2_passDraw_X4_drawLot : GoodIn wsX2_passDraw (wsV RX2 105 RX4 yX4_drawLot wsX4_drawLot) := goodIn_app (goodIn_of _ (by decide +kernel)) ggX2_passDraw_X4_drawLot
set_option maxRecDepth 20000 in
theorem ggX2_passDraw_X2_lead : GoodIn wsX2_passDraw wsX2_lead := goodIn_r _ [14, 15, 16, 17, 18, 19, 20, 21, 22, 23, 24, 25, 26, 27, 7, 28, 29, 30, 31, 32, 33, 34, 35, 36, 37, 13, 38, 39, 40, 41, 42, 43, 44, 45, 46, 47, 48, 49, 50, 51, 52, 53, 54, 55, 56, 57, 58, 59, 60, 61, 62, 63, 64, 65, 66, 67, 68, 69, 70, 71, 72, 73, 74, 75, 76, 77, 78, 79, 80, 81, 82, 83, 84, 85, 86, 87, 88, 89, 90, 91, 92, 93, 94, 95, 96, 97, 98, 99, 100, 101, 102, 103, 104, 105, 106, 107, 108, 109, 110, 111, 112, 113, 114, 115, 116, 117, 118, 119, 120, 121, 122, 123, 124, 125, 126, 127, 128, 129, 130, 131, 132, 133, 134, 135, 136, 137, 138, 139, 140, 141, 142, 143, 144, 145, 146, 147, 183, 184, 185, 171, 172, 173, 174, 175, 176, 177, 178, 179, 180, 181, 182, 186, 187, 188, 189, 190, 191, 192, 193, 194, 195, 196, 197, 198, 199, 200, 201, 202, 203, 204, 205, 206, 207, 208, 209, 210, 211, 212, 213, 214, 215, 216] (by decide +kernel) (by decide +kernel)
set_option maxRecDepth 20000 in
theorem gX2_passDraw_X2_lead : GoodIn wsX2_passDraw (wsV RX2 109 RX2 yX2_lead wsX2_lead) := goodIn_app (goodIn_of _ (by decide +kernel)) ggX2_passDraw_X2_lead
set_option maxRecDepth 20000 in
theorem ggX2_passDraw_X2_canDrop : GoodIn wsX2_passDraw wsX2_canDrop := goodIn_r _ [151, 16, 40, 25, 26, 27, 7, 28, 29, 30, 31, 32, 33, 34, 42, 43, 44, 51, 52, 171, 172, 173, 174, 175, 176, 177, 178, 179, 180, 181, 182] (by decide +kernel) (by decide +kernel)
set_option maxRecDepth 20000 in
theorem gX2_passDraw_X2_canDrop : GoodIn wsX2_passDraw (wsV RX2 118 RX2 yX2_canDrop wsX2_canDrop) := goodIn_app (goodIn_of _ (by decide +kernel)) ggX2_passDraw_X2_canDrop
set_option maxRecDepth 20000 in
theorem ggX2_passDraw_X2_drop : GoodIn wsX2_passDraw wsX2_drop := goodIn_r _ [155, 40, 17, 18, 19, 86, 43, 87, 42, 44, 143, 144, 145, 7, 146, 147, 133, 22, 23, 24, 171, 172, 173, 174, 175, 176, 177, 178, 179, 180, 181, 182, 183, 184, 185, 186, 187, 188, 189, 190, 191, 192, 193, 194, 195, 196, 197, 198, 199, 200, 201, 202] (by decide +kernel) (by decide +kernel)
set_option maxRecDepth 20000 in
theorem gX2_passDraw_X2_drop : GoodIn wsX2_passDraw (wsV RX2 122 RX2 yX2_drop wsX2_drop) := goodIn_app (goodIn_of _ (by decide +kernel)) ggX2_passDraw_X2_drop
set_option maxRecDepth 20000 in
theorem ggX2_passDraw_X2_canReturn : GoodIn wsX2_passDraw wsX2_canReturn := goodIn_r _ [159, 160, 41, 31, 32, 7, 33, 34, 42, 43, 44, 171, 172, 173, 174, 175, 176, 177, 178, 179, 180, 181, 182] (by decide +kernel) (by decide +kernel)
set_option maxRecDepth 20000 in
theorem gX2_passDraw_X2_canReturn : GoodIn wsX2_passDraw (wsV RX2 126 RX2 yX2_canReturn wsX2_canReturn) := goodIn_app (goodIn_of _ (by decide +kernel)) ggX2_passDraw_X2_canReturn
set_option maxRecDepth 20000 in
theorem ggX2_passDraw_X4_seat : GoodIn wsX2_passDraw wsX4_seat := goodIn_r _ [164, 142, 29, 147, 134, 165, 166, 86, 43, 87, 171, 172, 173, 174, 175, 176, 177, 178, 179, 180, 181, 182] (by decide +kernel) (by decide +kernel)
set_option maxRecDepth 20000 in
theorem gX2_passDraw_X4_seat : GoodIn wsX2_passDraw (wsV RX2 132 RX4 yX4_seat wsX4_seat) := goodIn_app (goodIn_of _ (by decide +kernel)) ggX2_passDraw_X4_seat
set_option maxRecDepth 20000 in
theorem ggX2_passDraw_X2_passDay : GoodIn wsX2_passDraw wsX2_passDay := goodIn_r _ [170, 160, 3, 25, 26, 27, 7, 28, 29, 30, 31, 32, 33, 34, 4, 5, 6, 8, 9, 10, 11, 12, 13, 14, 15, 16, 17, 18, 19, 20, 21, 22, 23, 24, 35, 36, 37, 38, 39, 40, 41, 42, 43, 44, 45, 46, 47, 48, 49, 50, 51, 52, 53, 54, 55, 56, 57, 58, 59, 60, 61, 62, 63, 64, 65, 66, 67, 68, 69, 70, 71, 72, 73, 74, 75, 76, 77, 78, 79, 80, 81, 82, 83, 84, 85, 86, 87, 88, 89, 90, 91, 92, 93, 94, 95, 96, 97, 98, 99, 100, 101, 102, 103, 104, 105, 106, 107, 108, 109, 110, 111, 112, 113, 114, 115, 116, 117, 118, 119, 120, 121, 122, 123, 124, 125, 126, 127, 128, 129, 130, 131, 132, 133, 134, 135, 136, 137, 138, 139, 140, 141, 142, 143, 144, 145, 146, 147, 171, 172, 173, 174, 175, 176, 177, 178, 179, 180, 181, 182, 183, 184, 185, 186, 187, 188, 189, 190, 191, 192, 193, 194, 195, 196, 197, 198, 199, 200, 201, 202, 203, 204, 205, 206, 207, 208, 209, 210, 211, 212, 213, 214, 215, 216] (by decide +kernel) (by decide +kernel)
set_option maxRecDepth 20000 in
theorem gX2_passDraw_X2_passDay : GoodIn wsX2_passDraw (wsV RX2 136 RX2 yX2_passDay wsX2_passDay) := goodIn_app (goodIn_of _ (by decide +kernel)) ggX2_passDraw_X2_passDay
theorem dX2_passDraw_0 : decode cX2_passDraw 0 = .ok (.aload_n 1, 1) := by decide +kernel
theorem dX2_passDraw_1 : decode cX2_passDraw 1 = .ok (.invokevirtual 105, 3) := by decide +kernel
theorem dX2_passDraw_4 : decode cX2_passDraw 4 = .ok (.istore_n 2, 1) := by decide +kernel
theorem dX2_passDraw_5 : decode cX2_passDraw 5 = .ok (.aload_n 1, 1) := by decide +kernel
theorem dX2_passDraw_6 : decode cX2_passDraw 6 = .ok (.getfield 115, 3) := by decide +kernel
theorem dX2_passDraw_9 : decode cX2_passDraw 9 = .ok (.ifCond .le 12, 3) := by decide +kernel
theorem dX2_passDraw_12 : decode cX2_passDraw 12 = .ok (.iload_n 2, 1) := by decide +kernel
theorem dX2_passDraw_13 : decode cX2_passDraw 13 = .ok (.aload_n 1, 1) := by decide +kernel
theorem dX2_passDraw_14 : decode cX2_passDraw 14 = .ok (.getfield 115, 3) := by decide +kernel
theorem dX2_passDraw_17 : decode cX2_passDraw 17 = .ok (.irem, 1) := by decide +kernel
theorem dX2_passDraw_18 : decode cX2_passDraw 18 = .ok (.goto 4, 3) := by decide +kernel
theorem dX2_passDraw_21 : decode cX2_passDraw 21 = .ok (.iconst (-1), 1) := by decide +kernel
theorem dX2_passDraw_22 : decode cX2_passDraw 22 = .ok (.istore_n 3, 1) := by decide +kernel
theorem dX2_passDraw_23 : decode cX2_passDraw 23 = .ok (.iload_n 2, 1) := by decide +kernel
theorem dX2_passDraw_24 : decode cX2_passDraw 24 = .ok (.bipush 6, 2) := by decide +kernel
theorem dX2_passDraw_26 : decode cX2_passDraw 26 = .ok (.idiv, 1) := by decide +kernel
theorem dX2_passDraw_27 : decode cX2_passDraw 27 = .ok (.bipush 12, 2) := by decide +kernel
theorem dX2_passDraw_29 : decode cX2_passDraw 29 = .ok (.irem, 1) := by decide +kernel
theorem dX2_passDraw_30 : decode cX2_passDraw 30 = .ok (.istore 4, 2) := by decide +kernel
theorem dX2_passDraw_32 : decode cX2_passDraw 32 = .ok (.iload_n 2, 1) := by decide +kernel
theorem dX2_passDraw_33 : decode cX2_passDraw 33 = .ok (.bipush 6, 2) := by decide +kernel
theorem dX2_passDraw_35 : decode cX2_passDraw 35 = .ok (.irem, 1) := by decide +kernel
theorem dX2_passDraw_36 : decode cX2_passDraw 36 = .ok (.tableswitch 91 0 3 #[32, 32, 42, 64], 32) := by decide +kernel
theorem dX2_passDraw_68 : decode cX2_passDraw 68 = .ok (.aload_n 0, 1) := by decide +kernel
theorem dX2_passDraw_69 : decode cX2_passDraw 69 = .ok (.aload_n 1, 1) := by decide +kernel
theorem dX2_passDraw_70 : decode cX2_passDraw 70 = .ok (.iload_n 3, 1) := by decide +kernel
theorem dX2_passDraw_71 : decode cX2_passDraw 71 = .ok (.invokevirtual 109, 3) := by decide +kernel
theorem dX2_passDraw_74 : decode cX2_passDraw 74 = .ok (.pop, 1) := by decide +kernel
theorem dX2_passDraw_75 : decode cX2_passDraw 75 = .ok (.goto 68, 3) := by decide +kernel
theorem dX2_passDraw_78 : decode cX2_passDraw 78 = .ok (.aload_n 0, 1) := by decide +kernel
theorem dX2_passDraw_79 : decode cX2_passDraw 79 = .ok (.aload_n 1, 1) := by decide +kernel
theorem dX2_passDraw_80 : decode cX2_passDraw 80 = .ok (.iload_n 3, 1) := by decide +kernel
theorem dX2_passDraw_81 : decode cX2_passDraw 81 = .ok (.iload 4, 2) := by decide +kernel
theorem dX2_passDraw_83 : decode cX2_passDraw 83 = .ok (.invokevirtual 118, 3) := by decide +kernel
theorem dX2_passDraw_86 : decode cX2_passDraw 86 = .ok (.ifCond .eq 57, 3) := by decide +kernel
theorem dX2_passDraw_89 : decode cX2_passDraw 89 = .ok (.aload_n 0, 1) := by decide +kernel
theorem dX2_passDraw_90 : decode cX2_passDraw 90 = .ok (.aload_n 1, 1) := by decide +kernel
theorem dX2_passDraw_91 : decode cX2_passDraw 91 = .ok (.iload_n 3, 1) := by decide +kernel
theorem dX2_passDraw_92 : decode cX2_passDraw 92 = .ok (.iload 4, 2) := by decide +kernel
theorem dX2_passDraw_94 : decode cX2_passDraw 94 = .ok (.invokevirtual 122, 3) := by decide +kernel
theorem dX2_passDraw_97 : decode cX2_passDraw 97 = .ok (.goto 46, 3) := by decide +kernel
theorem dX2_passDraw_100 : decode cX2_passDraw 100 = .ok (.aload_n 0, 1) := by decide +kernel
theorem dX2_passDraw_101 : decode cX2_passDraw 101 = .ok (.aload_n 1, 1) := by decide +kernel
theorem dX2_passDraw_102 : decode cX2_passDraw 102 = .ok (.iload_n 3, 1) := by decide +kernel
theorem dX2_passDraw_103 : decode cX2_passDraw 103 = .ok (.iload 4, 2) := by decide +kernel
theorem dX2_passDraw_105 : decode cX2_passDraw 105 = .ok (.invokevirtual 126, 3) := by decide +kernel
theorem dX2_passDraw_108 : decode cX2_passDraw 108 = .ok (.ifCond .eq 35, 3) := by decide +kernel
theorem dX2_passDraw_111 : decode cX2_passDraw 111 = .ok (.aload_n 1, 1) := by decide +kernel
theorem dX2_passDraw_112 : decode cX2_passDraw 112 = .ok (.iload_n 3, 1) := by decide +kernel
theorem dX2_passDraw_113 : decode cX2_passDraw 113 = .ok (.iload 4, 2) := by decide +kernel
theorem dX2_passDraw_115 : decode cX2_passDraw 115 = .ok (.aload_n 1, 1) := by decide +kernel
theorem dX2_passDraw_116 : decode cX2_passDraw 116 = .ok (.getfield 129, 3) := by decide +kernel
theorem dX2_passDraw_119 : decode cX2_passDraw 119 = .ok (.iload_n 3, 1) := by decide +kernel
theorem dX2_passDraw_120 : decode cX2_passDraw 120 = .ok (.iaload, 1) := by decide +kernel
theorem dX2_passDraw_121 : decode cX2_passDraw 121 = .ok (.invokevirtual 132, 3) := by decide +kernel
theorem dX2_passDraw_124 : decode cX2_passDraw 124 = .ok (.goto 19, 3) := by decide +kernel
theorem dX2_passDraw_127 : decode cX2_passDraw 127 = .ok (.aload_n 1, 1) := by decide +kernel
theorem dX2_passDraw_128 : decode cX2_passDraw 128 = .ok (.getfield 112, 3) := by decide +kernel
theorem dX2_passDraw_131 : decode cX2_passDraw 131 = .ok (.sipush 9999, 3) := by decide +kernel
theorem dX2_passDraw_134 : decode cX2_passDraw 134 = .ok (.if_icmp .ge 9, 3) := by decide +kernel
theorem dX2_passDraw_137 : decode cX2_passDraw 137 = .ok (.aload_n 0, 1) := by decide +kernel
theorem dX2_passDraw_138 : decode cX2_passDraw 138 = .ok (.aload_n 1, 1) := by decide +kernel
theorem dX2_passDraw_139 : decode cX2_passDraw 139 = .ok (.invokevirtual 136, 3) := by decide +kernel
theorem dX2_passDraw_142 : decode cX2_passDraw 142 = .ok (.pop, 1) := by decide +kernel
theorem dX2_passDraw_143 : decode cX2_passDraw 143 = .ok (.return_, 1) := by decide +kernel
theorem dX3_init_0 : decode cX3_init 0 = .ok (.aload_n 0, 1) := by decide +kernel
theorem dX3_init_1 : decode cX3_init 1 = .ok (.invokespecial 3, 3) := by decide +kernel
theorem dX3_init_4 : decode cX3_init 4 = .ok (.aload_n 0, 1) := by decide +kernel
theorem dX3_init_5 : decode cX3_init 5 = .ok (.iconst 5, 1) := by decide +kernel
theorem dX3_init_6 : decode cX3_init 6 = .ok (.newarray .int, 2) := by decide +kernel
theorem dX3_init_8 : decode cX3_init 8 = .ok (.putfield 9, 3) := by decide +kernel
theorem dX3_init_11 : decode cX3_init 11 = .ok (.aload_n 0, 1) := by decide +kernel
theorem dX3_init_12 : decode cX3_init 12 = .ok (.iconst 5, 1) := by decide +kernel
theorem dX3_init_13 : decode cX3_init 13 = .ok (.newarray .int, 2) := by decide +kernel
theorem dX3_init_15 : decode cX3_init 15 = .ok (.putfield 15, 3) := by decide +kernel
theorem dX3_init_18 : decode cX3_init 18 = .ok (.aload_n 0, 1) := by decide +kernel
theorem dX3_init_19 : decode cX3_init 19 = .ok (.aload_n 1, 1) := by decide +kernel
theorem dX3_init_20 : decode cX3_init 20 = .ok (.putfield 18, 3) := by decide +kernel
theorem dX3_init_23 : decode cX3_init 23 = .ok (.return_, 1) := by decide +kernel
set_option maxRecDepth 20000 in
theorem ggX3_inRings_X3_seekRings : GoodIn wsX3_inRings wsX3_seekRings := goodIn_r _ [6, 7, 1, 8, 9, 10, 11, 5, 12, 13, 14, 15, 16, 17, 18, 19, 20, 21, 22, 23, 24, 25, 26, 27, 28, 29, 30, 31, 32, 33, 34, 35, 36, 37, 38, 39, 40, 41, 42, 43, 44, 45, 46, 47, 48, 49, 50, 51] (by decide +kernel) (by decide +kernel)
set_option maxRecDepth 20000 in
theorem gX3_inRings_X3_seekRings : GoodIn wsX3_inRings (wsV RX3 22 RX3 yX3_seekRings wsX3_seekRings) := goodIn_app (goodIn_of _ (by decide +kernel)) ggX3_inRings_X3_seekRings
theorem dX3_inRings_0 : decode cX3_inRings 0 = .ok (.aload_n 0, 1) := by decide +kernel
theorem dX3_inRings_1 : decode cX3_inRings 1 = .ok (.invokevirtual 22, 3) := by decide +kernel
theorem dX3_inRings_4 : decode cX3_inRings 4 = .ok (.iconst 0, 1) := by decide +kernel
theorem dX3_inRings_5 : decode cX3_inRings 5 = .ok (.istore_n 1, 1) := by decide +kernel
theorem dX3_inRings_6 : decode cX3_inRings 6 = .ok (.iconst 0, 1) := by decide +kernel
theorem dX3_inRings_7 : decode cX3_inRings 7 = .ok (.istore_n 2, 1) := by decide +kernel
theorem dX3_inRings_8 : decode cX3_inRings 8 = .ok (.iload_n 2, 1) := by decide +kernel
theorem dX3_inRings_9 : decode cX3_inRings 9 = .ok (.iconst 5, 1) := by decide +kernel
theorem dX3_inRings_10 : decode cX3_inRings 10 = .ok (.if_icmp .ge 25, 3) := by decide +kernel
theorem dX3_inRings_13 : decode cX3_inRings 13 = .ok (.aload_n 0, 1) := by decide +kernel
theorem dX3_inRings_14 : decode cX3_inRings 14 = .ok (.getfield 15, 3) := by decide +kernel
theorem dX3_inRings_17 : decode cX3_inRings 17 = .ok (.iload_n 2, 1) := by decide +kernel
theorem dX3_inRings_18 : decode cX3_inRings 18 = .ok (.iaload, 1) := by decide +kernel
theorem dX3_inRings_19 : decode cX3_inRings 19 = .ok (.iconst (-1), 1) := by decide +kernel
theorem dX3_inRings_20 : decode cX3_inRings 20 = .ok (.if_icmp .eq 9, 3) := by decide +kernel
theorem dX3_inRings_23 : decode cX3_inRings 23 = .ok (.iload_n 1, 1) := by decide +kernel
theorem dX3_inRings_24 : decode cX3_inRings 24 = .ok (.iconst 1, 1) := by decide +kernel
theorem dX3_inRings_25 : decode cX3_inRings 25 = .ok (.iload_n 2, 1) := by decide +kernel
theorem dX3_inRings_26 : decode cX3_inRings 26 = .ok (.ishl, 1) := by decide +kernel
theorem dX3_inRings_27 : decode cX3_inRings 27 = .ok (.ior, 1) := by decide +kernel
theorem dX3_inRings_28 : decode cX3_inRings 28 = .ok (.istore_n 1, 1) := by decide +kernel
theorem dX3_inRings_29 : decode cX3_inRings 29 = .ok (.iinc 2 1, 3) := by decide +kernel
theorem dX3_inRings_32 : decode cX3_inRings 32 = .ok (.goto (-24), 3) := by decide +kernel
theorem dX3_inRings_35 : decode cX3_inRings 35 = .ok (.iload_n 1, 1) := by decide +kernel
theorem dX3_inRings_36 : decode cX3_inRings 36 = .ok (.ireturn, 1) := by decide +kernel
set_option maxRecDepth 20000 in
theorem ggX3_giver_X3_seekRings : GoodIn wsX3_giver wsX3_seekRings := goodIn_r _ [6, 7, 1, 8, 9, 10, 11, 5, 12, 13, 14, 15, 16, 17, 18, 19, 20, 21, 22, 23, 24, 25, 26, 27, 28, 29, 30, 31, 32, 33, 34, 35, 36, 37, 38, 39, 40, 41, 42, 43, 44, 45, 46, 47, 48, 49, 50, 51] (by decide +kernel) (by decide +kernel)
set_option maxRecDepth 20000 in
theorem gX3_giver_X3_seekRings : GoodIn wsX3_giver (wsV RX3 22 RX3 yX3_seekRings wsX3_seekRings) := goodIn_app (goodIn_of _ (by decide +kernel)) ggX3_giver_X3_seekRings
set_option maxRecDepth 20000 in
theorem ggX3_giver_X11_isPerson : GoodIn wsX3_giver wsX11_isPerson := goodIn_r _ [35] (by decide +kernel) (by decide +kernel)
set_option maxRecDepth 20000 in
theorem gX3_giver_X11_isPerson_n25 : GoodIn wsX3_giver (wsX11_isPerson) := ggX3_giver_X11_isPerson
theorem dX3_giver_0 : decode cX3_giver 0 = .ok (.aload_n 0, 1) := by decide +kernel
theorem dX3_giver_1 : decode cX3_giver 1 = .ok (.invokevirtual 22, 3) := by decide +kernel
theorem dX3_giver_4 : decode cX3_giver 4 = .ok (.iload_n 1, 1) := by decide +kernel
theorem dX3_giver_5 : decode cX3_giver 5 = .ok (.invokestatic 25, 3) := by decide +kernel
theorem dX3_giver_8 : decode cX3_giver 8 = .ok (.ifCond .eq 12, 3) := by decide +kernel
theorem dX3_giver_11 : decode cX3_giver 11 = .ok (.aload_n 0, 1) := by decide +kernel
theorem dX3_giver_12 : decode cX3_giver 12 = .ok (.getfield 15, 3) := by decide +kernel
theorem dX3_giver_15 : decode cX3_giver 15 = .ok (.iload_n 1, 1) := by decide +kernel
theorem dX3_giver_16 : decode cX3_giver 16 = .ok (.iaload, 1) := by decide +kernel
theorem dX3_giver_17 : decode cX3_giver 17 = .ok (.goto 4, 3) := by decide +kernel
theorem dX3_giver_20 : decode cX3_giver 20 = .ok (.iconst (-1), 1) := by decide +kernel
theorem dX3_giver_21 : decode cX3_giver 21 = .ok (.ireturn, 1) := by decide +kernel
set_option maxRecDepth 20000 in
theorem ggX3_seekRings_X3_place : GoodIn wsX3_seekRings wsX3_place := goodIn_r _ [8, 1, 9, 10, 11, 12, 13, 7, 14, 3, 2, 15, 16, 17, 18, 19, 20, 21, 22, 23, 24, 25, 26, 27, 28, 4, 5, 6, 29, 30, 31, 32, 33, 34, 35, 36, 37, 38, 39, 40, 41, 42, 43, 44, 45, 46, 47] (by decide +kernel) (by decide +kernel)
set_option maxRecDepth 20000 in
theorem gX3_seekRings_X3_place : GoodIn wsX3_seekRings (wsV RX3 33 RX3 yX3_place wsX3_place) := goodIn_app (goodIn_of _ (by decide +kernel)) ggX3_seekRings_X3_place
theorem dX3_seekRings_0 : decode cX3_seekRings 0 = .ok (.iconst 0, 1) := by decide +kernel
theorem dX3_seekRings_1 : decode cX3_seekRings 1 = .ok (.istore_n 1, 1) := by decide +kernel
theorem dX3_seekRings_2 : decode cX3_seekRings 2 = .ok (.iload_n 1, 1) := by decide +kernel
theorem dX3_seekRings_3 : decode cX3_seekRings 3 = .ok (.iconst 5, 1) := by decide +kernel
theorem dX3_seekRings_4 : decode cX3_seekRings 4 = .ok (.if_icmp .ge 23, 3) := by decide +kernel
theorem dX3_seekRings_7 : decode cX3_seekRings 7 = .ok (.aload_n 0, 1) := by decide +kernel
theorem dX3_seekRings_8 : decode cX3_seekRings 8 = .ok (.getfield 9, 3) := by decide +kernel
theorem dX3_seekRings_11 : decode cX3_seekRings 11 = .ok (.iload_n 1, 1) := by decide +kernel
theorem dX3_seekRings_12 : decode cX3_seekRings 12 = .ok (.iconst (-1), 1) := by decide +kernel
theorem dX3_seekRings_13 : decode cX3_seekRings 13 = .ok (.iastore, 1) := by decide +kernel
theorem dX3_seekRings_14 : decode cX3_seekRings 14 = .ok (.aload_n 0, 1) := by decide +kernel
theorem dX3_seekRings_15 : decode cX3_seekRings 15 = .ok (.getfield 15, 3) := by decide +kernel
theorem dX3_seekRings_18 : decode cX3_seekRings 18 = .ok (.iload_n 1, 1) := by decide +kernel
theorem dX3_seekRings_19 : decode cX3_seekRings 19 = .ok (.iconst (-1), 1) := by decide +kernel
theorem dX3_seekRings_20 : decode cX3_seekRings 20 = .ok (.iastore, 1) := by decide +kernel
theorem dX3_seekRings_21 : decode cX3_seekRings 21 = .ok (.iinc 1 1, 3) := by decide +kernel
theorem dX3_seekRings_24 : decode cX3_seekRings 24 = .ok (.goto (-22), 3) := by decide +kernel
theorem dX3_seekRings_27 : decode cX3_seekRings 27 = .ok (.aload_n 0, 1) := by decide +kernel
theorem dX3_seekRings_28 : decode cX3_seekRings 28 = .ok (.iconst 0, 1) := by decide +kernel
theorem dX3_seekRings_29 : decode cX3_seekRings 29 = .ok (.putfield 29, 3) := by decide +kernel
theorem dX3_seekRings_32 : decode cX3_seekRings 32 = .ok (.aload_n 0, 1) := by decide +kernel
theorem dX3_seekRings_33 : decode cX3_seekRings 33 = .ok (.iconst 0, 1) := by decide +kernel
theorem dX3_seekRings_34 : decode cX3_seekRings 34 = .ok (.iconst 0, 1) := by decide +kernel
theorem dX3_seekRings_35 : decode cX3_seekRings 35 = .ok (.invokevirtual 33, 3) := by decide +kernel
theorem dX3_seekRings_38 : decode cX3_seekRings 38 = .ok (.return_, 1) := by decide +kernel
set_option maxRecDepth 20000 in
theorem ggX3_place_X3_weigh : GoodIn wsX3_place wsX3_weigh := goodIn_r _ [8, 9, 1, 10, 11, 12, 13, 14, 15, 16, 17, 7, 18, 31, 32, 33, 34] (by decide +kernel) (by decide +kernel)
set_option maxRecDepth 20000 in
theorem gX3_place_X3_weigh : GoodIn wsX3_place (wsV RX3 37 RX3 yX3_weigh wsX3_weigh) := goodIn_app (goodIn_of _ (by decide +kernel)) ggX3_place_X3_weigh
set_option maxRecDepth 20000 in
theorem ggX3_place_X11_has : GoodIn wsX3_place wsX11_has := goodIn_r _ [21] (by decide +kernel) (by decide +kernel)
set_option maxRecDepth 20000 in
theorem gX3_place_X11_has_n46 : GoodIn wsX3_place (wsX11_has) := ggX3_place_X11_has
set_option maxRecDepth 20000 in
theorem ggX3_place_X3_placeWith : GoodIn wsX3_place wsX3_placeWith := goodIn_r _ [28, 1, 2, 3, 29, 20, 30, 19, 21, 25, 26, 27, 7, 0, 4, 5, 6, 8, 9, 10, 11, 12, 13, 14, 15, 16, 17, 18, 22, 23, 24, 31, 32, 33, 34, 35, 36, 37, 38, 39, 40, 41, 42, 43, 44, 45, 46] (by decide +kernel) (by decide +kernel)
set_option maxRecDepth 20000 in
theorem gX3_place_X3_placeWith : GoodIn wsX3_place (wsV RX3 50 RX3 yX3_placeWith wsX3_placeWith) := goodIn_app (goodIn_of _ (by decide +kernel)) ggX3_place_X3_placeWith
set_option maxRecDepth 20000 in
theorem ggX3_place_X3_place : GoodIn wsX3_place wsX3_place := goodIn_r _ [0, 1, 2, 3, 4, 5, 6, 7, 8, 9, 10, 11, 12, 13, 14, 15, 16, 17, 18, 19, 20, 21, 22, 23, 24, 25, 26, 27, 28, 29, 30, 31, 32, 33, 34, 35, 36, 37, 38, 39, 40, 41, 42, 43, 44, 45, 46] (by decide +kernel) (by decide +kernel)
set_option maxRecDepth 20000 in
theorem gX3_place_X3_place : GoodIn wsX3_place (wsV RX3 33 RX3 yX3_place wsX3_place) := goodIn_app (goodIn_of _ (by decide +kernel)) ggX3_place_X3_place
theorem dX3_place_0 : decode cX3_place 0 = .ok (.iload_n 1, 1) := by decide +kernel
theorem dX3_place_1 : decode cX3_place 1 = .ok (.ifCond .lt 8, 3) := by decide +kernel
theorem dX3_place_4 : decode cX3_place 4 = .ok (.iload_n 1, 1) := by decide +kernel
theorem dX3_place_5 : decode cX3_place 5 = .ok (.iconst 5, 1) := by decide +kernel
theorem dX3_place_6 : decode cX3_place 6 = .ok (.if_icmp .lt 9, 3) := by decide +kernel
theorem dX3_place_9 : decode cX3_place 9 = .ok (.aload_n 0, 1) := by decide +kernel
theorem dX3_place_10 : decode cX3_place 10 = .ok (.iload_n 2, 1) := by decide +kernel
theorem dX3_place_11 : decode cX3_place 11 = .ok (.invokevirtual 37, 3) := by decide +kernel
theorem dX3_place_14 : decode cX3_place 14 = .ok (.return_, 1) := by decide +kernel
theorem dX3_place_15 : decode cX3_place 15 = .ok (.aload_n 0, 1) := by decide +kernel
theorem dX3_place_16 : decode cX3_place 16 = .ok (.getfield 9, 3) := by decide +kernel
theorem dX3_place_19 : decode cX3_place 19 = .ok (.iload_n 1, 1) := by decide +kernel
theorem dX3_place_20 : decode cX3_place 20 = .ok (.iaload, 1) := by decide +kernel
theorem dX3_place_21 : decode cX3_place 21 = .ok (.iconst (-1), 1) := by decide +kernel
theorem dX3_place_22 : decode cX3_place 22 = .ok (.if_icmp .ne 51, 3) := by decide +kernel
theorem dX3_place_25 : decode cX3_place 25 = .ok (.iload_n 1, 1) := by decide +kernel
theorem dX3_place_26 : decode cX3_place 26 = .ok (.iconst 1, 1) := by decide +kernel
theorem dX3_place_27 : decode cX3_place 27 = .ok (.iadd, 1) := by decide +kernel
theorem dX3_place_28 : decode cX3_place 28 = .ok (.istore_n 3, 1) := by decide +kernel
theorem dX3_place_29 : decode cX3_place 29 = .ok (.iload_n 3, 1) := by decide +kernel
theorem dX3_place_30 : decode cX3_place 30 = .ok (.iconst 5, 1) := by decide +kernel
theorem dX3_place_31 : decode cX3_place 31 = .ok (.if_icmp .ge 42, 3) := by decide +kernel
theorem dX3_place_34 : decode cX3_place 34 = .ok (.aload_n 0, 1) := by decide +kernel
theorem dX3_place_35 : decode cX3_place 35 = .ok (.getfield 9, 3) := by decide +kernel
theorem dX3_place_38 : decode cX3_place 38 = .ok (.iload_n 3, 1) := by decide +kernel
theorem dX3_place_39 : decode cX3_place 39 = .ok (.iaload, 1) := by decide +kernel
theorem dX3_place_40 : decode cX3_place 40 = .ok (.iconst (-1), 1) := by decide +kernel
theorem dX3_place_41 : decode cX3_place 41 = .ok (.if_icmp .ne 26, 3) := by decide +kernel
theorem dX3_place_44 : decode cX3_place 44 = .ok (.aload_n 0, 1) := by decide +kernel
theorem dX3_place_45 : decode cX3_place 45 = .ok (.getfield 18, 3) := by decide +kernel
theorem dX3_place_48 : decode cX3_place 48 = .ok (.getfield 41, 3) := by decide +kernel
theorem dX3_place_51 : decode cX3_place 51 = .ok (.iload_n 1, 1) := by decide +kernel
theorem dX3_place_52 : decode cX3_place 52 = .ok (.iaload, 1) := by decide +kernel
theorem dX3_place_53 : decode cX3_place 53 = .ok (.iload_n 3, 1) := by decide +kernel
theorem dX3_place_54 : decode cX3_place 54 = .ok (.invokestatic 46, 3) := by decide +kernel
theorem dX3_place_57 : decode cX3_place 57 = .ok (.ifCond .eq 10, 3) := by decide +kernel
theorem dX3_place_60 : decode cX3_place 60 = .ok (.aload_n 0, 1) := by decide +kernel
theorem dX3_place_61 : decode cX3_place 61 = .ok (.iload_n 1, 1) := by decide +kernel
theorem dX3_place_62 : decode cX3_place 62 = .ok (.iload_n 3, 1) := by decide +kernel
theorem dX3_place_63 : decode cX3_place 63 = .ok (.iload_n 2, 1) := by decide +kernel
theorem dX3_place_64 : decode cX3_place 64 = .ok (.invokevirtual 50, 3) := by decide +kernel
theorem dX3_place_67 : decode cX3_place 67 = .ok (.iinc 3 1, 3) := by decide +kernel
theorem dX3_place_70 : decode cX3_place 70 = .ok (.goto (-41), 3) := by decide +kernel
theorem dX3_place_73 : decode cX3_place 73 = .ok (.aload_n 0, 1) := by decide +kernel
theorem dX3_place_74 : decode cX3_place 74 = .ok (.iload_n 1, 1) := by decide +kernel
theorem dX3_place_75 : decode cX3_place 75 = .ok (.iconst 1, 1) := by decide +kernel
theorem dX3_place_76 : decode cX3_place 76 = .ok (.iadd, 1) := by decide +kernel
theorem dX3_place_77 : decode cX3_place 77 = .ok (.iload_n 2, 1) := by decide +kernel
theorem dX3_place_78 : decode cX3_place 78 = .ok (.invokevirtual 33, 3) := by decide +kernel
theorem dX3_place_81 : decode cX3_place 81 = .ok (.return_, 1) := by decide +kernel
set_option maxRecDepth 20000 in
theorem ggX3_placeWith_X11_isPerson : GoodIn wsX3_placeWith wsX11_isPerson := goodIn_r _ [6] (by decide +kernel) (by decide +kernel)
set_option maxRecDepth 20000 in
theorem gX3_placeWith_X11_isPerson_n25 : GoodIn wsX3_placeWith (wsX11_isPerson) := ggX3_placeWith_X11_isPerson
set_option maxRecDepth 20000 in
theorem ggX3_placeWith_X11_has : GoodIn wsX3_placeWith wsX11_has := goodIn_r _ [8] (by decide +kernel) (by decide +kernel)
set_option maxRecDepth 20000 in
theorem gX3_placeWith_X11_has_n46 : GoodIn wsX3_placeWith (wsX11_has) := ggX3_placeWith_X11_has
set_option maxRecDepth 20000 in
theorem ggX3_placeWith_X3_place : GoodIn wsX3_placeWith wsX3_place := goodIn_r _ [13, 1, 2, 3, 14, 15, 16, 12, 17, 18, 19, 20, 21, 22, 23, 24, 25, 26, 27, 7, 5, 8, 28, 29, 30, 9, 10, 11, 0, 4, 6, 31, 32, 33, 34, 35, 36, 37, 38, 39, 40, 41, 42, 43, 44, 45, 46] (by decide +kernel) (by decide +kernel)
set_option maxRecDepth 20000 in
theorem gX3_placeWith_X3_place : GoodIn wsX3_placeWith (wsV RX3 33 RX3 yX3_place wsX3_place) := goodIn_app (goodIn_of _ (by decide +kernel)) ggX3_placeWith_X3_place
theorem dX3_placeWith_0 : decode cX3_placeWith 0 = .ok (.iload_n 1, 1) := by decide +kernel
theorem dX3_placeWith_1 : decode cX3_placeWith 1 = .ok (.invokestatic 25, 3) := by decide +kernel
theorem dX3_placeWith_4 : decode cX3_placeWith 4 = .ok (.ifCond .eq 10, 3) := by decide +kernel
theorem dX3_placeWith_7 : decode cX3_placeWith 7 = .ok (.iload_n 2, 1) := by decide +kernel
theorem dX3_placeWith_8 : decode cX3_placeWith 8 = .ok (.invokestatic 25, 3) := by decide +kernel
theorem dX3_placeWith_11 : decode cX3_placeWith 11 = .ok (.ifCond .ne 4, 3) := by decide +kernel
theorem dX3_placeWith_14 : decode cX3_placeWith 14 = .ok (.return_, 1) := by decide +kernel
theorem dX3_placeWith_15 : decode cX3_placeWith 15 = .ok (.aload_n 0, 1) := by decide +kernel
theorem dX3_placeWith_16 : decode cX3_placeWith 16 = .ok (.getfield 9, 3) := by decide +kernel
theorem dX3_placeWith_19 : decode cX3_placeWith 19 = .ok (.iload_n 1, 1) := by decide +kernel
theorem dX3_placeWith_20 : decode cX3_placeWith 20 = .ok (.iload_n 2, 1) := by decide +kernel
theorem dX3_placeWith_21 : decode cX3_placeWith 21 = .ok (.iastore, 1) := by decide +kernel
theorem dX3_placeWith_22 : decode cX3_placeWith 22 = .ok (.aload_n 0, 1) := by decide +kernel
theorem dX3_placeWith_23 : decode cX3_placeWith 23 = .ok (.getfield 18, 3) := by decide +kernel
theorem dX3_placeWith_26 : decode cX3_placeWith 26 = .ok (.getfield 41, 3) := by decide +kernel
theorem dX3_placeWith_29 : decode cX3_placeWith 29 = .ok (.iload_n 2, 1) := by decide +kernel
theorem dX3_placeWith_30 : decode cX3_placeWith 30 = .ok (.iaload, 1) := by decide +kernel
theorem dX3_placeWith_31 : decode cX3_placeWith 31 = .ok (.iload_n 1, 1) := by decide +kernel
theorem dX3_placeWith_32 : decode cX3_placeWith 32 = .ok (.invokestatic 46, 3) := by decide +kernel
theorem dX3_placeWith_35 : decode cX3_placeWith 35 = .ok (.ifCond .eq 20, 3) := by decide +kernel
theorem dX3_placeWith_38 : decode cX3_placeWith 38 = .ok (.aload_n 0, 1) := by decide +kernel
theorem dX3_placeWith_39 : decode cX3_placeWith 39 = .ok (.getfield 9, 3) := by decide +kernel
theorem dX3_placeWith_42 : decode cX3_placeWith 42 = .ok (.iload_n 2, 1) := by decide +kernel
theorem dX3_placeWith_43 : decode cX3_placeWith 43 = .ok (.iload_n 1, 1) := by decide +kernel
theorem dX3_placeWith_44 : decode cX3_placeWith 44 = .ok (.iastore, 1) := by decide +kernel
theorem dX3_placeWith_45 : decode cX3_placeWith 45 = .ok (.aload_n 0, 1) := by decide +kernel
theorem dX3_placeWith_46 : decode cX3_placeWith 46 = .ok (.iload_n 1, 1) := by decide +kernel
theorem dX3_placeWith_47 : decode cX3_placeWith 47 = .ok (.iconst 1, 1) := by decide +kernel
theorem dX3_placeWith_48 : decode cX3_placeWith 48 = .ok (.iadd, 1) := by decide +kernel
theorem dX3_placeWith_49 : decode cX3_placeWith 49 = .ok (.iload_n 3, 1) := by decide +kernel
theorem dX3_placeWith_50 : decode cX3_placeWith 50 = .ok (.iconst 2, 1) := by decide +kernel
theorem dX3_placeWith_51 : decode cX3_placeWith 51 = .ok (.iadd, 1) := by decide +kernel
theorem dX3_placeWith_52 : decode cX3_placeWith 52 = .ok (.invokevirtual 33, 3) := by decide +kernel
theorem dX3_placeWith_55 : decode cX3_placeWith 55 = .ok (.iload_n 1, 1) := by decide +kernel
theorem dX3_placeWith_56 : decode cX3_placeWith 56 = .ok (.iconst 1, 1) := by decide +kernel
theorem dX3_placeWith_57 : decode cX3_placeWith 57 = .ok (.iadd, 1) := by decide +kernel
theorem dX3_placeWith_58 : decode cX3_placeWith 58 = .ok (.istore 4, 2) := by decide +kernel
theorem dX3_placeWith_60 : decode cX3_placeWith 60 = .ok (.iload 4, 2) := by decide +kernel
theorem dX3_placeWith_62 : decode cX3_placeWith 62 = .ok (.iconst 5, 1) := by decide +kernel
theorem dX3_placeWith_63 : decode cX3_placeWith 63 = .ok (.if_icmp .ge 94, 3) := by decide +kernel
theorem dX3_placeWith_66 : decode cX3_placeWith 66 = .ok (.iload 4, 2) := by decide +kernel
theorem dX3_placeWith_68 : decode cX3_placeWith 68 = .ok (.iload_n 2, 1) := by decide +kernel
theorem dX3_placeWith_69 : decode cX3_placeWith 69 = .ok (.if_icmp .eq 82, 3) := by decide +kernel
theorem dX3_placeWith_72 : decode cX3_placeWith 72 = .ok (.aload_n 0, 1) := by decide +kernel
theorem dX3_placeWith_73 : decode cX3_placeWith 73 = .ok (.getfield 9, 3) := by decide +kernel
theorem dX3_placeWith_76 : decode cX3_placeWith 76 = .ok (.iload 4, 2) := by decide +kernel
theorem dX3_placeWith_78 : decode cX3_placeWith 78 = .ok (.iaload, 1) := by decide +kernel
theorem dX3_placeWith_79 : decode cX3_placeWith 79 = .ok (.iconst (-1), 1) := by decide +kernel
theorem dX3_placeWith_80 : decode cX3_placeWith 80 = .ok (.if_icmp .ne 71, 3) := by decide +kernel
theorem dX3_placeWith_83 : decode cX3_placeWith 83 = .ok (.aload_n 0, 1) := by decide +kernel
theorem dX3_placeWith_84 : decode cX3_placeWith 84 = .ok (.getfield 18, 3) := by decide +kernel
theorem dX3_placeWith_87 : decode cX3_placeWith 87 = .ok (.getfield 41, 3) := by decide +kernel
theorem dX3_placeWith_90 : decode cX3_placeWith 90 = .ok (.iload_n 2, 1) := by decide +kernel
theorem dX3_placeWith_91 : decode cX3_placeWith 91 = .ok (.iaload, 1) := by decide +kernel
theorem dX3_placeWith_92 : decode cX3_placeWith 92 = .ok (.iload 4, 2) := by decide +kernel
theorem dX3_placeWith_94 : decode cX3_placeWith 94 = .ok (.invokestatic 46, 3) := by decide +kernel
theorem dX3_placeWith_97 : decode cX3_placeWith 97 = .ok (.ifCond .eq 54, 3) := by decide +kernel
theorem dX3_placeWith_100 : decode cX3_placeWith 100 = .ok (.aload_n 0, 1) := by decide +kernel
theorem dX3_placeWith_101 : decode cX3_placeWith 101 = .ok (.getfield 18, 3) := by decide +kernel
theorem dX3_placeWith_104 : decode cX3_placeWith 104 = .ok (.getfield 41, 3) := by decide +kernel
theorem dX3_placeWith_107 : decode cX3_placeWith 107 = .ok (.iload 4, 2) := by decide +kernel
theorem dX3_placeWith_109 : decode cX3_placeWith 109 = .ok (.iaload, 1) := by decide +kernel
theorem dX3_placeWith_110 : decode cX3_placeWith 110 = .ok (.iload_n 1, 1) := by decide +kernel
theorem dX3_placeWith_111 : decode cX3_placeWith 111 = .ok (.invokestatic 46, 3) := by decide +kernel
theorem dX3_placeWith_114 : decode cX3_placeWith 114 = .ok (.ifCond .eq 37, 3) := by decide +kernel
theorem dX3_placeWith_117 : decode cX3_placeWith 117 = .ok (.aload_n 0, 1) := by decide +kernel
theorem dX3_placeWith_118 : decode cX3_placeWith 118 = .ok (.getfield 9, 3) := by decide +kernel
theorem dX3_placeWith_121 : decode cX3_placeWith 121 = .ok (.iload_n 2, 1) := by decide +kernel
theorem dX3_placeWith_122 : decode cX3_placeWith 122 = .ok (.iload 4, 2) := by decide +kernel
theorem dX3_placeWith_124 : decode cX3_placeWith 124 = .ok (.iastore, 1) := by decide +kernel
theorem dX3_placeWith_125 : decode cX3_placeWith 125 = .ok (.aload_n 0, 1) := by decide +kernel
theorem dX3_placeWith_126 : decode cX3_placeWith 126 = .ok (.getfield 9, 3) := by decide +kernel
theorem dX3_placeWith_129 : decode cX3_placeWith 129 = .ok (.iload 4, 2) := by decide +kernel
theorem dX3_placeWith_131 : decode cX3_placeWith 131 = .ok (.iload_n 1, 1) := by decide +kernel
theorem dX3_placeWith_132 : decode cX3_placeWith 132 = .ok (.iastore, 1) := by decide +kernel
theorem dX3_placeWith_133 : decode cX3_placeWith 133 = .ok (.aload_n 0, 1) := by decide +kernel
theorem dX3_placeWith_134 : decode cX3_placeWith 134 = .ok (.iload_n 1, 1) := by decide +kernel
theorem dX3_placeWith_135 : decode cX3_placeWith 135 = .ok (.iconst 1, 1) := by decide +kernel
theorem dX3_placeWith_136 : decode cX3_placeWith 136 = .ok (.iadd, 1) := by decide +kernel
theorem dX3_placeWith_137 : decode cX3_placeWith 137 = .ok (.iload_n 3, 1) := by decide +kernel
theorem dX3_placeWith_138 : decode cX3_placeWith 138 = .ok (.iconst 3, 1) := by decide +kernel
theorem dX3_placeWith_139 : decode cX3_placeWith 139 = .ok (.iadd, 1) := by decide +kernel
theorem dX3_placeWith_140 : decode cX3_placeWith 140 = .ok (.invokevirtual 33, 3) := by decide +kernel
theorem dX3_placeWith_143 : decode cX3_placeWith 143 = .ok (.aload_n 0, 1) := by decide +kernel
theorem dX3_placeWith_144 : decode cX3_placeWith 144 = .ok (.getfield 9, 3) := by decide +kernel
theorem dX3_placeWith_147 : decode cX3_placeWith 147 = .ok (.iload 4, 2) := by decide +kernel
theorem dX3_placeWith_149 : decode cX3_placeWith 149 = .ok (.iconst (-1), 1) := by decide +kernel
theorem dX3_placeWith_150 : decode cX3_placeWith 150 = .ok (.iastore, 1) := by decide +kernel
theorem dX3_placeWith_151 : decode cX3_placeWith 151 = .ok (.iinc 4 1, 3) := by decide +kernel
theorem dX3_placeWith_154 : decode cX3_placeWith 154 = .ok (.goto (-94), 3) := by decide +kernel
theorem dX3_placeWith_157 : decode cX3_placeWith 157 = .ok (.aload_n 0, 1) := by decide +kernel
theorem dX3_placeWith_158 : decode cX3_placeWith 158 = .ok (.getfield 9, 3) := by decide +kernel
theorem dX3_placeWith_161 : decode cX3_placeWith 161 = .ok (.iload_n 2, 1) := by decide +kernel
theorem dX3_placeWith_162 : decode cX3_placeWith 162 = .ok (.iconst (-1), 1) := by decide +kernel
theorem dX3_placeWith_163 : decode cX3_placeWith 163 = .ok (.iastore, 1) := by decide +kernel
theorem dX3_placeWith_164 : decode cX3_placeWith 164 = .ok (.aload_n 0, 1) := by decide +kernel
theorem dX3_placeWith_165 : decode cX3_placeWith 165 = .ok (.getfield 9, 3) := by decide +kernel
theorem dX3_placeWith_168 : decode cX3_placeWith 168 = .ok (.iload_n 1, 1) := by decide +kernel
theorem dX3_placeWith_169 : decode cX3_placeWith 169 = .ok (.iconst (-1), 1) := by decide +kernel
theorem dX3_placeWith_170 : decode cX3_placeWith 170 = .ok (.iastore, 1) := by decide +kernel
theorem dX3_placeWith_171 : decode cX3_placeWith 171 = .ok (.return_, 1) := by decide +kernel
set_option maxRecDepth 20000 in
theorem ggX3_weigh_X3_isLower : GoodIn wsX3_weigh wsX3_isLower := goodIn_r _ [12, 2, 3, 13, 14, 15, 16] (by decide +kernel) (by decide +kernel)
set_option maxRecDepth 20000 in
theorem gX3_weigh_X3_isLower : GoodIn wsX3_weigh (wsV RX3 54 RX3 yX3_isLower wsX3_isLower) := goodIn_app (goodIn_of _ (by decide +kernel)) ggX3_weigh_X3_isLower
theorem dX3_weigh_0 : decode cX3_weigh 0 = .ok (.iload_n 1, 1) := by decide +kernel
theorem dX3_weigh_1 : decode cX3_weigh 1 = .ok (.aload_n 0, 1) := by decide +kernel
theorem dX3_weigh_2 : decode cX3_weigh 2 = .ok (.getfield 29, 3) := by decide +kernel
theorem dX3_weigh_5 : decode cX3_weigh 5 = .ok (.if_icmp .gt 18, 3) := by decide +kernel
theorem dX3_weigh_8 : decode cX3_weigh 8 = .ok (.iload_n 1, 1) := by decide +kernel
theorem dX3_weigh_9 : decode cX3_weigh 9 = .ok (.aload_n 0, 1) := by decide +kernel
theorem dX3_weigh_10 : decode cX3_weigh 10 = .ok (.getfield 29, 3) := by decide +kernel
theorem dX3_weigh_13 : decode cX3_weigh 13 = .ok (.if_icmp .ne 29, 3) := by decide +kernel
theorem dX3_weigh_16 : decode cX3_weigh 16 = .ok (.aload_n 0, 1) := by decide +kernel
theorem dX3_weigh_17 : decode cX3_weigh 17 = .ok (.invokevirtual 54, 3) := by decide +kernel
theorem dX3_weigh_20 : decode cX3_weigh 20 = .ok (.ifCond .eq 22, 3) := by decide +kernel
theorem dX3_weigh_23 : decode cX3_weigh 23 = .ok (.aload_n 0, 1) := by decide +kernel
theorem dX3_weigh_24 : decode cX3_weigh 24 = .ok (.getfield 9, 3) := by decide +kernel
theorem dX3_weigh_27 : decode cX3_weigh 27 = .ok (.iconst 0, 1) := by decide +kernel
theorem dX3_weigh_28 : decode cX3_weigh 28 = .ok (.aload_n 0, 1) := by decide +kernel
theorem dX3_weigh_29 : decode cX3_weigh 29 = .ok (.getfield 15, 3) := by decide +kernel
theorem dX3_weigh_32 : decode cX3_weigh 32 = .ok (.iconst 0, 1) := by decide +kernel
theorem dX3_weigh_33 : decode cX3_weigh 33 = .ok (.iconst 5, 1) := by decide +kernel
theorem dX3_weigh_34 : decode cX3_weigh 34 = .ok (.invokestatic 58, 3) := by decide +kernel
theorem dX3_weigh_37 : decode cX3_weigh 37 = .ok (.aload_n 0, 1) := by decide +kernel
theorem dX3_weigh_38 : decode cX3_weigh 38 = .ok (.iload_n 1, 1) := by decide +kernel
theorem dX3_weigh_39 : decode cX3_weigh 39 = .ok (.putfield 29, 3) := by decide +kernel
theorem dX3_weigh_42 : decode cX3_weigh 42 = .ok (.return_, 1) := by decide +kernel
theorem dX3_isLower_0 : decode cX3_isLower 0 = .ok (.iconst 0, 1) := by decide +kernel
theorem dX3_isLower_1 : decode cX3_isLower 1 = .ok (.istore_n 1, 1) := by decide +kernel
theorem dX3_isLower_2 : decode cX3_isLower 2 = .ok (.iload_n 1, 1) := by decide +kernel
theorem dX3_isLower_3 : decode cX3_isLower 3 = .ok (.iconst 5, 1) := by decide +kernel
theorem dX3_isLower_4 : decode cX3_isLower 4 = .ok (.if_icmp .ge 65, 3) := by decide +kernel
theorem dX3_isLower_7 : decode cX3_isLower 7 = .ok (.aload_n 0, 1) := by decide +kernel
theorem dX3_isLower_8 : decode cX3_isLower 8 = .ok (.getfield 9, 3) := by decide +kernel
theorem dX3_isLower_11 : decode cX3_isLower 11 = .ok (.iload_n 1, 1) := by decide +kernel
theorem dX3_isLower_12 : decode cX3_isLower 12 = .ok (.iaload, 1) := by decide +kernel
theorem dX3_isLower_13 : decode cX3_isLower 13 = .ok (.aload_n 0, 1) := by decide +kernel
theorem dX3_isLower_14 : decode cX3_isLower 14 = .ok (.getfield 15, 3) := by decide +kernel
theorem dX3_isLower_17 : decode cX3_isLower 17 = .ok (.iload_n 1, 1) := by decide +kernel
theorem dX3_isLower_18 : decode cX3_isLower 18 = .ok (.iaload, 1) := by decide +kernel
theorem dX3_isLower_19 : decode cX3_isLower 19 = .ok (.if_icmp .eq 44, 3) := by decide +kernel
theorem dX3_isLower_22 : decode cX3_isLower 22 = .ok (.aload_n 0, 1) := by decide +kernel
theorem dX3_isLower_23 : decode cX3_isLower 23 = .ok (.getfield 15, 3) := by decide +kernel
theorem dX3_isLower_26 : decode cX3_isLower 26 = .ok (.iload_n 1, 1) := by decide +kernel
theorem dX3_isLower_27 : decode cX3_isLower 27 = .ok (.iaload, 1) := by decide +kernel
theorem dX3_isLower_28 : decode cX3_isLower 28 = .ok (.iconst (-1), 1) := by decide +kernel
theorem dX3_isLower_29 : decode cX3_isLower 29 = .ok (.if_icmp .eq 28, 3) := by decide +kernel
theorem dX3_isLower_32 : decode cX3_isLower 32 = .ok (.aload_n 0, 1) := by decide +kernel
theorem dX3_isLower_33 : decode cX3_isLower 33 = .ok (.getfield 9, 3) := by decide +kernel
theorem dX3_isLower_36 : decode cX3_isLower 36 = .ok (.iload_n 1, 1) := by decide +kernel
theorem dX3_isLower_37 : decode cX3_isLower 37 = .ok (.iaload, 1) := by decide +kernel
theorem dX3_isLower_38 : decode cX3_isLower 38 = .ok (.iconst (-1), 1) := by decide +kernel
theorem dX3_isLower_39 : decode cX3_isLower 39 = .ok (.if_icmp .eq 22, 3) := by decide +kernel
theorem dX3_isLower_42 : decode cX3_isLower 42 = .ok (.aload_n 0, 1) := by decide +kernel
theorem dX3_isLower_43 : decode cX3_isLower 43 = .ok (.getfield 9, 3) := by decide +kernel
theorem dX3_isLower_46 : decode cX3_isLower 46 = .ok (.iload_n 1, 1) := by decide +kernel
theorem dX3_isLower_47 : decode cX3_isLower 47 = .ok (.iaload, 1) := by decide +kernel
theorem dX3_isLower_48 : decode cX3_isLower 48 = .ok (.aload_n 0, 1) := by decide +kernel
theorem dX3_isLower_49 : decode cX3_isLower 49 = .ok (.getfield 15, 3) := by decide +kernel
theorem dX3_isLower_52 : decode cX3_isLower 52 = .ok (.iload_n 1, 1) := by decide +kernel
theorem dX3_isLower_53 : decode cX3_isLower 53 = .ok (.iaload, 1) := by decide +kernel
theorem dX3_isLower_54 : decode cX3_isLower 54 = .ok (.if_icmp .ge 7, 3) := by decide +kernel
theorem dX3_isLower_57 : decode cX3_isLower 57 = .ok (.iconst 1, 1) := by decide +kernel
theorem dX3_isLower_58 : decode cX3_isLower 58 = .ok (.goto 4, 3) := by decide +kernel
theorem dX3_isLower_61 : decode cX3_isLower 61 = .ok (.iconst 0, 1) := by decide +kernel
theorem dX3_isLower_62 : decode cX3_isLower 62 = .ok (.ireturn, 1) := by decide +kernel
theorem dX3_isLower_63 : decode cX3_isLower 63 = .ok (.iinc 1 1, 3) := by decide +kernel
theorem dX3_isLower_66 : decode cX3_isLower 66 = .ok (.goto (-64), 3) := by decide +kernel
theorem dX3_isLower_69 : decode cX3_isLower 69 = .ok (.iconst 0, 1) := by decide +kernel
theorem dX3_isLower_70 : decode cX3_isLower 70 = .ok (.ireturn, 1) := by decide +kernel
theorem dX3_certain_0 : decode cX3_certain 0 = .ok (.lconst 1, 1) := by decide +kernel
theorem dX3_certain_1 : decode cX3_certain 1 = .ok (.lstore_n 1, 1) := by decide +kernel
theorem dX3_certain_2 : decode cX3_certain 2 = .ok (.iconst 0, 1) := by decide +kernel
theorem dX3_certain_3 : decode cX3_certain 3 = .ok (.istore_n 3, 1) := by decide +kernel
theorem dX3_certain_4 : decode cX3_certain 4 = .ok (.iload_n 3, 1) := by decide +kernel
theorem dX3_certain_5 : decode cX3_certain 5 = .ok (.iconst 5, 1) := by decide +kernel
theorem dX3_certain_6 : decode cX3_certain 6 = .ok (.if_icmp .ge 29, 3) := by decide +kernel
theorem dX3_certain_9 : decode cX3_certain 9 = .ok (.iload_n 3, 1) := by decide +kernel
theorem dX3_certain_10 : decode cX3_certain 10 = .ok (.aload_n 0, 1) := by decide +kernel
theorem dX3_certain_11 : decode cX3_certain 11 = .ok (.getfield 18, 3) := by decide +kernel
theorem dX3_certain_14 : decode cX3_certain 14 = .ok (.getfield 64, 3) := by decide +kernel
theorem dX3_certain_17 : decode cX3_certain 17 = .ok (.getfield 68, 3) := by decide +kernel
theorem dX3_certain_20 : decode cX3_certain 20 = .ok (.if_icmp .ge 15, 3) := by decide +kernel
theorem dX3_certain_23 : decode cX3_certain 23 = .ok (.lload_n 1, 1) := by decide +kernel
theorem dX3_certain_24 : decode cX3_certain 24 = .ok (.ldc2_w 73, 3) := by decide +kernel
theorem dX3_certain_27 : decode cX3_certain 27 = .ok (.lmul, 1) := by decide +kernel
theorem dX3_certain_28 : decode cX3_certain 28 = .ok (.lstore_n 1, 1) := by decide +kernel
theorem dX3_certain_29 : decode cX3_certain 29 = .ok (.iinc 3 1, 3) := by decide +kernel
theorem dX3_certain_32 : decode cX3_certain 32 = .ok (.goto (-28), 3) := by decide +kernel
theorem dX3_certain_35 : decode cX3_certain 35 = .ok (.lload_n 1, 1) := by decide +kernel
theorem dX3_certain_36 : decode cX3_certain 36 = .ok (.lreturn, 1) := by decide +kernel
set_option maxRecDepth 20000 in
theorem ggX3_chance_X3_costOf : GoodIn wsX3_chance wsX3_costOf := goodIn_r _ [5, 6, 7, 8, 9, 10, 18, 19, 20, 21, 22, 23, 24, 25, 26, 27, 28, 29, 30, 31, 32, 33] (by decide +kernel) (by decide +kernel)
set_option maxRecDepth 20000 in
theorem gX3_chance_X3_costOf : GoodIn wsX3_chance (wsV RX3 75 RX3 yX3_costOf wsX3_costOf) := goodIn_app (goodIn_of _ (by decide +kernel)) ggX3_chance_X3_costOf
set_option maxRecDepth 20000 in
theorem ggX3_chance_X3_weightOf : GoodIn wsX3_chance wsX3_weightOf := goodIn_r _ [14, 6, 15, 16, 17, 8, 9, 10, 18, 19, 20, 21, 22, 23, 24, 25, 26, 27, 28, 29, 30, 31, 32, 33, 34, 35, 36, 37, 38, 39, 40, 41, 42, 43, 44, 45] (by decide +kernel) (by decide +kernel)
set_option maxRecDepth 20000 in
theorem gX3_chance_X3_weightOf : GoodIn wsX3_chance (wsV RX3 79 RX3 yX3_weightOf wsX3_weightOf) := goodIn_app (goodIn_of _ (by decide +kernel)) ggX3_chance_X3_weightOf
theorem dX3_chance_0 : decode cX3_chance 0 = .ok (.lconst 0, 1) := by decide +kernel
theorem dX3_chance_1 : decode cX3_chance 1 = .ok (.lstore_n 2, 1) := by decide +kernel
theorem dX3_chance_2 : decode cX3_chance 2 = .ok (.iconst 0, 1) := by decide +kernel
theorem dX3_chance_3 : decode cX3_chance 3 = .ok (.istore 4, 2) := by decide +kernel
theorem dX3_chance_5 : decode cX3_chance 5 = .ok (.iload 4, 2) := by decide +kernel
theorem dX3_chance_7 : decode cX3_chance 7 = .ok (.bipush 32, 2) := by decide +kernel
theorem dX3_chance_9 : decode cX3_chance 9 = .ok (.if_icmp .ge 28, 3) := by decide +kernel
theorem dX3_chance_12 : decode cX3_chance 12 = .ok (.aload_n 0, 1) := by decide +kernel
theorem dX3_chance_13 : decode cX3_chance 13 = .ok (.iload 4, 2) := by decide +kernel
theorem dX3_chance_15 : decode cX3_chance 15 = .ok (.invokevirtual 75, 3) := by decide +kernel
theorem dX3_chance_18 : decode cX3_chance 18 = .ok (.iload_n 1, 1) := by decide +kernel
theorem dX3_chance_19 : decode cX3_chance 19 = .ok (.if_icmp .gt 12, 3) := by decide +kernel
theorem dX3_chance_22 : decode cX3_chance 22 = .ok (.lload_n 2, 1) := by decide +kernel
theorem dX3_chance_23 : decode cX3_chance 23 = .ok (.aload_n 0, 1) := by decide +kernel
theorem dX3_chance_24 : decode cX3_chance 24 = .ok (.iload 4, 2) := by decide +kernel
theorem dX3_chance_26 : decode cX3_chance 26 = .ok (.invokevirtual 79, 3) := by decide +kernel
theorem dX3_chance_29 : decode cX3_chance 29 = .ok (.ladd, 1) := by decide +kernel
theorem dX3_chance_30 : decode cX3_chance 30 = .ok (.lstore_n 2, 1) := by decide +kernel
theorem dX3_chance_31 : decode cX3_chance 31 = .ok (.iinc 4 1, 3) := by decide +kernel
theorem dX3_chance_34 : decode cX3_chance 34 = .ok (.goto (-29), 3) := by decide +kernel
theorem dX3_chance_37 : decode cX3_chance 37 = .ok (.lload_n 2, 1) := by decide +kernel
theorem dX3_chance_38 : decode cX3_chance 38 = .ok (.lreturn, 1) := by decide +kernel
set_option maxRecDepth 20000 in
theorem ggX3_leastCost_X3_costOf : GoodIn wsX3_leastCost wsX3_costOf := goodIn_r _ [6, 7, 8, 9, 10, 11, 27, 28, 29, 30, 31, 32, 33, 34, 35, 36, 37, 38, 39, 40, 41, 42] (by decide +kernel) (by decide +kernel)
set_option maxRecDepth 20000 in
theorem gX3_leastCost_X3_costOf : GoodIn wsX3_leastCost (wsV RX3 75 RX3 yX3_costOf wsX3_costOf) := goodIn_app (goodIn_of _ (by decide +kernel)) ggX3_leastCost_X3_costOf
set_option maxRecDepth 20000 in
theorem ggX3_leastCost_X3_chance : GoodIn wsX3_leastCost wsX3_chance := goodIn_r _ [15, 2, 3, 4, 5, 6, 7, 8, 9, 10, 11, 16, 17, 18, 19, 20, 21, 22, 27, 28, 29, 30, 31, 32, 33, 34, 35, 36, 37, 38, 39, 40, 41, 42, 43, 44, 45, 46, 47, 48, 49, 50, 51, 52, 53, 54] (by decide +kernel) (by decide +kernel)
set_option maxRecDepth 20000 in
theorem gX3_leastCost_X3_chance : GoodIn wsX3_leastCost (wsV RX3 83 RX3 yX3_chance wsX3_chance) := goodIn_app (goodIn_of _ (by decide +kernel)) ggX3_leastCost_X3_chance
set_option maxRecDepth 20000 in
theorem ggX3_leastCost_X3_certain : GoodIn wsX3_leastCost wsX3_certain := goodIn_r _ [26, 7, 20, 21, 1, 27, 28, 29, 30, 31, 32, 33, 34, 35, 36, 37, 38, 39, 40, 41, 42, 43, 44, 45, 46, 47, 48, 49, 50, 51, 52, 53, 54] (by decide +kernel) (by decide +kernel)
set_option maxRecDepth 20000 in
theorem gX3_leastCost_X3_certain : GoodIn wsX3_leastCost (wsV RX3 86 RX3 yX3_certain wsX3_certain) := goodIn_app (goodIn_of _ (by decide +kernel)) ggX3_leastCost_X3_certain
theorem dX3_leastCost_0 : decode cX3_leastCost 0 = .ok (.sipush 495, 3) := by decide +kernel
theorem dX3_leastCost_3 : decode cX3_leastCost 3 = .ok (.istore_n 2, 1) := by decide +kernel
theorem dX3_leastCost_4 : decode cX3_leastCost 4 = .ok (.iconst 0, 1) := by decide +kernel
theorem dX3_leastCost_5 : decode cX3_leastCost 5 = .ok (.istore_n 3, 1) := by decide +kernel
theorem dX3_leastCost_6 : decode cX3_leastCost 6 = .ok (.iload_n 3, 1) := by decide +kernel
theorem dX3_leastCost_7 : decode cX3_leastCost 7 = .ok (.bipush 32, 2) := by decide +kernel
theorem dX3_leastCost_9 : decode cX3_leastCost 9 = .ok (.if_icmp .ge 46, 3) := by decide +kernel
theorem dX3_leastCost_12 : decode cX3_leastCost 12 = .ok (.aload_n 0, 1) := by decide +kernel
theorem dX3_leastCost_13 : decode cX3_leastCost 13 = .ok (.iload_n 3, 1) := by decide +kernel
theorem dX3_leastCost_14 : decode cX3_leastCost 14 = .ok (.invokevirtual 75, 3) := by decide +kernel
theorem dX3_leastCost_17 : decode cX3_leastCost 17 = .ok (.istore 4, 2) := by decide +kernel
theorem dX3_leastCost_19 : decode cX3_leastCost 19 = .ok (.iload 4, 2) := by decide +kernel
theorem dX3_leastCost_21 : decode cX3_leastCost 21 = .ok (.iload_n 2, 1) := by decide +kernel
theorem dX3_leastCost_22 : decode cX3_leastCost 22 = .ok (.if_icmp .ge 27, 3) := by decide +kernel
theorem dX3_leastCost_25 : decode cX3_leastCost 25 = .ok (.aload_n 0, 1) := by decide +kernel
theorem dX3_leastCost_26 : decode cX3_leastCost 26 = .ok (.iload 4, 2) := by decide +kernel
theorem dX3_leastCost_28 : decode cX3_leastCost 28 = .ok (.invokevirtual 83, 3) := by decide +kernel
theorem dX3_leastCost_31 : decode cX3_leastCost 31 = .ok (.ldc2_w 73, 3) := by decide +kernel
theorem dX3_leastCost_34 : decode cX3_leastCost 34 = .ok (.lmul, 1) := by decide +kernel
theorem dX3_leastCost_35 : decode cX3_leastCost 35 = .ok (.aload_n 0, 1) := by decide +kernel
theorem dX3_leastCost_36 : decode cX3_leastCost 36 = .ok (.invokevirtual 86, 3) := by decide +kernel
theorem dX3_leastCost_39 : decode cX3_leastCost 39 = .ok (.iload_n 1, 1) := by decide +kernel
theorem dX3_leastCost_40 : decode cX3_leastCost 40 = .ok (.i2l, 1) := by decide +kernel
theorem dX3_leastCost_41 : decode cX3_leastCost 41 = .ok (.lmul, 1) := by decide +kernel
theorem dX3_leastCost_42 : decode cX3_leastCost 42 = .ok (.lcmp, 1) := by decide +kernel
theorem dX3_leastCost_43 : decode cX3_leastCost 43 = .ok (.ifCond .lt 6, 3) := by decide +kernel
theorem dX3_leastCost_46 : decode cX3_leastCost 46 = .ok (.iload 4, 2) := by decide +kernel
theorem dX3_leastCost_48 : decode cX3_leastCost 48 = .ok (.istore_n 2, 1) := by decide +kernel
theorem dX3_leastCost_49 : decode cX3_leastCost 49 = .ok (.iinc 3 1, 3) := by decide +kernel
theorem dX3_leastCost_52 : decode cX3_leastCost 52 = .ok (.goto (-46), 3) := by decide +kernel
theorem dX3_leastCost_55 : decode cX3_leastCost 55 = .ok (.iload_n 2, 1) := by decide +kernel
theorem dX3_leastCost_56 : decode cX3_leastCost 56 = .ok (.ireturn, 1) := by decide +kernel
set_option maxRecDepth 20000 in
theorem ggX3_costOf_X11_has : GoodIn wsX3_costOf wsX11_has := goodIn_r _ [5] (by decide +kernel) (by decide +kernel)
set_option maxRecDepth 20000 in
theorem gX3_costOf_X11_has_n46 : GoodIn wsX3_costOf (wsX11_has) := ggX3_costOf_X11_has
theorem dX3_costOf_0 : decode cX3_costOf 0 = .ok (.iconst 0, 1) := by decide +kernel
theorem dX3_costOf_1 : decode cX3_costOf 1 = .ok (.istore_n 2, 1) := by decide +kernel
theorem dX3_costOf_2 : decode cX3_costOf 2 = .ok (.iconst 0, 1) := by decide +kernel
theorem dX3_costOf_3 : decode cX3_costOf 3 = .ok (.istore_n 3, 1) := by decide +kernel
theorem dX3_costOf_4 : decode cX3_costOf 4 = .ok (.iload_n 3, 1) := by decide +kernel
theorem dX3_costOf_5 : decode cX3_costOf 5 = .ok (.iconst 5, 1) := by decide +kernel
theorem dX3_costOf_6 : decode cX3_costOf 6 = .ok (.if_icmp .ge 29, 3) := by decide +kernel
theorem dX3_costOf_9 : decode cX3_costOf 9 = .ok (.iload_n 1, 1) := by decide +kernel
theorem dX3_costOf_10 : decode cX3_costOf 10 = .ok (.iload_n 3, 1) := by decide +kernel
theorem dX3_costOf_11 : decode cX3_costOf 11 = .ok (.invokestatic 46, 3) := by decide +kernel
theorem dX3_costOf_14 : decode cX3_costOf 14 = .ok (.ifCond .eq 15, 3) := by decide +kernel
theorem dX3_costOf_17 : decode cX3_costOf 17 = .ok (.iload_n 2, 1) := by decide +kernel
theorem dX3_costOf_18 : decode cX3_costOf 18 = .ok (.aload_n 0, 1) := by decide +kernel
theorem dX3_costOf_19 : decode cX3_costOf 19 = .ok (.getfield 18, 3) := by decide +kernel
theorem dX3_costOf_22 : decode cX3_costOf 22 = .ok (.getfield 90, 3) := by decide +kernel
theorem dX3_costOf_25 : decode cX3_costOf 25 = .ok (.iload_n 3, 1) := by decide +kernel
theorem dX3_costOf_26 : decode cX3_costOf 26 = .ok (.iaload, 1) := by decide +kernel
theorem dX3_costOf_27 : decode cX3_costOf 27 = .ok (.iadd, 1) := by decide +kernel
theorem dX3_costOf_28 : decode cX3_costOf 28 = .ok (.istore_n 2, 1) := by decide +kernel
theorem dX3_costOf_29 : decode cX3_costOf 29 = .ok (.iinc 3 1, 3) := by decide +kernel
theorem dX3_costOf_32 : decode cX3_costOf 32 = .ok (.goto (-28), 3) := by decide +kernel
theorem dX3_costOf_35 : decode cX3_costOf 35 = .ok (.iload_n 2, 1) := by decide +kernel
theorem dX3_costOf_36 : decode cX3_costOf 36 = .ok (.ireturn, 1) := by decide +kernel
set_option maxRecDepth 20000 in
theorem ggX3_weightOf_X11_has : GoodIn wsX3_weightOf wsX11_has := goodIn_r _ [7] (by decide +kernel) (by decide +kernel)
set_option maxRecDepth 20000 in
theorem gX3_weightOf_X11_has_n46 : GoodIn wsX3_weightOf (wsX11_has) := ggX3_weightOf_X11_has
theorem dX3_weightOf_0 : decode cX3_weightOf 0 = .ok (.lconst 1, 1) := by decide +kernel
theorem dX3_weightOf_1 : decode cX3_weightOf 1 = .ok (.lstore_n 2, 1) := by decide +kernel
theorem dX3_weightOf_2 : decode cX3_weightOf 2 = .ok (.iconst 0, 1) := by decide +kernel
theorem dX3_weightOf_3 : decode cX3_weightOf 3 = .ok (.istore 4, 2) := by decide +kernel
theorem dX3_weightOf_5 : decode cX3_weightOf 5 = .ok (.iload 4, 2) := by decide +kernel
theorem dX3_weightOf_7 : decode cX3_weightOf 7 = .ok (.iconst 5, 1) := by decide +kernel
theorem dX3_weightOf_8 : decode cX3_weightOf 8 = .ok (.if_icmp .ge 78, 3) := by decide +kernel
theorem dX3_weightOf_11 : decode cX3_weightOf 11 = .ok (.iload 4, 2) := by decide +kernel
theorem dX3_weightOf_13 : decode cX3_weightOf 13 = .ok (.aload_n 0, 1) := by decide +kernel
theorem dX3_weightOf_14 : decode cX3_weightOf 14 = .ok (.getfield 18, 3) := by decide +kernel
theorem dX3_weightOf_17 : decode cX3_weightOf 17 = .ok (.getfield 64, 3) := by decide +kernel
theorem dX3_weightOf_20 : decode cX3_weightOf 20 = .ok (.getfield 68, 3) := by decide +kernel
theorem dX3_weightOf_23 : decode cX3_weightOf 23 = .ok (.if_icmp .ge 46, 3) := by decide +kernel
theorem dX3_weightOf_26 : decode cX3_weightOf 26 = .ok (.lload_n 2, 1) := by decide +kernel
theorem dX3_weightOf_27 : decode cX3_weightOf 27 = .ok (.iload_n 1, 1) := by decide +kernel
theorem dX3_weightOf_28 : decode cX3_weightOf 28 = .ok (.iload 4, 2) := by decide +kernel
theorem dX3_weightOf_30 : decode cX3_weightOf 30 = .ok (.invokestatic 46, 3) := by decide +kernel
theorem dX3_weightOf_33 : decode cX3_weightOf 33 = .ok (.ifCond .eq 17, 3) := by decide +kernel
theorem dX3_weightOf_36 : decode cX3_weightOf 36 = .ok (.aload_n 0, 1) := by decide +kernel
theorem dX3_weightOf_37 : decode cX3_weightOf 37 = .ok (.getfield 18, 3) := by decide +kernel
theorem dX3_weightOf_40 : decode cX3_weightOf 40 = .ok (.getfield 93, 3) := by decide +kernel
theorem dX3_weightOf_43 : decode cX3_weightOf 43 = .ok (.iload 4, 2) := by decide +kernel
theorem dX3_weightOf_45 : decode cX3_weightOf 45 = .ok (.iaload, 1) := by decide +kernel
theorem dX3_weightOf_46 : decode cX3_weightOf 46 = .ok (.i2l, 1) := by decide +kernel
theorem dX3_weightOf_47 : decode cX3_weightOf 47 = .ok (.goto 17, 3) := by decide +kernel
theorem dX3_weightOf_50 : decode cX3_weightOf 50 = .ok (.bipush 10, 2) := by decide +kernel
theorem dX3_weightOf_52 : decode cX3_weightOf 52 = .ok (.aload_n 0, 1) := by decide +kernel
theorem dX3_weightOf_53 : decode cX3_weightOf 53 = .ok (.getfield 18, 3) := by decide +kernel
theorem dX3_weightOf_56 : decode cX3_weightOf 56 = .ok (.getfield 93, 3) := by decide +kernel
theorem dX3_weightOf_59 : decode cX3_weightOf 59 = .ok (.iload 4, 2) := by decide +kernel
theorem dX3_weightOf_61 : decode cX3_weightOf 61 = .ok (.iaload, 1) := by decide +kernel
theorem dX3_weightOf_62 : decode cX3_weightOf 62 = .ok (.isub, 1) := by decide +kernel
theorem dX3_weightOf_63 : decode cX3_weightOf 63 = .ok (.i2l, 1) := by decide +kernel
theorem dX3_weightOf_64 : decode cX3_weightOf 64 = .ok (.lmul, 1) := by decide +kernel
theorem dX3_weightOf_65 : decode cX3_weightOf 65 = .ok (.lstore_n 2, 1) := by decide +kernel
theorem dX3_weightOf_66 : decode cX3_weightOf 66 = .ok (.goto 14, 3) := by decide +kernel
theorem dX3_weightOf_69 : decode cX3_weightOf 69 = .ok (.iload_n 1, 1) := by decide +kernel
theorem dX3_weightOf_70 : decode cX3_weightOf 70 = .ok (.iload 4, 2) := by decide +kernel
theorem dX3_weightOf_72 : decode cX3_weightOf 72 = .ok (.invokestatic 46, 3) := by decide +kernel
theorem dX3_weightOf_75 : decode cX3_weightOf 75 = .ok (.ifCond .eq 5, 3) := by decide +kernel
theorem dX3_weightOf_78 : decode cX3_weightOf 78 = .ok (.lconst 0, 1) := by decide +kernel
theorem dX3_weightOf_79 : decode cX3_weightOf 79 = .ok (.lstore_n 2, 1) := by decide +kernel
theorem dX3_weightOf_80 : decode cX3_weightOf 80 = .ok (.iinc 4 1, 3) := by decide +kernel
theorem dX3_weightOf_83 : decode cX3_weightOf 83 = .ok (.goto (-78), 3) := by decide +kernel
theorem dX3_weightOf_86 : decode cX3_weightOf 86 = .ok (.lload_n 2, 1) := by decide +kernel
theorem dX3_weightOf_87 : decode cX3_weightOf 87 = .ok (.lreturn, 1) := by decide +kernel
theorem dX4_init_0 : decode cX4_init 0 = .ok (.aload_n 0, 1) := by decide +kernel
theorem dX4_init_1 : decode cX4_init 1 = .ok (.invokespecial 3, 3) := by decide +kernel
theorem dX4_init_4 : decode cX4_init 4 = .ok (.aload_n 0, 1) := by decide +kernel
