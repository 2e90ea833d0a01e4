theorem dX9_signKind_137 : decode cX9_signKind 137 = .ok (.ireturn, 1) := by decide +kernel
theorem dX9_signKind_138 : decode cX9_signKind 138 = .ok (.bipush 9, 2) := by decide +kernel
theorem dX9_signKind_140 : decode cX9_signKind 140 = .ok (.ireturn, 1) := by decide +kernel
theorem dX9_signKind_141 : decode cX9_signKind 141 = .ok (.bipush 10, 2) := by decide +kernel
theorem dX9_signKind_143 : decode cX9_signKind 143 = .ok (.ireturn, 1) := by decide +kernel
theorem dX9_signKind_144 : decode cX9_signKind 144 = .ok (.bipush 11, 2) := by decide +kernel
theorem dX9_signKind_146 : decode cX9_signKind 146 = .ok (.ireturn, 1) := by decide +kernel
theorem dX9_signKind_147 : decode cX9_signKind 147 = .ok (.bipush 12, 2) := by decide +kernel
theorem dX9_signKind_149 : decode cX9_signKind 149 = .ok (.ireturn, 1) := by decide +kernel
theorem dX9_signKind_150 : decode cX9_signKind 150 = .ok (.bipush 13, 2) := by decide +kernel
theorem dX9_signKind_152 : decode cX9_signKind 152 = .ok (.ireturn, 1) := by decide +kernel
theorem dX9_signKind_153 : decode cX9_signKind 153 = .ok (.bipush 14, 2) := by decide +kernel
theorem dX9_signKind_155 : decode cX9_signKind 155 = .ok (.ireturn, 1) := by decide +kernel
theorem dX9_signKind_156 : decode cX9_signKind 156 = .ok (.bipush 15, 2) := by decide +kernel
theorem dX9_signKind_158 : decode cX9_signKind 158 = .ok (.ireturn, 1) := by decide +kernel
theorem dX9_signKind_159 : decode cX9_signKind 159 = .ok (.iconst 1, 1) := by decide +kernel
theorem dX9_signKind_160 : decode cX9_signKind 160 = .ok (.ireturn, 1) := by decide +kernel
set_option maxRecDepth 20000 in
theorem ggX9_wordKind_X9_twoLetters : GoodIn wsX9_wordKind wsX9_twoLetters := goodIn_r _ [4, 5, 6, 3, 7, 8, 9, 10, 11, 12, 13, 14, 15, 16, 17, 18, 19, 20, 21, 22, 23, 24, 25, 26, 27, 28, 29, 30, 31, 32, 33, 34, 35, 36, 37, 38, 39, 40, 41, 42, 43, 44, 45, 46, 47, 48, 49, 50, 51, 52, 53, 54, 55, 56] (by decide +kernel) (by decide +kernel)
set_option maxRecDepth 20000 in
theorem gX9_wordKind_X9_twoLetters : GoodIn wsX9_wordKind (va_wsS RX9 53 yX9_twoLetters wsX9_twoLetters) := goodIn_app (goodIn_of _ (by decide +kernel)) ggX9_wordKind_X9_twoLetters
set_option maxRecDepth 20000 in
theorem ggX9_wordKind_X9_threeLetters : GoodIn wsX9_wordKind wsX9_threeLetters := goodIn_r _ [59, 5, 6, 3, 7, 8, 9, 10, 11, 12, 13, 14, 15, 16, 17, 18, 19, 20, 21, 22, 23, 24, 25, 26, 27, 28, 29, 30, 31, 32, 33, 34, 35, 36, 37, 38, 39, 40, 41, 42, 43, 44, 45, 46, 47, 48, 49, 50, 51, 52, 53, 54, 55, 56] (by decide +kernel) (by decide +kernel)
set_option maxRecDepth 20000 in
theorem gX9_wordKind_X9_threeLetters : GoodIn wsX9_wordKind (va_wsS RX9 57 yX9_threeLetters wsX9_threeLetters) := goodIn_app (goodIn_of _ (by decide +kernel)) ggX9_wordKind_X9_threeLetters
set_option maxRecDepth 20000 in
theorem ggX9_wordKind_X9_fourLetters : GoodIn wsX9_wordKind wsX9_fourLetters := goodIn_r _ [62, 5, 6, 3, 7, 8, 9, 10, 11, 12, 13, 14, 15, 16, 17, 18, 19, 20, 21, 22, 23, 24, 25, 26, 27, 28, 29, 30, 31, 32, 33, 34, 35, 36, 37, 38, 39, 40, 41, 42, 43, 44, 45, 46, 47, 48, 49, 50, 51, 52, 53, 54, 55, 56] (by decide +kernel) (by decide +kernel)
set_option maxRecDepth 20000 in
theorem gX9_wordKind_X9_fourLetters : GoodIn wsX9_wordKind (va_wsS RX9 60 yX9_fourLetters wsX9_fourLetters) := goodIn_app (goodIn_of _ (by decide +kernel)) ggX9_wordKind_X9_fourLetters
set_option maxRecDepth 20000 in
theorem ggX9_wordKind_X9_fiveLetters : GoodIn wsX9_wordKind wsX9_fiveLetters := goodIn_r _ [65, 5, 6, 3, 7, 8, 9, 10, 11, 12, 13, 14, 15, 16, 17, 18, 19, 20, 21, 22, 23, 24, 25, 26, 27, 28, 29, 30, 31, 32, 33, 34, 35, 36, 37, 38, 39, 40, 41, 42, 43, 44, 45, 46, 47, 48, 49, 50, 51, 52, 53, 54, 55, 56] (by decide +kernel) (by decide +kernel)
set_option maxRecDepth 20000 in
theorem gX9_wordKind_X9_fiveLetters : GoodIn wsX9_wordKind (va_wsS RX9 63 yX9_fiveLetters wsX9_fiveLetters) := goodIn_app (goodIn_of _ (by decide +kernel)) ggX9_wordKind_X9_fiveLetters
set_option maxRecDepth 20000 in
theorem ggX9_wordKind_X9_spells : GoodIn wsX9_wordKind wsX9_spells := goodIn_r _ [7, 8, 9, 10, 11, 12, 13, 14, 15, 16, 17, 18, 19, 20, 21, 22, 23, 24, 25, 26, 27, 28, 29, 30, 31, 32, 33, 34, 35, 36, 37, 38, 39, 40, 41, 42, 43, 44, 45, 46, 47, 48, 49, 50, 51, 52, 53, 54, 55, 56] (by decide +kernel) (by decide +kernel)
set_option maxRecDepth 20000 in
theorem gX9_wordKind_X9_spells : GoodIn wsX9_wordKind (va_wsS RX9 68 yX9_spells wsX9_spells) := goodIn_app (goodIn_of _ (by decide +kernel)) ggX9_wordKind_X9_spells
theorem dX9_wordKind_0 : decode cX9_wordKind 0 = .ok (.iload_n 2, 1) := by decide +kernel
theorem dX9_wordKind_1 : decode cX9_wordKind 1 = .ok (.iload_n 1, 1) := by decide +kernel
theorem dX9_wordKind_2 : decode cX9_wordKind 2 = .ok (.isub, 1) := by decide +kernel
theorem dX9_wordKind_3 : decode cX9_wordKind 3 = .ok (.tableswitch 110 2 7 #[37, 43, 49, 55, 61, 93], 37) := by decide +kernel
theorem dX9_wordKind_40 : decode cX9_wordKind 40 = .ok (.aload_n 0, 1) := by decide +kernel
theorem dX9_wordKind_41 : decode cX9_wordKind 41 = .ok (.iload_n 1, 1) := by decide +kernel
theorem dX9_wordKind_42 : decode cX9_wordKind 42 = .ok (.invokestatic 53, 3) := by decide +kernel
theorem dX9_wordKind_45 : decode cX9_wordKind 45 = .ok (.ireturn, 1) := by decide +kernel
theorem dX9_wordKind_46 : decode cX9_wordKind 46 = .ok (.aload_n 0, 1) := by decide +kernel
theorem dX9_wordKind_47 : decode cX9_wordKind 47 = .ok (.iload_n 1, 1) := by decide +kernel
theorem dX9_wordKind_48 : decode cX9_wordKind 48 = .ok (.invokestatic 57, 3) := by decide +kernel
theorem dX9_wordKind_51 : decode cX9_wordKind 51 = .ok (.ireturn, 1) := by decide +kernel
theorem dX9_wordKind_52 : decode cX9_wordKind 52 = .ok (.aload_n 0, 1) := by decide +kernel
theorem dX9_wordKind_53 : decode cX9_wordKind 53 = .ok (.iload_n 1, 1) := by decide +kernel
theorem dX9_wordKind_54 : decode cX9_wordKind 54 = .ok (.invokestatic 60, 3) := by decide +kernel
theorem dX9_wordKind_57 : decode cX9_wordKind 57 = .ok (.ireturn, 1) := by decide +kernel
theorem dX9_wordKind_58 : decode cX9_wordKind 58 = .ok (.aload_n 0, 1) := by decide +kernel
theorem dX9_wordKind_59 : decode cX9_wordKind 59 = .ok (.iload_n 1, 1) := by decide +kernel
theorem dX9_wordKind_60 : decode cX9_wordKind 60 = .ok (.invokestatic 63, 3) := by decide +kernel
theorem dX9_wordKind_63 : decode cX9_wordKind 63 = .ok (.ireturn, 1) := by decide +kernel
theorem dX9_wordKind_64 : decode cX9_wordKind 64 = .ok (.aload_n 0, 1) := by decide +kernel
theorem dX9_wordKind_65 : decode cX9_wordKind 65 = .ok (.iload_n 1, 1) := by decide +kernel
theorem dX9_wordKind_66 : decode cX9_wordKind 66 = .ok (.ldc 66, 2) := by decide +kernel
theorem dX9_wordKind_68 : decode cX9_wordKind 68 = .ok (.invokestatic 68, 3) := by decide +kernel
theorem dX9_wordKind_71 : decode cX9_wordKind 71 = .ok (.ifCond .eq 8, 3) := by decide +kernel
theorem dX9_wordKind_74 : decode cX9_wordKind 74 = .ok (.bipush 22, 2) := by decide +kernel
theorem dX9_wordKind_76 : decode cX9_wordKind 76 = .ok (.goto 19, 3) := by decide +kernel
theorem dX9_wordKind_79 : decode cX9_wordKind 79 = .ok (.aload_n 0, 1) := by decide +kernel
theorem dX9_wordKind_80 : decode cX9_wordKind 80 = .ok (.iload_n 1, 1) := by decide +kernel
theorem dX9_wordKind_81 : decode cX9_wordKind 81 = .ok (.ldc 72, 2) := by decide +kernel
theorem dX9_wordKind_83 : decode cX9_wordKind 83 = .ok (.invokestatic 68, 3) := by decide +kernel
theorem dX9_wordKind_86 : decode cX9_wordKind 86 = .ok (.ifCond .eq 8, 3) := by decide +kernel
theorem dX9_wordKind_89 : decode cX9_wordKind 89 = .ok (.bipush 29, 2) := by decide +kernel
theorem dX9_wordKind_91 : decode cX9_wordKind 91 = .ok (.goto 4, 3) := by decide +kernel
theorem dX9_wordKind_94 : decode cX9_wordKind 94 = .ok (.iconst 1, 1) := by decide +kernel
theorem dX9_wordKind_95 : decode cX9_wordKind 95 = .ok (.ireturn, 1) := by decide +kernel
theorem dX9_wordKind_96 : decode cX9_wordKind 96 = .ok (.aload_n 0, 1) := by decide +kernel
theorem dX9_wordKind_97 : decode cX9_wordKind 97 = .ok (.iload_n 1, 1) := by decide +kernel
theorem dX9_wordKind_98 : decode cX9_wordKind 98 = .ok (.ldc 74, 2) := by decide +kernel
theorem dX9_wordKind_100 : decode cX9_wordKind 100 = .ok (.invokestatic 68, 3) := by decide +kernel
theorem dX9_wordKind_103 : decode cX9_wordKind 103 = .ok (.ifCond .eq 8, 3) := by decide +kernel
theorem dX9_wordKind_106 : decode cX9_wordKind 106 = .ok (.bipush 40, 2) := by decide +kernel
theorem dX9_wordKind_108 : decode cX9_wordKind 108 = .ok (.goto 4, 3) := by decide +kernel
theorem dX9_wordKind_111 : decode cX9_wordKind 111 = .ok (.iconst 1, 1) := by decide +kernel
theorem dX9_wordKind_112 : decode cX9_wordKind 112 = .ok (.ireturn, 1) := by decide +kernel
theorem dX9_wordKind_113 : decode cX9_wordKind 113 = .ok (.iconst 1, 1) := by decide +kernel
theorem dX9_wordKind_114 : decode cX9_wordKind 114 = .ok (.ireturn, 1) := by decide +kernel
set_option maxRecDepth 20000 in
theorem ggX9_twoLetters_X9_spells : GoodIn wsX9_twoLetters wsX9_spells := goodIn_r _ [4, 5, 6, 7, 8, 9, 10, 11, 12, 13, 14, 15, 16, 17, 18, 19, 20, 21, 22, 23, 24, 25, 26, 27, 28, 29, 30, 31, 32, 33, 34, 35, 36, 37, 38, 39, 40, 41, 42, 43, 44, 45, 46, 47, 48, 49, 50, 51, 52, 53] (by decide +kernel) (by decide +kernel)
set_option maxRecDepth 20000 in
theorem gX9_twoLetters_X9_spells : GoodIn wsX9_twoLetters (va_wsS RX9 68 yX9_spells wsX9_spells) := goodIn_app (goodIn_of _ (by decide +kernel)) ggX9_twoLetters_X9_spells
theorem dX9_twoLetters_0 : decode cX9_twoLetters 0 = .ok (.aload_n 0, 1) := by decide +kernel
theorem dX9_twoLetters_1 : decode cX9_twoLetters 1 = .ok (.iload_n 1, 1) := by decide +kernel
theorem dX9_twoLetters_2 : decode cX9_twoLetters 2 = .ok (.ldc 76, 2) := by decide +kernel
theorem dX9_twoLetters_4 : decode cX9_twoLetters 4 = .ok (.invokestatic 68, 3) := by decide +kernel
theorem dX9_twoLetters_7 : decode cX9_twoLetters 7 = .ok (.ifCond .eq 6, 3) := by decide +kernel
theorem dX9_twoLetters_10 : decode cX9_twoLetters 10 = .ok (.bipush 19, 2) := by decide +kernel
theorem dX9_twoLetters_12 : decode cX9_twoLetters 12 = .ok (.ireturn, 1) := by decide +kernel
theorem dX9_twoLetters_13 : decode cX9_twoLetters 13 = .ok (.aload_n 0, 1) := by decide +kernel
theorem dX9_twoLetters_14 : decode cX9_twoLetters 14 = .ok (.iload_n 1, 1) := by decide +kernel
theorem dX9_twoLetters_15 : decode cX9_twoLetters 15 = .ok (.ldc 78, 2) := by decide +kernel
theorem dX9_twoLetters_17 : decode cX9_twoLetters 17 = .ok (.invokestatic 68, 3) := by decide +kernel
theorem dX9_twoLetters_20 : decode cX9_twoLetters 20 = .ok (.ifCond .eq 6, 3) := by decide +kernel
theorem dX9_twoLetters_23 : decode cX9_twoLetters 23 = .ok (.bipush 21, 2) := by decide +kernel
theorem dX9_twoLetters_25 : decode cX9_twoLetters 25 = .ok (.ireturn, 1) := by decide +kernel
theorem dX9_twoLetters_26 : decode cX9_twoLetters 26 = .ok (.aload_n 0, 1) := by decide +kernel
theorem dX9_twoLetters_27 : decode cX9_twoLetters 27 = .ok (.iload_n 1, 1) := by decide +kernel
theorem dX9_twoLetters_28 : decode cX9_twoLetters 28 = .ok (.ldc 80, 2) := by decide +kernel
theorem dX9_twoLetters_30 : decode cX9_twoLetters 30 = .ok (.invokestatic 68, 3) := by decide +kernel
theorem dX9_twoLetters_33 : decode cX9_twoLetters 33 = .ok (.ifCond .eq 6, 3) := by decide +kernel
theorem dX9_twoLetters_36 : decode cX9_twoLetters 36 = .ok (.bipush 26, 2) := by decide +kernel
theorem dX9_twoLetters_38 : decode cX9_twoLetters 38 = .ok (.ireturn, 1) := by decide +kernel
theorem dX9_twoLetters_39 : decode cX9_twoLetters 39 = .ok (.aload_n 0, 1) := by decide +kernel
theorem dX9_twoLetters_40 : decode cX9_twoLetters 40 = .ok (.iload_n 1, 1) := by decide +kernel
theorem dX9_twoLetters_41 : decode cX9_twoLetters 41 = .ok (.ldc 82, 2) := by decide +kernel
theorem dX9_twoLetters_43 : decode cX9_twoLetters 43 = .ok (.invokestatic 68, 3) := by decide +kernel
theorem dX9_twoLetters_46 : decode cX9_twoLetters 46 = .ok (.ifCond .eq 6, 3) := by decide +kernel
theorem dX9_twoLetters_49 : decode cX9_twoLetters 49 = .ok (.bipush 31, 2) := by decide +kernel
theorem dX9_twoLetters_51 : decode cX9_twoLetters 51 = .ok (.ireturn, 1) := by decide +kernel
theorem dX9_twoLetters_52 : decode cX9_twoLetters 52 = .ok (.aload_n 0, 1) := by decide +kernel
theorem dX9_twoLetters_53 : decode cX9_twoLetters 53 = .ok (.iload_n 1, 1) := by decide +kernel
theorem dX9_twoLetters_54 : decode cX9_twoLetters 54 = .ok (.ldc 84, 2) := by decide +kernel
theorem dX9_twoLetters_56 : decode cX9_twoLetters 56 = .ok (.invokestatic 68, 3) := by decide +kernel
theorem dX9_twoLetters_59 : decode cX9_twoLetters 59 = .ok (.ifCond .eq 8, 3) := by decide +kernel
theorem dX9_twoLetters_62 : decode cX9_twoLetters 62 = .ok (.bipush 35, 2) := by decide +kernel
theorem dX9_twoLetters_64 : decode cX9_twoLetters 64 = .ok (.goto 4, 3) := by decide +kernel
theorem dX9_twoLetters_67 : decode cX9_twoLetters 67 = .ok (.iconst 1, 1) := by decide +kernel
theorem dX9_twoLetters_68 : decode cX9_twoLetters 68 = .ok (.ireturn, 1) := by decide +kernel
set_option maxRecDepth 20000 in
theorem ggX9_threeLetters_X9_spells : GoodIn wsX9_threeLetters wsX9_spells := goodIn_r _ [4, 5, 6, 7, 8, 9, 10, 11, 12, 13, 14, 15, 16, 17, 18, 19, 20, 21, 22, 23, 24, 25, 26, 27, 28, 29, 30, 31, 32, 33, 34, 35, 36, 37, 38, 39, 40, 41, 42, 43, 44, 45, 46, 47, 48, 49, 50, 51, 52, 53] (by decide +kernel) (by decide +kernel)
set_option maxRecDepth 20000 in
theorem gX9_threeLetters_X9_spells : GoodIn wsX9_threeLetters (va_wsS RX9 68 yX9_spells wsX9_spells) := goodIn_app (goodIn_of _ (by decide +kernel)) ggX9_threeLetters_X9_spells
theorem dX9_threeLetters_0 : decode cX9_threeLetters 0 = .ok (.aload_n 0, 1) := by decide +kernel
theorem dX9_threeLetters_1 : decode cX9_threeLetters 1 = .ok (.iload_n 1, 1) := by decide +kernel
theorem dX9_threeLetters_2 : decode cX9_threeLetters 2 = .ok (.ldc 86, 2) := by decide +kernel
theorem dX9_threeLetters_4 : decode cX9_threeLetters 4 = .ok (.invokestatic 68, 3) := by decide +kernel
theorem dX9_threeLetters_7 : decode cX9_threeLetters 7 = .ok (.ifCond .eq 6, 3) := by decide +kernel
theorem dX9_threeLetters_10 : decode cX9_threeLetters 10 = .ok (.bipush 24, 2) := by decide +kernel
theorem dX9_threeLetters_12 : decode cX9_threeLetters 12 = .ok (.ireturn, 1) := by decide +kernel
theorem dX9_threeLetters_13 : decode cX9_threeLetters 13 = .ok (.aload_n 0, 1) := by decide +kernel
theorem dX9_threeLetters_14 : decode cX9_threeLetters 14 = .ok (.iload_n 1, 1) := by decide +kernel
theorem dX9_threeLetters_15 : decode cX9_threeLetters 15 = .ok (.ldc 88, 2) := by decide +kernel
theorem dX9_threeLetters_17 : decode cX9_threeLetters 17 = .ok (.invokestatic 68, 3) := by decide +kernel
theorem dX9_threeLetters_20 : decode cX9_threeLetters 20 = .ok (.ifCond .eq 6, 3) := by decide +kernel
theorem dX9_threeLetters_23 : decode cX9_threeLetters 23 = .ok (.bipush 28, 2) := by decide +kernel
theorem dX9_threeLetters_25 : decode cX9_threeLetters 25 = .ok (.ireturn, 1) := by decide +kernel
theorem dX9_threeLetters_26 : decode cX9_threeLetters 26 = .ok (.aload_n 0, 1) := by decide +kernel
theorem dX9_threeLetters_27 : decode cX9_threeLetters 27 = .ok (.iload_n 1, 1) := by decide +kernel
theorem dX9_threeLetters_28 : decode cX9_threeLetters 28 = .ok (.ldc 90, 2) := by decide +kernel
theorem dX9_threeLetters_30 : decode cX9_threeLetters 30 = .ok (.invokestatic 68, 3) := by decide +kernel
theorem dX9_threeLetters_33 : decode cX9_threeLetters 33 = .ok (.ifCond .eq 6, 3) := by decide +kernel
theorem dX9_threeLetters_36 : decode cX9_threeLetters 36 = .ok (.bipush 34, 2) := by decide +kernel
theorem dX9_threeLetters_38 : decode cX9_threeLetters 38 = .ok (.ireturn, 1) := by decide +kernel
theorem dX9_threeLetters_39 : decode cX9_threeLetters 39 = .ok (.aload_n 0, 1) := by decide +kernel
theorem dX9_threeLetters_40 : decode cX9_threeLetters 40 = .ok (.iload_n 1, 1) := by decide +kernel
theorem dX9_threeLetters_41 : decode cX9_threeLetters 41 = .ok (.ldc 92, 2) := by decide +kernel
theorem dX9_threeLetters_43 : decode cX9_threeLetters 43 = .ok (.invokestatic 68, 3) := by decide +kernel
theorem dX9_threeLetters_46 : decode cX9_threeLetters 46 = .ok (.ifCond .eq 6, 3) := by decide +kernel
theorem dX9_threeLetters_49 : decode cX9_threeLetters 49 = .ok (.bipush 36, 2) := by decide +kernel
theorem dX9_threeLetters_51 : decode cX9_threeLetters 51 = .ok (.ireturn, 1) := by decide +kernel
theorem dX9_threeLetters_52 : decode cX9_threeLetters 52 = .ok (.aload_n 0, 1) := by decide +kernel
theorem dX9_threeLetters_53 : decode cX9_threeLetters 53 = .ok (.iload_n 1, 1) := by decide +kernel
theorem dX9_threeLetters_54 : decode cX9_threeLetters 54 = .ok (.ldc 94, 2) := by decide +kernel
theorem dX9_threeLetters_56 : decode cX9_threeLetters 56 = .ok (.invokestatic 68, 3) := by decide +kernel
theorem dX9_threeLetters_59 : decode cX9_threeLetters 59 = .ok (.ifCond .eq 6, 3) := by decide +kernel
theorem dX9_threeLetters_62 : decode cX9_threeLetters 62 = .ok (.bipush 37, 2) := by decide +kernel
theorem dX9_threeLetters_64 : decode cX9_threeLetters 64 = .ok (.ireturn, 1) := by decide +kernel
theorem dX9_threeLetters_65 : decode cX9_threeLetters 65 = .ok (.aload_n 0, 1) := by decide +kernel
theorem dX9_threeLetters_66 : decode cX9_threeLetters 66 = .ok (.iload_n 1, 1) := by decide +kernel
theorem dX9_threeLetters_67 : decode cX9_threeLetters 67 = .ok (.ldc 96, 2) := by decide +kernel
theorem dX9_threeLetters_69 : decode cX9_threeLetters 69 = .ok (.invokestatic 68, 3) := by decide +kernel
theorem dX9_threeLetters_72 : decode cX9_threeLetters 72 = .ok (.ifCond .eq 8, 3) := by decide +kernel
theorem dX9_threeLetters_75 : decode cX9_threeLetters 75 = .ok (.bipush 38, 2) := by decide +kernel
theorem dX9_threeLetters_77 : decode cX9_threeLetters 77 = .ok (.goto 4, 3) := by decide +kernel
theorem dX9_threeLetters_80 : decode cX9_threeLetters 80 = .ok (.iconst 1, 1) := by decide +kernel
theorem dX9_threeLetters_81 : decode cX9_threeLetters 81 = .ok (.ireturn, 1) := by decide +kernel
set_option maxRecDepth 20000 in
theorem ggX9_fourLetters_X9_spells : GoodIn wsX9_fourLetters wsX9_spells := goodIn_r _ [4, 5, 6, 7, 8, 9, 10, 11, 12, 13, 14, 15, 16, 17, 18, 19, 20, 21, 22, 23, 24, 25, 26, 27, 28, 29, 30, 31, 32, 33, 34, 35, 36, 37, 38, 39, 40, 41, 42, 43, 44, 45, 46, 47, 48, 49, 50, 51, 52, 53] (by decide +kernel) (by decide +kernel)
set_option maxRecDepth 20000 in
theorem gX9_fourLetters_X9_spells : GoodIn wsX9_fourLetters (va_wsS RX9 68 yX9_spells wsX9_spells) := goodIn_app (goodIn_of _ (by decide +kernel)) ggX9_fourLetters_X9_spells
theorem dX9_fourLetters_0 : decode cX9_fourLetters 0 = .ok (.aload_n 0, 1) := by decide +kernel
theorem dX9_fourLetters_1 : decode cX9_fourLetters 1 = .ok (.iload_n 1, 1) := by decide +kernel
theorem dX9_fourLetters_2 : decode cX9_fourLetters 2 = .ok (.ldc 98, 2) := by decide +kernel
theorem dX9_fourLetters_4 : decode cX9_fourLetters 4 = .ok (.invokestatic 68, 3) := by decide +kernel
theorem dX9_fourLetters_7 : decode cX9_fourLetters 7 = .ok (.ifCond .eq 6, 3) := by decide +kernel
theorem dX9_fourLetters_10 : decode cX9_fourLetters 10 = .ok (.bipush 18, 2) := by decide +kernel
theorem dX9_fourLetters_12 : decode cX9_fourLetters 12 = .ok (.ireturn, 1) := by decide +kernel
theorem dX9_fourLetters_13 : decode cX9_fourLetters 13 = .ok (.aload_n 0, 1) := by decide +kernel
theorem dX9_fourLetters_14 : decode cX9_fourLetters 14 = .ok (.iload_n 1, 1) := by decide +kernel
theorem dX9_fourLetters_15 : decode cX9_fourLetters 15 = .ok (.ldc 100, 2) := by decide +kernel
theorem dX9_fourLetters_17 : decode cX9_fourLetters 17 = .ok (.invokestatic 68, 3) := by decide +kernel
theorem dX9_fourLetters_20 : decode cX9_fourLetters 20 = .ok (.ifCond .eq 6, 3) := by decide +kernel
theorem dX9_fourLetters_23 : decode cX9_fourLetters 23 = .ok (.bipush 20, 2) := by decide +kernel
theorem dX9_fourLetters_25 : decode cX9_fourLetters 25 = .ok (.ireturn, 1) := by decide +kernel
theorem dX9_fourLetters_26 : decode cX9_fourLetters 26 = .ok (.aload_n 0, 1) := by decide +kernel
theorem dX9_fourLetters_27 : decode cX9_fourLetters 27 = .ok (.iload_n 1, 1) := by decide +kernel
theorem dX9_fourLetters_28 : decode cX9_fourLetters 28 = .ok (.ldc 102, 2) := by decide +kernel
theorem dX9_fourLetters_30 : decode cX9_fourLetters 30 = .ok (.invokestatic 68, 3) := by decide +kernel
theorem dX9_fourLetters_33 : decode cX9_fourLetters 33 = .ok (.ifCond .eq 6, 3) := by decide +kernel
theorem dX9_fourLetters_36 : decode cX9_fourLetters 36 = .ok (.bipush 25, 2) := by decide +kernel
theorem dX9_fourLetters_38 : decode cX9_fourLetters 38 = .ok (.ireturn, 1) := by decide +kernel
theorem dX9_fourLetters_39 : decode cX9_fourLetters 39 = .ok (.aload_n 0, 1) := by decide +kernel
theorem dX9_fourLetters_40 : decode cX9_fourLetters 40 = .ok (.iload_n 1, 1) := by decide +kernel
theorem dX9_fourLetters_41 : decode cX9_fourLetters 41 = .ok (.ldc 104, 2) := by decide +kernel
theorem dX9_fourLetters_43 : decode cX9_fourLetters 43 = .ok (.invokestatic 68, 3) := by decide +kernel
theorem dX9_fourLetters_46 : decode cX9_fourLetters 46 = .ok (.ifCond .eq 6, 3) := by decide +kernel
theorem dX9_fourLetters_49 : decode cX9_fourLetters 49 = .ok (.bipush 32, 2) := by decide +kernel
theorem dX9_fourLetters_51 : decode cX9_fourLetters 51 = .ok (.ireturn, 1) := by decide +kernel
theorem dX9_fourLetters_52 : decode cX9_fourLetters 52 = .ok (.aload_n 0, 1) := by decide +kernel
theorem dX9_fourLetters_53 : decode cX9_fourLetters 53 = .ok (.iload_n 1, 1) := by decide +kernel
theorem dX9_fourLetters_54 : decode cX9_fourLetters 54 = .ok (.ldc 106, 2) := by decide +kernel
theorem dX9_fourLetters_56 : decode cX9_fourLetters 56 = .ok (.invokestatic 68, 3) := by decide +kernel
theorem dX9_fourLetters_59 : decode cX9_fourLetters 59 = .ok (.ifCond .eq 6, 3) := by decide +kernel
theorem dX9_fourLetters_62 : decode cX9_fourLetters 62 = .ok (.bipush 33, 2) := by decide +kernel
theorem dX9_fourLetters_64 : decode cX9_fourLetters 64 = .ok (.ireturn, 1) := by decide +kernel
theorem dX9_fourLetters_65 : decode cX9_fourLetters 65 = .ok (.aload_n 0, 1) := by decide +kernel
theorem dX9_fourLetters_66 : decode cX9_fourLetters 66 = .ok (.iload_n 1, 1) := by decide +kernel
theorem dX9_fourLetters_67 : decode cX9_fourLetters 67 = .ok (.ldc 108, 2) := by decide +kernel
theorem dX9_fourLetters_69 : decode cX9_fourLetters 69 = .ok (.invokestatic 68, 3) := by decide +kernel
theorem dX9_fourLetters_72 : decode cX9_fourLetters 72 = .ok (.ifCond .eq 6, 3) := by decide +kernel
theorem dX9_fourLetters_75 : decode cX9_fourLetters 75 = .ok (.bipush 41, 2) := by decide +kernel
theorem dX9_fourLetters_77 : decode cX9_fourLetters 77 = .ok (.ireturn, 1) := by decide +kernel
theorem dX9_fourLetters_78 : decode cX9_fourLetters 78 = .ok (.aload_n 0, 1) := by decide +kernel
theorem dX9_fourLetters_79 : decode cX9_fourLetters 79 = .ok (.iload_n 1, 1) := by decide +kernel
theorem dX9_fourLetters_80 : decode cX9_fourLetters 80 = .ok (.ldc 110, 2) := by decide +kernel
theorem dX9_fourLetters_82 : decode cX9_fourLetters 82 = .ok (.invokestatic 68, 3) := by decide +kernel
theorem dX9_fourLetters_85 : decode cX9_fourLetters 85 = .ok (.ifCond .eq 8, 3) := by decide +kernel
theorem dX9_fourLetters_88 : decode cX9_fourLetters 88 = .ok (.bipush 43, 2) := by decide +kernel
theorem dX9_fourLetters_90 : decode cX9_fourLetters 90 = .ok (.goto 4, 3) := by decide +kernel
theorem dX9_fourLetters_93 : decode cX9_fourLetters 93 = .ok (.iconst 1, 1) := by decide +kernel
theorem dX9_fourLetters_94 : decode cX9_fourLetters 94 = .ok (.ireturn, 1) := by decide +kernel
set_option maxRecDepth 20000 in
theorem ggX9_fiveLetters_X9_spells : GoodIn wsX9_fiveLetters wsX9_spells := goodIn_r _ [4, 5, 6, 7, 8, 9, 10, 11, 12, 13, 14, 15, 16, 17, 18, 19, 20, 21, 22, 23, 24, 25, 26, 27, 28, 29, 30, 31, 32, 33, 34, 35, 36, 37, 38, 39, 40, 41, 42, 43, 44, 45, 46, 47, 48, 49, 50, 51, 52, 53] (by decide +kernel) (by decide +kernel)
set_option maxRecDepth 20000 in
theorem gX9_fiveLetters_X9_spells : GoodIn wsX9_fiveLetters (va_wsS RX9 68 yX9_spells wsX9_spells) := goodIn_app (goodIn_of _ (by decide +kernel)) ggX9_fiveLetters_X9_spells
theorem dX9_fiveLetters_0 : decode cX9_fiveLetters 0 = .ok (.aload_n 0, 1) := by decide +kernel
theorem dX9_fiveLetters_1 : decode cX9_fiveLetters 1 = .ok (.iload_n 1, 1) := by decide +kernel
theorem dX9_fiveLetters_2 : decode cX9_fiveLetters 2 = .ok (.ldc 112, 2) := by decide +kernel
theorem dX9_fiveLetters_4 : decode cX9_fiveLetters 4 = .ok (.invokestatic 68, 3) := by decide +kernel
theorem dX9_fiveLetters_7 : decode cX9_fiveLetters 7 = .ok (.ifCond .eq 6, 3) := by decide +kernel
theorem dX9_fiveLetters_10 : decode cX9_fiveLetters 10 = .ok (.bipush 16, 2) := by decide +kernel
theorem dX9_fiveLetters_12 : decode cX9_fiveLetters 12 = .ok (.ireturn, 1) := by decide +kernel
theorem dX9_fiveLetters_13 : decode cX9_fiveLetters 13 = .ok (.aload_n 0, 1) := by decide +kernel
theorem dX9_fiveLetters_14 : decode cX9_fiveLetters 14 = .ok (.iload_n 1, 1) := by decide +kernel
theorem dX9_fiveLetters_15 : decode cX9_fiveLetters 15 = .ok (.ldc 114, 2) := by decide +kernel
theorem dX9_fiveLetters_17 : decode cX9_fiveLetters 17 = .ok (.invokestatic 68, 3) := by decide +kernel
theorem dX9_fiveLetters_20 : decode cX9_fiveLetters 20 = .ok (.ifCond .eq 6, 3) := by decide +kernel
theorem dX9_fiveLetters_23 : decode cX9_fiveLetters 23 = .ok (.bipush 17, 2) := by decide +kernel
theorem dX9_fiveLetters_25 : decode cX9_fiveLetters 25 = .ok (.ireturn, 1) := by decide +kernel
theorem dX9_fiveLetters_26 : decode cX9_fiveLetters 26 = .ok (.aload_n 0, 1) := by decide +kernel
theorem dX9_fiveLetters_27 : decode cX9_fiveLetters 27 = .ok (.iload_n 1, 1) := by decide +kernel
theorem dX9_fiveLetters_28 : decode cX9_fiveLetters 28 = .ok (.ldc 116, 2) := by decide +kernel
theorem dX9_fiveLetters_30 : decode cX9_fiveLetters 30 = .ok (.invokestatic 68, 3) := by decide +kernel
theorem dX9_fiveLetters_33 : decode cX9_fiveLetters 33 = .ok (.ifCond .eq 6, 3) := by decide +kernel
theorem dX9_fiveLetters_36 : decode cX9_fiveLetters 36 = .ok (.bipush 23, 2) := by decide +kernel
theorem dX9_fiveLetters_38 : decode cX9_fiveLetters 38 = .ok (.ireturn, 1) := by decide +kernel
theorem dX9_fiveLetters_39 : decode cX9_fiveLetters 39 = .ok (.aload_n 0, 1) := by decide +kernel
theorem dX9_fiveLetters_40 : decode cX9_fiveLetters 40 = .ok (.iload_n 1, 1) := by decide +kernel
theorem dX9_fiveLetters_41 : decode cX9_fiveLetters 41 = .ok (.ldc 118, 2) := by decide +kernel
theorem dX9_fiveLetters_43 : decode cX9_fiveLetters 43 = .ok (.invokestatic 68, 3) := by decide +kernel
theorem dX9_fiveLetters_46 : decode cX9_fiveLetters 46 = .ok (.ifCond .eq 6, 3) := by decide +kernel
theorem dX9_fiveLetters_49 : decode cX9_fiveLetters 49 = .ok (.bipush 27, 2) := by decide +kernel
theorem dX9_fiveLetters_51 : decode cX9_fiveLetters 51 = .ok (.ireturn, 1) := by decide +kernel
theorem dX9_fiveLetters_52 : decode cX9_fiveLetters 52 = .ok (.aload_n 0, 1) := by decide +kernel
theorem dX9_fiveLetters_53 : decode cX9_fiveLetters 53 = .ok (.iload_n 1, 1) := by decide +kernel
theorem dX9_fiveLetters_54 : decode cX9_fiveLetters 54 = .ok (.ldc 120, 2) := by decide +kernel
theorem dX9_fiveLetters_56 : decode cX9_fiveLetters 56 = .ok (.invokestatic 68, 3) := by decide +kernel
theorem dX9_fiveLetters_59 : decode cX9_fiveLetters 59 = .ok (.ifCond .eq 6, 3) := by decide +kernel
theorem dX9_fiveLetters_62 : decode cX9_fiveLetters 62 = .ok (.bipush 30, 2) := by decide +kernel
theorem dX9_fiveLetters_64 : decode cX9_fiveLetters 64 = .ok (.ireturn, 1) := by decide +kernel
theorem dX9_fiveLetters_65 : decode cX9_fiveLetters 65 = .ok (.aload_n 0, 1) := by decide +kernel
theorem dX9_fiveLetters_66 : decode cX9_fiveLetters 66 = .ok (.iload_n 1, 1) := by decide +kernel
theorem dX9_fiveLetters_67 : decode cX9_fiveLetters 67 = .ok (.ldc 122, 2) := by decide +kernel
theorem dX9_fiveLetters_69 : decode cX9_fiveLetters 69 = .ok (.invokestatic 68, 3) := by decide +kernel
theorem dX9_fiveLetters_72 : decode cX9_fiveLetters 72 = .ok (.ifCond .eq 6, 3) := by decide +kernel
theorem dX9_fiveLetters_75 : decode cX9_fiveLetters 75 = .ok (.bipush 39, 2) := by decide +kernel
theorem dX9_fiveLetters_77 : decode cX9_fiveLetters 77 = .ok (.ireturn, 1) := by decide +kernel
theorem dX9_fiveLetters_78 : decode cX9_fiveLetters 78 = .ok (.aload_n 0, 1) := by decide +kernel
theorem dX9_fiveLetters_79 : decode cX9_fiveLetters 79 = .ok (.iload_n 1, 1) := by decide +kernel
theorem dX9_fiveLetters_80 : decode cX9_fiveLetters 80 = .ok (.ldc 124, 2) := by decide +kernel
theorem dX9_fiveLetters_82 : decode cX9_fiveLetters 82 = .ok (.invokestatic 68, 3) := by decide +kernel
theorem dX9_fiveLetters_85 : decode cX9_fiveLetters 85 = .ok (.ifCond .eq 6, 3) := by decide +kernel
theorem dX9_fiveLetters_88 : decode cX9_fiveLetters 88 = .ok (.bipush 42, 2) := by decide +kernel
theorem dX9_fiveLetters_90 : decode cX9_fiveLetters 90 = .ok (.ireturn, 1) := by decide +kernel
theorem dX9_fiveLetters_91 : decode cX9_fiveLetters 91 = .ok (.aload_n 0, 1) := by decide +kernel
theorem dX9_fiveLetters_92 : decode cX9_fiveLetters 92 = .ok (.iload_n 1, 1) := by decide +kernel
theorem dX9_fiveLetters_93 : decode cX9_fiveLetters 93 = .ok (.ldc 126, 2) := by decide +kernel
theorem dX9_fiveLetters_95 : decode cX9_fiveLetters 95 = .ok (.invokestatic 68, 3) := by decide +kernel
theorem dX9_fiveLetters_98 : decode cX9_fiveLetters 98 = .ok (.ifCond .eq 8, 3) := by decide +kernel
theorem dX9_fiveLetters_101 : decode cX9_fiveLetters 101 = .ok (.bipush 44, 2) := by decide +kernel
theorem dX9_fiveLetters_103 : decode cX9_fiveLetters 103 = .ok (.goto 4, 3) := by decide +kernel
theorem dX9_fiveLetters_106 : decode cX9_fiveLetters 106 = .ok (.iconst 1, 1) := by decide +kernel
theorem dX9_fiveLetters_107 : decode cX9_fiveLetters 107 = .ok (.ireturn, 1) := by decide +kernel
set_option maxRecDepth 20000 in
theorem ggX9_spells_J0_length_8abf5 : GoodIn wsX9_spells wsJ0_length_8abf5 := goodIn_r _ [5, 6, 7, 8, 9, 4, 10, 11, 12] (by decide +kernel) (by decide +kernel)
set_option maxRecDepth 20000 in
theorem gX9_spells_J0_length_8abf5 : GoodIn wsX9_spells (wsV RX9 128 RJ0 yJ0_length_8abf5 wsJ0_length_8abf5) := goodIn_app (goodIn_of _ (by decide +kernel)) ggX9_spells_J0_length_8abf5
set_option maxRecDepth 20000 in
theorem ggX9_spells_J0_charAt_5068e : GoodIn wsX9_spells wsJ0_charAt_5068e := goodIn_r _ [16, 6, 17, 18, 19, 4, 20, 11, 12, 21, 22, 23, 24, 25, 26, 27, 28, 29, 30, 31, 32, 33, 34, 35, 36, 37, 38, 39, 40, 41, 42, 43, 44, 45, 46, 47, 48, 49] (by decide +kernel) (by decide +kernel)
set_option maxRecDepth 20000 in
theorem gX9_spells_J0_charAt_5068e : GoodIn wsX9_spells (wsV RX9 134 RJ0 yJ0_charAt_5068e wsJ0_charAt_5068e) := goodIn_app (goodIn_of _ (by decide +kernel)) ggX9_spells_J0_charAt_5068e
theorem dX9_spells_0 : decode cX9_spells 0 = .ok (.iload_n 1, 1) := by decide +kernel
theorem dX9_spells_1 : decode cX9_spells 1 = .ok (.ifCond .lt 14, 3) := by decide +kernel
theorem dX9_spells_4 : decode cX9_spells 4 = .ok (.iload_n 1, 1) := by decide +kernel
theorem dX9_spells_5 : decode cX9_spells 5 = .ok (.aload_n 2, 1) := by decide +kernel
theorem dX9_spells_6 : decode cX9_spells 6 = .ok (.invokevirtual 128, 3) := by decide +kernel
theorem dX9_spells_9 : decode cX9_spells 9 = .ok (.iadd, 1) := by decide +kernel
theorem dX9_spells_10 : decode cX9_spells 10 = .ok (.aload_n 0, 1) := by decide +kernel
theorem dX9_spells_11 : decode cX9_spells 11 = .ok (.arraylength, 1) := by decide +kernel
theorem dX9_spells_12 : decode cX9_spells 12 = .ok (.if_icmp .le 5, 3) := by decide +kernel
theorem dX9_spells_15 : decode cX9_spells 15 = .ok (.iconst 0, 1) := by decide +kernel
theorem dX9_spells_16 : decode cX9_spells 16 = .ok (.ireturn, 1) := by decide +kernel
theorem dX9_spells_17 : decode cX9_spells 17 = .ok (.iconst 0, 1) := by decide +kernel
theorem dX9_spells_18 : decode cX9_spells 18 = .ok (.istore_n 3, 1) := by decide +kernel
theorem dX9_spells_19 : decode cX9_spells 19 = .ok (.iload_n 3, 1) := by decide +kernel
theorem dX9_spells_20 : decode cX9_spells 20 = .ok (.aload_n 2, 1) := by decide +kernel
theorem dX9_spells_21 : decode cX9_spells 21 = .ok (.invokevirtual 128, 3) := by decide +kernel
theorem dX9_spells_24 : decode cX9_spells 24 = .ok (.if_icmp .ge 24, 3) := by decide +kernel
theorem dX9_spells_27 : decode cX9_spells 27 = .ok (.aload_n 0, 1) := by decide +kernel
theorem dX9_spells_28 : decode cX9_spells 28 = .ok (.iload_n 1, 1) := by decide +kernel
theorem dX9_spells_29 : decode cX9_spells 29 = .ok (.iload_n 3, 1) := by decide +kernel
theorem dX9_spells_30 : decode cX9_spells 30 = .ok (.iadd, 1) := by decide +kernel
theorem dX9_spells_31 : decode cX9_spells 31 = .ok (.iaload, 1) := by decide +kernel
theorem dX9_spells_32 : decode cX9_spells 32 = .ok (.aload_n 2, 1) := by decide +kernel
theorem dX9_spells_33 : decode cX9_spells 33 = .ok (.iload_n 3, 1) := by decide +kernel
theorem dX9_spells_34 : decode cX9_spells 34 = .ok (.invokevirtual 134, 3) := by decide +kernel
theorem dX9_spells_37 : decode cX9_spells 37 = .ok (.if_icmp .eq 5, 3) := by decide +kernel
theorem dX9_spells_40 : decode cX9_spells 40 = .ok (.iconst 0, 1) := by decide +kernel
theorem dX9_spells_41 : decode cX9_spells 41 = .ok (.ireturn, 1) := by decide +kernel
theorem dX9_spells_42 : decode cX9_spells 42 = .ok (.iinc 3 1, 3) := by decide +kernel
theorem dX9_spells_45 : decode cX9_spells 45 = .ok (.goto (-26), 3) := by decide +kernel
theorem dX9_spells_48 : decode cX9_spells 48 = .ok (.iconst 1, 1) := by decide +kernel
theorem dX9_spells_49 : decode cX9_spells 49 = .ok (.ireturn, 1) := by decide +kernel
theorem dX10_init_0 : decode cX10_init 0 = .ok (.aload_n 0, 1) := by decide +kernel
theorem dX10_init_1 : decode cX10_init 1 = .ok (.invokespecial 3, 3) := by decide +kernel
theorem dX10_init_4 : decode cX10_init 4 = .ok (.aload_n 0, 1) := by decide +kernel
theorem dX10_init_5 : decode cX10_init 5 = .ok (.bipush 12, 2) := by decide +kernel
theorem dX10_init_7 : decode cX10_init 7 = .ok (.newarray .int, 2) := by decide +kernel
theorem dX10_init_9 : decode cX10_init 9 = .ok (.putfield 9, 3) := by decide +kernel
theorem dX10_init_12 : decode cX10_init 12 = .ok (.aload_n 0, 1) := by decide +kernel
theorem dX10_init_13 : decode cX10_init 13 = .ok (.bipush 12, 2) := by decide +kernel
theorem dX10_init_15 : decode cX10_init 15 = .ok (.newarray .int, 2) := by decide +kernel
theorem dX10_init_17 : decode cX10_init 17 = .ok (.putfield 15, 3) := by decide +kernel
theorem dX10_init_20 : decode cX10_init 20 = .ok (.aload_n 0, 1) := by decide +kernel
theorem dX10_init_21 : decode cX10_init 21 = .ok (.bipush 12, 2) := by decide +kernel
theorem dX10_init_23 : decode cX10_init 23 = .ok (.newarray .int, 2) := by decide +kernel
theorem dX10_init_25 : decode cX10_init 25 = .ok (.putfield 18, 3) := by decide +kernel
theorem dX10_init_28 : decode cX10_init 28 = .ok (.aload_n 0, 1) := by decide +kernel
theorem dX10_init_29 : decode cX10_init 29 = .ok (.bipush 12, 2) := by decide +kernel
theorem dX10_init_31 : decode cX10_init 31 = .ok (.newarray .int, 2) := by decide +kernel
theorem dX10_init_33 : decode cX10_init 33 = .ok (.putfield 21, 3) := by decide +kernel
theorem dX10_init_36 : decode cX10_init 36 = .ok (.aload_n 0, 1) := by decide +kernel
theorem dX10_init_37 : decode cX10_init 37 = .ok (.bipush 12, 2) := by decide +kernel
theorem dX10_init_39 : decode cX10_init 39 = .ok (.newarray .int, 2) := by decide +kernel
theorem dX10_init_41 : decode cX10_init 41 = .ok (.putfield 24, 3) := by decide +kernel
theorem dX10_init_44 : decode cX10_init 44 = .ok (.iconst 0, 1) := by decide +kernel
theorem dX10_init_45 : decode cX10_init 45 = .ok (.istore_n 1, 1) := by decide +kernel
theorem dX10_init_46 : decode cX10_init 46 = .ok (.iload_n 1, 1) := by decide +kernel
theorem dX10_init_47 : decode cX10_init 47 = .ok (.bipush 12, 2) := by decide +kernel
theorem dX10_init_49 : decode cX10_init 49 = .ok (.if_icmp .ge 17, 3) := by decide +kernel
theorem dX10_init_52 : decode cX10_init 52 = .ok (.aload_n 0, 1) := by decide +kernel
theorem dX10_init_53 : decode cX10_init 53 = .ok (.getfield 9, 3) := by decide +kernel
theorem dX10_init_56 : decode cX10_init 56 = .ok (.iload_n 1, 1) := by decide +kernel
theorem dX10_init_57 : decode cX10_init 57 = .ok (.bipush 10, 2) := by decide +kernel
theorem dX10_init_59 : decode cX10_init 59 = .ok (.iastore, 1) := by decide +kernel
theorem dX10_init_60 : decode cX10_init 60 = .ok (.iinc 1 1, 3) := by decide +kernel
theorem dX10_init_63 : decode cX10_init 63 = .ok (.goto (-17), 3) := by decide +kernel
theorem dX10_init_66 : decode cX10_init 66 = .ok (.return_, 1) := by decide +kernel
theorem dX10_copyFrom_0 : decode cX10_copyFrom 0 = .ok (.aload_n 1, 1) := by decide +kernel
theorem dX10_copyFrom_1 : decode cX10_copyFrom 1 = .ok (.getfield 9, 3) := by decide +kernel
theorem dX10_copyFrom_4 : decode cX10_copyFrom 4 = .ok (.iconst 0, 1) := by decide +kernel
theorem dX10_copyFrom_5 : decode cX10_copyFrom 5 = .ok (.aload_n 0, 1) := by decide +kernel
theorem dX10_copyFrom_6 : decode cX10_copyFrom 6 = .ok (.getfield 9, 3) := by decide +kernel
theorem dX10_copyFrom_9 : decode cX10_copyFrom 9 = .ok (.iconst 0, 1) := by decide +kernel
theorem dX10_copyFrom_10 : decode cX10_copyFrom 10 = .ok (.bipush 12, 2) := by decide +kernel
theorem dX10_copyFrom_12 : decode cX10_copyFrom 12 = .ok (.invokestatic 27, 3) := by decide +kernel
theorem dX10_copyFrom_15 : decode cX10_copyFrom 15 = .ok (.aload_n 1, 1) := by decide +kernel
theorem dX10_copyFrom_16 : decode cX10_copyFrom 16 = .ok (.getfield 15, 3) := by decide +kernel
theorem dX10_copyFrom_19 : decode cX10_copyFrom 19 = .ok (.iconst 0, 1) := by decide +kernel
theorem dX10_copyFrom_20 : decode cX10_copyFrom 20 = .ok (.aload_n 0, 1) := by decide +kernel
theorem dX10_copyFrom_21 : decode cX10_copyFrom 21 = .ok (.getfield 15, 3) := by decide +kernel
theorem dX10_copyFrom_24 : decode cX10_copyFrom 24 = .ok (.iconst 0, 1) := by decide +kernel
theorem dX10_copyFrom_25 : decode cX10_copyFrom 25 = .ok (.bipush 12, 2) := by decide +kernel
theorem dX10_copyFrom_27 : decode cX10_copyFrom 27 = .ok (.invokestatic 27, 3) := by decide +kernel
theorem dX10_copyFrom_30 : decode cX10_copyFrom 30 = .ok (.aload_n 1, 1) := by decide +kernel
theorem dX10_copyFrom_31 : decode cX10_copyFrom 31 = .ok (.getfield 18, 3) := by decide +kernel
theorem dX10_copyFrom_34 : decode cX10_copyFrom 34 = .ok (.iconst 0, 1) := by decide +kernel
theorem dX10_copyFrom_35 : decode cX10_copyFrom 35 = .ok (.aload_n 0, 1) := by decide +kernel
theorem dX10_copyFrom_36 : decode cX10_copyFrom 36 = .ok (.getfield 18, 3) := by decide +kernel
theorem dX10_copyFrom_39 : decode cX10_copyFrom 39 = .ok (.iconst 0, 1) := by decide +kernel
theorem dX10_copyFrom_40 : decode cX10_copyFrom 40 = .ok (.bipush 12, 2) := by decide +kernel
theorem dX10_copyFrom_42 : decode cX10_copyFrom 42 = .ok (.invokestatic 27, 3) := by decide +kernel
theorem dX10_copyFrom_45 : decode cX10_copyFrom 45 = .ok (.aload_n 1, 1) := by decide +kernel
theorem dX10_copyFrom_46 : decode cX10_copyFrom 46 = .ok (.getfield 21, 3) := by decide +kernel
theorem dX10_copyFrom_49 : decode cX10_copyFrom 49 = .ok (.iconst 0, 1) := by decide +kernel
theorem dX10_copyFrom_50 : decode cX10_copyFrom 50 = .ok (.aload_n 0, 1) := by decide +kernel
theorem dX10_copyFrom_51 : decode cX10_copyFrom 51 = .ok (.getfield 21, 3) := by decide +kernel
theorem dX10_copyFrom_54 : decode cX10_copyFrom 54 = .ok (.iconst 0, 1) := by decide +kernel
theorem dX10_copyFrom_55 : decode cX10_copyFrom 55 = .ok (.bipush 12, 2) := by decide +kernel
theorem dX10_copyFrom_57 : decode cX10_copyFrom 57 = .ok (.invokestatic 27, 3) := by decide +kernel
theorem dX10_copyFrom_60 : decode cX10_copyFrom 60 = .ok (.aload_n 1, 1) := by decide +kernel
theorem dX10_copyFrom_61 : decode cX10_copyFrom 61 = .ok (.getfield 24, 3) := by decide +kernel
theorem dX10_copyFrom_64 : decode cX10_copyFrom 64 = .ok (.iconst 0, 1) := by decide +kernel
theorem dX10_copyFrom_65 : decode cX10_copyFrom 65 = .ok (.aload_n 0, 1) := by decide +kernel
theorem dX10_copyFrom_66 : decode cX10_copyFrom 66 = .ok (.getfield 24, 3) := by decide +kernel
theorem dX10_copyFrom_69 : decode cX10_copyFrom 69 = .ok (.iconst 0, 1) := by decide +kernel
theorem dX10_copyFrom_70 : decode cX10_copyFrom 70 = .ok (.bipush 12, 2) := by decide +kernel
theorem dX10_copyFrom_72 : decode cX10_copyFrom 72 = .ok (.invokestatic 27, 3) := by decide +kernel
theorem dX10_copyFrom_75 : decode cX10_copyFrom 75 = .ok (.return_, 1) := by decide +kernel
set_option maxRecDepth 20000 in
theorem ggX10_tellHanging_X11_isWant : GoodIn wsX10_tellHanging wsX11_isWant := goodIn_r _ [4] (by decide +kernel) (by decide +kernel)
set_option maxRecDepth 20000 in
theorem gX10_tellHanging_X11_isWant_n33 : GoodIn wsX10_tellHanging (wsX11_isWant) := ggX10_tellHanging_X11_isWant
set_option maxRecDepth 20000 in
theorem ggX10_tellHanging_X11_has : GoodIn wsX10_tellHanging wsX11_has := goodIn_r _ [6] (by decide +kernel) (by decide +kernel)
set_option maxRecDepth 20000 in
theorem gX10_tellHanging_X11_has_n37 : GoodIn wsX10_tellHanging (wsX11_has) := ggX10_tellHanging_X11_has
set_option maxRecDepth 20000 in
theorem ggX10_tellHanging_X10_settle : GoodIn wsX10_tellHanging wsX10_settle := goodIn_r _ [11, 1, 12, 13, 14, 15, 16, 17, 18, 5, 3, 6, 19, 20, 21, 22, 23, 24, 25, 26, 27, 28, 29, 30] (by decide +kernel) (by decide +kernel)
set_option maxRecDepth 20000 in
theorem gX10_tellHanging_X10_settle : GoodIn wsX10_tellHanging (wsV RX10 41 RX10 yX10_settle wsX10_settle) := goodIn_app (goodIn_of _ (by decide +kernel)) ggX10_tellHanging_X10_settle
theorem dX10_tellHanging_0 : decode cX10_tellHanging 0 = .ok (.iload_n 1, 1) := by decide +kernel
theorem dX10_tellHanging_1 : decode cX10_tellHanging 1 = .ok (.invokestatic 33, 3) := by decide +kernel
theorem dX10_tellHanging_4 : decode cX10_tellHanging 4 = .ok (.ifCond .eq 29, 3) := by decide +kernel
theorem dX10_tellHanging_7 : decode cX10_tellHanging 7 = .ok (.iload_n 2, 1) := by decide +kernel
theorem dX10_tellHanging_8 : decode cX10_tellHanging 8 = .ok (.invokestatic 33, 3) := by decide +kernel
theorem dX10_tellHanging_11 : decode cX10_tellHanging 11 = .ok (.ifCond .eq 22, 3) := by decide +kernel
theorem dX10_tellHanging_14 : decode cX10_tellHanging 14 = .ok (.iload_n 2, 1) := by decide +kernel
theorem dX10_tellHanging_15 : decode cX10_tellHanging 15 = .ok (.iload_n 1, 1) := by decide +kernel
theorem dX10_tellHanging_16 : decode cX10_tellHanging 16 = .ok (.if_icmp .le 17, 3) := by decide +kernel
theorem dX10_tellHanging_19 : decode cX10_tellHanging 19 = .ok (.aload_n 0, 1) := by decide +kernel
theorem dX10_tellHanging_20 : decode cX10_tellHanging 20 = .ok (.getfield 15, 3) := by decide +kernel
theorem dX10_tellHanging_23 : decode cX10_tellHanging 23 = .ok (.iload_n 1, 1) := by decide +kernel
theorem dX10_tellHanging_24 : decode cX10_tellHanging 24 = .ok (.iaload, 1) := by decide +kernel
theorem dX10_tellHanging_25 : decode cX10_tellHanging 25 = .ok (.iload_n 2, 1) := by decide +kernel
theorem dX10_tellHanging_26 : decode cX10_tellHanging 26 = .ok (.invokestatic 37, 3) := by decide +kernel
theorem dX10_tellHanging_29 : decode cX10_tellHanging 29 = .ok (.iload_n 3, 1) := by decide +kernel
theorem dX10_tellHanging_30 : decode cX10_tellHanging 30 = .ok (.if_icmp .ne 5, 3) := by decide +kernel
theorem dX10_tellHanging_33 : decode cX10_tellHanging 33 = .ok (.iconst 0, 1) := by decide +kernel
theorem dX10_tellHanging_34 : decode cX10_tellHanging 34 = .ok (.ireturn, 1) := by decide +kernel
theorem dX10_tellHanging_35 : decode cX10_tellHanging 35 = .ok (.aload_n 0, 1) := by decide +kernel
theorem dX10_tellHanging_36 : decode cX10_tellHanging 36 = .ok (.getfield 15, 3) := by decide +kernel
theorem dX10_tellHanging_39 : decode cX10_tellHanging 39 = .ok (.iload_n 1, 1) := by decide +kernel
theorem dX10_tellHanging_40 : decode cX10_tellHanging 40 = .ok (.dup2, 1) := by decide +kernel
theorem dX10_tellHanging_41 : decode cX10_tellHanging 41 = .ok (.iaload, 1) := by decide +kernel
theorem dX10_tellHanging_42 : decode cX10_tellHanging 42 = .ok (.iconst 1, 1) := by decide +kernel
theorem dX10_tellHanging_43 : decode cX10_tellHanging 43 = .ok (.iload_n 2, 1) := by decide +kernel
theorem dX10_tellHanging_44 : decode cX10_tellHanging 44 = .ok (.ishl, 1) := by decide +kernel
theorem dX10_tellHanging_45 : decode cX10_tellHanging 45 = .ok (.ixor, 1) := by decide +kernel
theorem dX10_tellHanging_46 : decode cX10_tellHanging 46 = .ok (.iastore, 1) := by decide +kernel
theorem dX10_tellHanging_47 : decode cX10_tellHanging 47 = .ok (.aload_n 0, 1) := by decide +kernel
theorem dX10_tellHanging_48 : decode cX10_tellHanging 48 = .ok (.invokevirtual 41, 3) := by decide +kernel
theorem dX10_tellHanging_51 : decode cX10_tellHanging 51 = .ok (.iconst 1, 1) := by decide +kernel
theorem dX10_tellHanging_52 : decode cX10_tellHanging 52 = .ok (.ireturn, 1) := by decide +kernel
set_option maxRecDepth 20000 in
theorem ggX10_settle_X11_has : GoodIn wsX10_settle wsX11_has := goodIn_r _ [11] (by decide +kernel) (by decide +kernel)
set_option maxRecDepth 20000 in
theorem gX10_settle_X11_has_n37 : GoodIn wsX10_settle (wsX11_has) := ggX10_settle_X11_has
set_option maxRecDepth 20000 in
theorem ggX10_settle_J6_bitCount_0f7a4 : GoodIn wsX10_settle wsJ6_bitCount_0f7a4 := goodIn_r _ [15, 16, 17, 18] (by decide +kernel) (by decide +kernel)
set_option maxRecDepth 20000 in
theorem gX10_settle_J6_bitCount_0f7a4 : GoodIn wsX10_settle (va_wsS RX10 50 yJ6_bitCount_0f7a4 wsJ6_bitCount_0f7a4) := goodIn_app (goodIn_of _ (by decide +kernel)) ggX10_settle_J6_bitCount_0f7a4
theorem dX10_settle_0 : decode cX10_settle 0 = .ok (.bipush 11, 2) := by decide +kernel
theorem dX10_settle_2 : decode cX10_settle 2 = .ok (.istore_n 1, 1) := by decide +kernel
theorem dX10_settle_3 : decode cX10_settle 3 = .ok (.iload_n 1, 1) := by decide +kernel
theorem dX10_settle_4 : decode cX10_settle 4 = .ok (.ifCond .lt 98, 3) := by decide +kernel
theorem dX10_settle_7 : decode cX10_settle 7 = .ok (.aload_n 0, 1) := by decide +kernel
theorem dX10_settle_8 : decode cX10_settle 8 = .ok (.getfield 15, 3) := by decide +kernel
theorem dX10_settle_11 : decode cX10_settle 11 = .ok (.iload_n 1, 1) := by decide +kernel
theorem dX10_settle_12 : decode cX10_settle 12 = .ok (.iaload, 1) := by decide +kernel
theorem dX10_settle_13 : decode cX10_settle 13 = .ok (.istore_n 2, 1) := by decide +kernel
theorem dX10_settle_14 : decode cX10_settle 14 = .ok (.iconst 0, 1) := by decide +kernel
theorem dX10_settle_15 : decode cX10_settle 15 = .ok (.istore_n 3, 1) := by decide +kernel
theorem dX10_settle_16 : decode cX10_settle 16 = .ok (.iload_n 1, 1) := by decide +kernel
theorem dX10_settle_17 : decode cX10_settle 17 = .ok (.iconst 1, 1) := by decide +kernel
theorem dX10_settle_18 : decode cX10_settle 18 = .ok (.iadd, 1) := by decide +kernel
theorem dX10_settle_19 : decode cX10_settle 19 = .ok (.istore 4, 2) := by decide +kernel
theorem dX10_settle_21 : decode cX10_settle 21 = .ok (.iload 4, 2) := by decide +kernel
theorem dX10_settle_23 : decode cX10_settle 23 = .ok (.bipush 12, 2) := by decide +kernel
theorem dX10_settle_25 : decode cX10_settle 25 = .ok (.if_icmp .ge 47, 3) := by decide +kernel
theorem dX10_settle_28 : decode cX10_settle 28 = .ok (.aload_n 0, 1) := by decide +kernel
theorem dX10_settle_29 : decode cX10_settle 29 = .ok (.getfield 15, 3) := by decide +kernel
theorem dX10_settle_32 : decode cX10_settle 32 = .ok (.iload_n 1, 1) := by decide +kernel
theorem dX10_settle_33 : decode cX10_settle 33 = .ok (.iaload, 1) := by decide +kernel
theorem dX10_settle_34 : decode cX10_settle 34 = .ok (.iload 4, 2) := by decide +kernel
theorem dX10_settle_36 : decode cX10_settle 36 = .ok (.invokestatic 37, 3) := by decide +kernel
theorem dX10_settle_39 : decode cX10_settle 39 = .ok (.ifCond .eq 27, 3) := by decide +kernel
theorem dX10_settle_42 : decode cX10_settle 42 = .ok (.iload_n 2, 1) := by decide +kernel
theorem dX10_settle_43 : decode cX10_settle 43 = .ok (.aload_n 0, 1) := by decide +kernel
theorem dX10_settle_44 : decode cX10_settle 44 = .ok (.getfield 18, 3) := by decide +kernel
theorem dX10_settle_47 : decode cX10_settle 47 = .ok (.iload 4, 2) := by decide +kernel
theorem dX10_settle_49 : decode cX10_settle 49 = .ok (.iaload, 1) := by decide +kernel
theorem dX10_settle_50 : decode cX10_settle 50 = .ok (.ior, 1) := by decide +kernel
theorem dX10_settle_51 : decode cX10_settle 51 = .ok (.istore_n 2, 1) := by decide +kernel
theorem dX10_settle_52 : decode cX10_settle 52 = .ok (.iload_n 3, 1) := by decide +kernel
theorem dX10_settle_53 : decode cX10_settle 53 = .ok (.aload_n 0, 1) := by decide +kernel
theorem dX10_settle_54 : decode cX10_settle 54 = .ok (.getfield 24, 3) := by decide +kernel
theorem dX10_settle_57 : decode cX10_settle 57 = .ok (.iload 4, 2) := by decide +kernel
theorem dX10_settle_59 : decode cX10_settle 59 = .ok (.iaload, 1) := by decide +kernel
theorem dX10_settle_60 : decode cX10_settle 60 = .ok (.iconst 1, 1) := by decide +kernel
theorem dX10_settle_61 : decode cX10_settle 61 = .ok (.iadd, 1) := by decide +kernel
theorem dX10_settle_62 : decode cX10_settle 62 = .ok (.invokestatic 44, 3) := by decide +kernel
theorem dX10_settle_65 : decode cX10_settle 65 = .ok (.istore_n 3, 1) := by decide +kernel
theorem dX10_settle_66 : decode cX10_settle 66 = .ok (.iinc 4 1, 3) := by decide +kernel
theorem dX10_settle_69 : decode cX10_settle 69 = .ok (.goto (-48), 3) := by decide +kernel
theorem dX10_settle_72 : decode cX10_settle 72 = .ok (.aload_n 0, 1) := by decide +kernel
theorem dX10_settle_73 : decode cX10_settle 73 = .ok (.getfield 18, 3) := by decide +kernel
theorem dX10_settle_76 : decode cX10_settle 76 = .ok (.iload_n 1, 1) := by decide +kernel
theorem dX10_settle_77 : decode cX10_settle 77 = .ok (.iload_n 2, 1) := by decide +kernel
theorem dX10_settle_78 : decode cX10_settle 78 = .ok (.iastore, 1) := by decide +kernel
theorem dX10_settle_79 : decode cX10_settle 79 = .ok (.aload_n 0, 1) := by decide +kernel
theorem dX10_settle_80 : decode cX10_settle 80 = .ok (.getfield 21, 3) := by decide +kernel
theorem dX10_settle_83 : decode cX10_settle 83 = .ok (.iload_n 1, 1) := by decide +kernel
theorem dX10_settle_84 : decode cX10_settle 84 = .ok (.iload_n 2, 1) := by decide +kernel
theorem dX10_settle_85 : decode cX10_settle 85 = .ok (.invokestatic 50, 3) := by decide +kernel
theorem dX10_settle_88 : decode cX10_settle 88 = .ok (.iastore, 1) := by decide +kernel
theorem dX10_settle_89 : decode cX10_settle 89 = .ok (.aload_n 0, 1) := by decide +kernel
theorem dX10_settle_90 : decode cX10_settle 90 = .ok (.getfield 24, 3) := by decide +kernel
theorem dX10_settle_93 : decode cX10_settle 93 = .ok (.iload_n 1, 1) := by decide +kernel
theorem dX10_settle_94 : decode cX10_settle 94 = .ok (.iload_n 3, 1) := by decide +kernel
theorem dX10_settle_95 : decode cX10_settle 95 = .ok (.iastore, 1) := by decide +kernel
theorem dX10_settle_96 : decode cX10_settle 96 = .ok (.iinc 1 (-1), 3) := by decide +kernel
theorem dX10_settle_99 : decode cX10_settle 99 = .ok (.goto (-96), 3) := by decide +kernel
theorem dX10_settle_102 : decode cX10_settle 102 = .ok (.return_, 1) := by decide +kernel
set_option maxRecDepth 20000 in
theorem ggX10_withLower_X11_isWant : GoodIn wsX10_withLower wsX11_isWant := goodIn_r _ [4] (by decide +kernel) (by decide +kernel)
set_option maxRecDepth 20000 in
theorem gX10_withLower_X11_isWant_n33 : GoodIn wsX10_withLower (wsX11_isWant) := ggX10_withLower_X11_isWant
theorem dX10_withLower_0 : decode cX10_withLower 0 = .ok (.iload_n 1, 1) := by decide +kernel
theorem dX10_withLower_1 : decode cX10_withLower 1 = .ok (.invokestatic 33, 3) := by decide +kernel
theorem dX10_withLower_4 : decode cX10_withLower 4 = .ok (.ifCond .eq 16, 3) := by decide +kernel
theorem dX10_withLower_7 : decode cX10_withLower 7 = .ok (.iconst 1, 1) := by decide +kernel
theorem dX10_withLower_8 : decode cX10_withLower 8 = .ok (.iload_n 1, 1) := by decide +kernel
theorem dX10_withLower_9 : decode cX10_withLower 9 = .ok (.ishl, 1) := by decide +kernel
theorem dX10_withLower_10 : decode cX10_withLower 10 = .ok (.aload_n 0, 1) := by decide +kernel
theorem dX10_withLower_11 : decode cX10_withLower 11 = .ok (.getfield 18, 3) := by decide +kernel
theorem dX10_withLower_14 : decode cX10_withLower 14 = .ok (.iload_n 1, 1) := by decide +kernel
theorem dX10_withLower_15 : decode cX10_withLower 15 = .ok (.iaload, 1) := by decide +kernel
theorem dX10_withLower_16 : decode cX10_withLower 16 = .ok (.ior, 1) := by decide +kernel
theorem dX10_withLower_17 : decode cX10_withLower 17 = .ok (.goto 4, 3) := by decide +kernel
theorem dX10_withLower_20 : decode cX10_withLower 20 = .ok (.iconst 0, 1) := by decide +kernel
theorem dX10_withLower_21 : decode cX10_withLower 21 = .ok (.ireturn, 1) := by decide +kernel
set_option maxRecDepth 20000 in
theorem ggX10_painOf_X11_has : GoodIn wsX10_painOf wsX11_has := goodIn_r _ [4] (by decide +kernel) (by decide +kernel)
set_option maxRecDepth 20000 in
theorem gX10_painOf_X11_has_n37 : GoodIn wsX10_painOf (wsX11_has) := ggX10_painOf_X11_has
theorem dX10_painOf_0 : decode cX10_painOf 0 = .ok (.iconst 0, 1) := by decide +kernel
theorem dX10_painOf_1 : decode cX10_painOf 1 = .ok (.istore_n 2, 1) := by decide +kernel
theorem dX10_painOf_2 : decode cX10_painOf 2 = .ok (.iconst 0, 1) := by decide +kernel
theorem dX10_painOf_3 : decode cX10_painOf 3 = .ok (.istore_n 3, 1) := by decide +kernel
theorem dX10_painOf_4 : decode cX10_painOf 4 = .ok (.iload_n 3, 1) := by decide +kernel
theorem dX10_painOf_5 : decode cX10_painOf 5 = .ok (.bipush 12, 2) := by decide +kernel
theorem dX10_painOf_7 : decode cX10_painOf 7 = .ok (.if_icmp .ge 26, 3) := by decide +kernel
theorem dX10_painOf_10 : decode cX10_painOf 10 = .ok (.iload_n 1, 1) := by decide +kernel
theorem dX10_painOf_11 : decode cX10_painOf 11 = .ok (.iload_n 3, 1) := by decide +kernel
theorem dX10_painOf_12 : decode cX10_painOf 12 = .ok (.invokestatic 37, 3) := by decide +kernel
theorem dX10_painOf_15 : decode cX10_painOf 15 = .ok (.ifCond .eq 12, 3) := by decide +kernel
theorem dX10_painOf_18 : decode cX10_painOf 18 = .ok (.iload_n 2, 1) := by decide +kernel
theorem dX10_painOf_19 : decode cX10_painOf 19 = .ok (.aload_n 0, 1) := by decide +kernel
theorem dX10_painOf_20 : decode cX10_painOf 20 = .ok (.getfield 9, 3) := by decide +kernel
theorem dX10_painOf_23 : decode cX10_painOf 23 = .ok (.iload_n 3, 1) := by decide +kernel
theorem dX10_painOf_24 : decode cX10_painOf 24 = .ok (.iaload, 1) := by decide +kernel
theorem dX10_painOf_25 : decode cX10_painOf 25 = .ok (.iadd, 1) := by decide +kernel
theorem dX10_painOf_26 : decode cX10_painOf 26 = .ok (.istore_n 2, 1) := by decide +kernel
theorem dX10_painOf_27 : decode cX10_painOf 27 = .ok (.iinc 3 1, 3) := by decide +kernel
theorem dX10_painOf_30 : decode cX10_painOf 30 = .ok (.goto (-26), 3) := by decide +kernel
theorem dX10_painOf_33 : decode cX10_painOf 33 = .ok (.iload_n 2, 1) := by decide +kernel
theorem dX10_painOf_34 : decode cX10_painOf 34 = .ok (.ireturn, 1) := by decide +kernel
set_option maxRecDepth 20000 in
theorem ggX11_init_X1_init : GoodIn wsX11_init wsX1_init := goodIn_r _ [47, 48, 2, 3, 49, 50, 51, 52, 53, 10, 11, 54, 55, 56, 42, 57, 58, 59, 60, 61, 62, 63, 64, 65, 66, 67, 68, 69, 70, 71, 72, 73, 74, 75, 76, 77, 78, 79, 80, 81, 217, 218, 219, 220, 221, 143, 144, 145, 146, 147, 148, 149, 150, 151, 152, 153, 154, 167, 168, 169, 170, 171, 172, 173, 174, 175, 176, 177, 178] (by decide +kernel) (by decide +kernel)
set_option maxRecDepth 20000 in
theorem gX11_init_X1_init : GoodIn wsX11_init (wsX1_init) := ggX11_init_X1_init
set_option maxRecDepth 20000 in
theorem ggX11_init_X4_init : GoodIn wsX11_init wsX4_init := goodIn_r _ [72, 73, 2, 3, 42, 74, 75, 76, 77, 78, 79, 80, 81, 167, 168, 169, 170, 171, 172, 173, 174, 175, 176, 177, 178] (by decide +kernel) (by decide +kernel)
set_option maxRecDepth 20000 in
theorem gX11_init_X4_init_n21 : GoodIn wsX11_init (wsX4_init) := ggX11_init_X4_init
set_option maxRecDepth 20000 in
theorem ggX11_init_X8_init : GoodIn wsX11_init wsX8_init := goodIn_r _ [83, 84, 2, 3, 42, 85, 86, 87, 88, 89, 179, 180, 181, 182, 183, 184, 185, 186, 187, 188, 189] (by decide +kernel) (by decide +kernel)
set_option maxRecDepth 20000 in
theorem gX11_init_X8_init_n32 : GoodIn wsX11_init (wsX8_init) := ggX11_init_X8_init
set_option maxRecDepth 20000 in
theorem ggX11_init_X7_init : GoodIn wsX11_init wsX7_init := goodIn_r _ [92, 93, 2, 3, 94, 95, 96, 97, 98, 99, 100, 101, 42, 102, 103, 104, 222, 223, 224, 225, 190, 191, 192, 193, 194, 195, 196, 197, 198] (by decide +kernel) (by decide +kernel)
set_option maxRecDepth 20000 in
theorem gX11_init_X7_init : GoodIn wsX11_init (wsX7_init) := ggX11_init_X7_init
set_option maxRecDepth 20000 in
theorem ggX11_init_X5_init : GoodIn wsX11_init wsX5_init := goodIn_r _ [107, 108, 2, 3, 42, 109, 110, 111, 199, 200, 201] (by decide +kernel) (by decide +kernel)
set_option maxRecDepth 20000 in
theorem gX11_init_X5_init : GoodIn wsX11_init (wsX5_init) := ggX11_init_X5_init
set_option maxRecDepth 20000 in
theorem ggX11_init_X2_init : GoodIn wsX11_init wsX2_init := goodIn_r _ [114, 115, 2, 3, 116, 117, 118, 202, 203, 204] (by decide +kernel) (by decide +kernel)
set_option maxRecDepth 20000 in
theorem gX11_init_X2_init : GoodIn wsX11_init (wsX2_init) := ggX11_init_X2_init
set_option maxRecDepth 20000 in
theorem ggX11_init_X6_init : GoodIn wsX11_init wsX6_init := goodIn_r _ [121, 122, 2, 3, 123, 124, 42, 125, 126, 127, 205, 206, 207, 208, 209] (by decide +kernel) (by decide +kernel)
set_option maxRecDepth 20000 in
theorem gX11_init_X6_init : GoodIn wsX11_init (wsX6_init) := ggX11_init_X6_init
set_option maxRecDepth 20000 in
theorem ggX11_init_X0_init : GoodIn wsX11_init wsX0_init := goodIn_r _ [130, 131, 2, 3, 132, 133, 42, 134, 135, 210, 211, 212] (by decide +kernel) (by decide +kernel)
set_option maxRecDepth 20000 in
theorem gX11_init_X0_init : GoodIn wsX11_init (wsX0_init) := ggX11_init_X0_init
set_option maxRecDepth 20000 in
theorem ggX11_init_X3_init : GoodIn wsX11_init wsX3_init := goodIn_r _ [138, 139, 2, 3, 42, 140, 141, 142, 213, 214, 215, 216] (by decide +kernel) (by decide +kernel)
set_option maxRecDepth 20000 in
theorem gX11_init_X3_init : GoodIn wsX11_init (wsX3_init) := ggX11_init_X3_init
theorem dX11_init_0 : decode cX11_init 0 = .ok (.aload_n 0, 1) := by decide +kernel
theorem dX11_init_1 : decode cX11_init 1 = .ok (.invokespecial 3, 3) := by decide +kernel
theorem dX11_init_4 : decode cX11_init 4 = .ok (.aload_n 0, 1) := by decide +kernel
theorem dX11_init_5 : decode cX11_init 5 = .ok (.new 9, 3) := by decide +kernel
theorem dX11_init_8 : decode cX11_init 8 = .ok (.dup, 1) := by decide +kernel
theorem dX11_init_9 : decode cX11_init 9 = .ok (.invokespecial 11, 3) := by decide +kernel
theorem dX11_init_12 : decode cX11_init 12 = .ok (.putfield 12, 3) := by decide +kernel
theorem dX11_init_15 : decode cX11_init 15 = .ok (.aload_n 0, 1) := by decide +kernel
theorem dX11_init_16 : decode cX11_init 16 = .ok (.new 9, 3) := by decide +kernel
theorem dX11_init_19 : decode cX11_init 19 = .ok (.dup, 1) := by decide +kernel
theorem dX11_init_20 : decode cX11_init 20 = .ok (.invokespecial 11, 3) := by decide +kernel
theorem dX11_init_23 : decode cX11_init 23 = .ok (.putfield 16, 3) := by decide +kernel
theorem dX11_init_26 : decode cX11_init 26 = .ok (.aload_n 0, 1) := by decide +kernel
theorem dX11_init_27 : decode cX11_init 27 = .ok (.new 19, 3) := by decide +kernel
theorem dX11_init_30 : decode cX11_init 30 = .ok (.dup, 1) := by decide +kernel
theorem dX11_init_31 : decode cX11_init 31 = .ok (.invokespecial 21, 3) := by decide +kernel
theorem dX11_init_34 : decode cX11_init 34 = .ok (.putfield 22, 3) := by decide +kernel
theorem dX11_init_37 : decode cX11_init 37 = .ok (.aload_n 0, 1) := by decide +kernel
theorem dX11_init_38 : decode cX11_init 38 = .ok (.iconst 4, 1) := by decide +kernel
theorem dX11_init_39 : decode cX11_init 39 = .ok (.anewarray 26, 3) := by decide +kernel
theorem dX11_init_42 : decode cX11_init 42 = .ok (.putfield 28, 3) := by decide +kernel
theorem dX11_init_45 : decode cX11_init 45 = .ok (.iconst 0, 1) := by decide +kernel
theorem dX11_init_46 : decode cX11_init 46 = .ok (.istore_n 1, 1) := by decide +kernel
theorem dX11_init_47 : decode cX11_init 47 = .ok (.iload_n 1, 1) := by decide +kernel
theorem dX11_init_48 : decode cX11_init 48 = .ok (.iconst 4, 1) := by decide +kernel
theorem dX11_init_49 : decode cX11_init 49 = .ok (.if_icmp .ge 22, 3) := by decide +kernel
theorem dX11_init_52 : decode cX11_init 52 = .ok (.aload_n 0, 1) := by decide +kernel
theorem dX11_init_53 : decode cX11_init 53 = .ok (.getfield 28, 3) := by decide +kernel
theorem dX11_init_56 : decode cX11_init 56 = .ok (.iload_n 1, 1) := by decide +kernel
theorem dX11_init_57 : decode cX11_init 57 = .ok (.new 26, 3) := by decide +kernel
theorem dX11_init_60 : decode cX11_init 60 = .ok (.dup, 1) := by decide +kernel
theorem dX11_init_61 : decode cX11_init 61 = .ok (.invokespecial 32, 3) := by decide +kernel
theorem dX11_init_64 : decode cX11_init 64 = .ok (.aastore, 1) := by decide +kernel
theorem dX11_init_65 : decode cX11_init 65 = .ok (.iinc 1 1, 3) := by decide +kernel
theorem dX11_init_68 : decode cX11_init 68 = .ok (.goto (-21), 3) := by decide +kernel
theorem dX11_init_71 : decode cX11_init 71 = .ok (.aload_n 0, 1) := by decide +kernel
theorem dX11_init_72 : decode cX11_init 72 = .ok (.new 33, 3) := by decide +kernel
theorem dX11_init_75 : decode cX11_init 75 = .ok (.dup, 1) := by decide +kernel
theorem dX11_init_76 : decode cX11_init 76 = .ok (.aload_n 0, 1) := by decide +kernel
theorem dX11_init_77 : decode cX11_init 77 = .ok (.getfield 28, 3) := by decide +kernel
theorem dX11_init_80 : decode cX11_init 80 = .ok (.iconst 0, 1) := by decide +kernel
theorem dX11_init_81 : decode cX11_init 81 = .ok (.aaload, 1) := by decide +kernel
theorem dX11_init_82 : decode cX11_init 82 = .ok (.invokespecial 35, 3) := by decide +kernel
theorem dX11_init_85 : decode cX11_init 85 = .ok (.putfield 38, 3) := by decide +kernel
theorem dX11_init_88 : decode cX11_init 88 = .ok (.aload_n 0, 1) := by decide +kernel
theorem dX11_init_89 : decode cX11_init 89 = .ok (.new 42, 3) := by decide +kernel
theorem dX11_init_92 : decode cX11_init 92 = .ok (.dup, 1) := by decide +kernel
theorem dX11_init_93 : decode cX11_init 93 = .ok (.aload_n 0, 1) := by decide +kernel
theorem dX11_init_94 : decode cX11_init 94 = .ok (.getfield 12, 3) := by decide +kernel
theorem dX11_init_97 : decode cX11_init 97 = .ok (.getfield 44, 3) := by decide +kernel
theorem dX11_init_100 : decode cX11_init 100 = .ok (.invokespecial 48, 3) := by decide +kernel
theorem dX11_init_103 : decode cX11_init 103 = .ok (.putfield 51, 3) := by decide +kernel
theorem dX11_init_106 : decode cX11_init 106 = .ok (.aload_n 0, 1) := by decide +kernel
theorem dX11_init_107 : decode cX11_init 107 = .ok (.new 55, 3) := by decide +kernel
theorem dX11_init_110 : decode cX11_init 110 = .ok (.dup, 1) := by decide +kernel
theorem dX11_init_111 : decode cX11_init 111 = .ok (.aload_n 0, 1) := by decide +kernel
theorem dX11_init_112 : decode cX11_init 112 = .ok (.getfield 12, 3) := by decide +kernel
theorem dX11_init_115 : decode cX11_init 115 = .ok (.aload_n 0, 1) := by decide +kernel
theorem dX11_init_116 : decode cX11_init 116 = .ok (.getfield 28, 3) := by decide +kernel
theorem dX11_init_119 : decode cX11_init 119 = .ok (.aload_n 0, 1) := by decide +kernel
theorem dX11_init_120 : decode cX11_init 120 = .ok (.getfield 51, 3) := by decide +kernel
theorem dX11_init_123 : decode cX11_init 123 = .ok (.invokespecial 57, 3) := by decide +kernel
theorem dX11_init_126 : decode cX11_init 126 = .ok (.putfield 60, 3) := by decide +kernel
theorem dX11_init_129 : decode cX11_init 129 = .ok (.aload_n 0, 1) := by decide +kernel
theorem dX11_init_130 : decode cX11_init 130 = .ok (.new 64, 3) := by decide +kernel
theorem dX11_init_133 : decode cX11_init 133 = .ok (.dup, 1) := by decide +kernel
theorem dX11_init_134 : decode cX11_init 134 = .ok (.aload_n 0, 1) := by decide +kernel
theorem dX11_init_135 : decode cX11_init 135 = .ok (.getfield 12, 3) := by decide +kernel
theorem dX11_init_138 : decode cX11_init 138 = .ok (.getfield 44, 3) := by decide +kernel
theorem dX11_init_141 : decode cX11_init 141 = .ok (.invokespecial 66, 3) := by decide +kernel
theorem dX11_init_144 : decode cX11_init 144 = .ok (.putfield 67, 3) := by decide +kernel
theorem dX11_init_147 : decode cX11_init 147 = .ok (.aload_n 0, 1) := by decide +kernel
theorem dX11_init_148 : decode cX11_init 148 = .ok (.new 71, 3) := by decide +kernel
theorem dX11_init_151 : decode cX11_init 151 = .ok (.dup, 1) := by decide +kernel
theorem dX11_init_152 : decode cX11_init 152 = .ok (.aload_n 0, 1) := by decide +kernel
theorem dX11_init_153 : decode cX11_init 153 = .ok (.getfield 12, 3) := by decide +kernel
theorem dX11_init_156 : decode cX11_init 156 = .ok (.getfield 44, 3) := by decide +kernel
theorem dX11_init_159 : decode cX11_init 159 = .ok (.invokespecial 73, 3) := by decide +kernel
theorem dX11_init_162 : decode cX11_init 162 = .ok (.putfield 74, 3) := by decide +kernel
theorem dX11_init_165 : decode cX11_init 165 = .ok (.aload_n 0, 1) := by decide +kernel
theorem dX11_init_166 : decode cX11_init 166 = .ok (.new 78, 3) := by decide +kernel
theorem dX11_init_169 : decode cX11_init 169 = .ok (.dup, 1) := by decide +kernel
theorem dX11_init_170 : decode cX11_init 170 = .ok (.aload_n 0, 1) := by decide +kernel
theorem dX11_init_171 : decode cX11_init 171 = .ok (.getfield 12, 3) := by decide +kernel
theorem dX11_init_174 : decode cX11_init 174 = .ok (.invokespecial 80, 3) := by decide +kernel
theorem dX11_init_177 : decode cX11_init 177 = .ok (.putfield 83, 3) := by decide +kernel
theorem dX11_init_180 : decode cX11_init 180 = .ok (.aload_n 0, 1) := by decide +kernel
theorem dX11_init_181 : decode cX11_init 181 = .ok (.sipush 300, 3) := by decide +kernel
theorem dX11_init_184 : decode cX11_init 184 = .ok (.newarray .int, 2) := by decide +kernel
theorem dX11_init_186 : decode cX11_init 186 = .ok (.putfield 87, 3) := by decide +kernel
theorem dX11_init_189 : decode cX11_init 189 = .ok (.aload_n 0, 1) := by decide +kernel
theorem dX11_init_190 : decode cX11_init 190 = .ok (.iconst 0, 1) := by decide +kernel
theorem dX11_init_191 : decode cX11_init 191 = .ok (.putfield 91, 3) := by decide +kernel
theorem dX11_init_194 : decode cX11_init 194 = .ok (.return_, 1) := by decide +kernel
set_option maxRecDepth 20000 in
theorem ggX11_pain_X11_isWant : GoodIn wsX11_pain wsX11_isWant := goodIn_r _ [7] (by decide +kernel) (by decide +kernel)
set_option maxRecDepth 20000 in
theorem gX11_pain_X11_isWant : GoodIn wsX11_pain (va_wsS RX11 95 yX11_isWant wsX11_isWant) := goodIn_app (goodIn_of _ (by decide +kernel)) ggX11_pain_X11_isWant
theorem dX11_pain_0 : decode cX11_pain 0 = .ok (.iload_n 1, 1) := by decide +kernel
theorem dX11_pain_1 : decode cX11_pain 1 = .ok (.invokestatic 95, 3) := by decide +kernel
theorem dX11_pain_4 : decode cX11_pain 4 = .ok (.ifCond .eq 13, 3) := by decide +kernel
theorem dX11_pain_7 : decode cX11_pain 7 = .ok (.iload_n 2, 1) := by decide +kernel
theorem dX11_pain_8 : decode cX11_pain 8 = .ok (.ifCond .lt 9, 3) := by decide +kernel
theorem dX11_pain_11 : decode cX11_pain 11 = .ok (.iload_n 2, 1) := by decide +kernel
theorem dX11_pain_12 : decode cX11_pain 12 = .ok (.bipush 99, 2) := by decide +kernel
theorem dX11_pain_14 : decode cX11_pain 14 = .ok (.if_icmp .le 5, 3) := by decide +kernel
theorem dX11_pain_17 : decode cX11_pain 17 = .ok (.iconst 0, 1) := by decide +kernel
theorem dX11_pain_18 : decode cX11_pain 18 = .ok (.ireturn, 1) := by decide +kernel
theorem dX11_pain_19 : decode cX11_pain 19 = .ok (.aload_n 0, 1) := by decide +kernel
theorem dX11_pain_20 : decode cX11_pain 20 = .ok (.getfield 12, 3) := by decide +kernel
theorem dX11_pain_23 : decode cX11_pain 23 = .ok (.getfield 44, 3) := by decide +kernel
theorem dX11_pain_26 : decode cX11_pain 26 = .ok (.getfield 99, 3) := by decide +kernel
theorem dX11_pain_29 : decode cX11_pain 29 = .ok (.iload_n 1, 1) := by decide +kernel
theorem dX11_pain_30 : decode cX11_pain 30 = .ok (.iload_n 2, 1) := by decide +kernel
theorem dX11_pain_31 : decode cX11_pain 31 = .ok (.iastore, 1) := by decide +kernel
theorem dX11_pain_32 : decode cX11_pain 32 = .ok (.iconst 1, 1) := by decide +kernel
theorem dX11_pain_33 : decode cX11_pain 33 = .ok (.ireturn, 1) := by decide +kernel
set_option maxRecDepth 20000 in
theorem ggX11_hang_X10_tellHanging : GoodIn wsX11_hang wsX10_tellHanging := goodIn_r _ [7, 8, 9, 10, 11, 12, 13, 14, 15, 16, 6, 17, 18, 19, 20, 21, 22, 23, 24, 25, 26, 27, 28, 29, 30, 31, 56, 57, 58, 59, 60] (by decide +kernel) (by decide +kernel)
set_option maxRecDepth 20000 in
theorem gX11_hang_X10_tellHanging : GoodIn wsX11_hang (wsV RX11 104 RX10 yX10_tellHanging wsX10_tellHanging) := goodIn_app (goodIn_of _ (by decide +kernel)) ggX11_hang_X10_tellHanging
theorem dX11_hang_0 : decode cX11_hang 0 = .ok (.aload_n 0, 1) := by decide +kernel
theorem dX11_hang_1 : decode cX11_hang 1 = .ok (.getfield 12, 3) := by decide +kernel
theorem dX11_hang_4 : decode cX11_hang 4 = .ok (.getfield 44, 3) := by decide +kernel
theorem dX11_hang_7 : decode cX11_hang 7 = .ok (.iload_n 1, 1) := by decide +kernel
theorem dX11_hang_8 : decode cX11_hang 8 = .ok (.iload_n 2, 1) := by decide +kernel
theorem dX11_hang_9 : decode cX11_hang 9 = .ok (.iload_n 3, 1) := by decide +kernel
theorem dX11_hang_10 : decode cX11_hang 10 = .ok (.invokevirtual 104, 3) := by decide +kernel
theorem dX11_hang_13 : decode cX11_hang 13 = .ok (.ireturn, 1) := by decide +kernel
set_option maxRecDepth 20000 in
theorem ggX11_person_X11_isWant : GoodIn wsX11_person wsX11_isWant := goodIn_r _ [5] (by decide +kernel) (by decide +kernel)
set_option maxRecDepth 20000 in
theorem gX11_person_X11_isWant : GoodIn wsX11_person (va_wsS RX11 95 yX11_isWant wsX11_isWant) := goodIn_app (goodIn_of _ (by decide +kernel)) ggX11_person_X11_isWant
set_option maxRecDepth 20000 in
theorem ggX11_person_X1_admit : GoodIn wsX11_person wsX1_admit := goodIn_r _ [10, 11, 12, 13, 14, 15, 4, 16, 17, 18, 19, 20, 21, 22, 23, 24, 25, 26, 27, 40, 41, 42, 43, 44, 45, 46, 47, 48, 49, 50, 51, 52, 53, 54, 55, 56, 57, 58, 59, 60, 61, 62, 63] (by decide +kernel) (by decide +kernel)
set_option maxRecDepth 20000 in
theorem gX11_person_X1_admit : GoodIn wsX11_person (wsV RX11 108 RX1 yX1_admit wsX1_admit) := goodIn_app (goodIn_of _ (by decide +kernel)) ggX11_person_X1_admit
theorem dX11_person_0 : decode cX11_person 0 = .ok (.iload_n 1, 1) := by decide +kernel
theorem dX11_person_1 : decode cX11_person 1 = .ok (.invokestatic 95, 3) := by decide +kernel
theorem dX11_person_4 : decode cX11_person 4 = .ok (.ifCond .eq 13, 3) := by decide +kernel
theorem dX11_person_7 : decode cX11_person 7 = .ok (.iload_n 2, 1) := by decide +kernel
theorem dX11_person_8 : decode cX11_person 8 = .ok (.ifCond .lt 9, 3) := by decide +kernel
theorem dX11_person_11 : decode cX11_person 11 = .ok (.iload_n 2, 1) := by decide +kernel
theorem dX11_person_12 : decode cX11_person 12 = .ok (.bipush 99, 2) := by decide +kernel
theorem dX11_person_14 : decode cX11_person 14 = .ok (.if_icmp .le 5, 3) := by decide +kernel
theorem dX11_person_17 : decode cX11_person 17 = .ok (.iconst (-1), 1) := by decide +kernel
theorem dX11_person_18 : decode cX11_person 18 = .ok (.ireturn, 1) := by decide +kernel
theorem dX11_person_19 : decode cX11_person 19 = .ok (.aload_n 0, 1) := by decide +kernel
theorem dX11_person_20 : decode cX11_person 20 = .ok (.getfield 12, 3) := by decide +kernel
theorem dX11_person_23 : decode cX11_person 23 = .ok (.iload_n 1, 1) := by decide +kernel
theorem dX11_person_24 : decode cX11_person 24 = .ok (.iload_n 2, 1) := by decide +kernel
theorem dX11_person_25 : decode cX11_person 25 = .ok (.invokevirtual 108, 3) := by decide +kernel
theorem dX11_person_28 : decode cX11_person 28 = .ok (.ireturn, 1) := by decide +kernel
set_option maxRecDepth 20000 in
theorem ggX11_feed_X11_putFour : GoodIn wsX11_feed wsX11_putFour := goodIn_r _ [6, 1, 7, 8, 9, 10, 11, 12, 13, 14, 15, 16, 17, 18, 19] (by decide +kernel) (by decide +kernel)
set_option maxRecDepth 20000 in
theorem gX11_feed_X11_putFour : GoodIn wsX11_feed (wsV RX11 112 RX11 yX11_putFour wsX11_putFour) := goodIn_app (goodIn_of _ (by decide +kernel)) ggX11_feed_X11_putFour
theorem dX11_feed_0 : decode cX11_feed 0 = .ok (.aload_n 0, 1) := by decide +kernel
theorem dX11_feed_1 : decode cX11_feed 1 = .ok (.getfield 91, 3) := by decide +kernel
theorem dX11_feed_4 : decode cX11_feed 4 = .ok (.bipush 20, 2) := by decide +kernel
theorem dX11_feed_6 : decode cX11_feed 6 = .ok (.iadd, 1) := by decide +kernel
theorem dX11_feed_7 : decode cX11_feed 7 = .ok (.sipush 300, 3) := by decide +kernel
theorem dX11_feed_10 : decode cX11_feed 10 = .ok (.if_icmp .le 5, 3) := by decide +kernel
theorem dX11_feed_13 : decode cX11_feed 13 = .ok (.iconst (-1), 1) := by decide +kernel
theorem dX11_feed_14 : decode cX11_feed 14 = .ok (.ireturn, 1) := by decide +kernel
theorem dX11_feed_15 : decode cX11_feed 15 = .ok (.aload_n 0, 1) := by decide +kernel
theorem dX11_feed_16 : decode cX11_feed 16 = .ok (.iload_n 1, 1) := by decide +kernel
theorem dX11_feed_17 : decode cX11_feed 17 = .ok (.invokevirtual 112, 3) := by decide +kernel
theorem dX11_feed_20 : decode cX11_feed 20 = .ok (.aload_n 0, 1) := by decide +kernel
theorem dX11_feed_21 : decode cX11_feed 21 = .ok (.iload_n 2, 1) := by decide +kernel
theorem dX11_feed_22 : decode cX11_feed 22 = .ok (.invokevirtual 112, 3) := by decide +kernel
theorem dX11_feed_25 : decode cX11_feed 25 = .ok (.aload_n 0, 1) := by decide +kernel
theorem dX11_feed_26 : decode cX11_feed 26 = .ok (.iload_n 3, 1) := by decide +kernel
theorem dX11_feed_27 : decode cX11_feed 27 = .ok (.invokevirtual 112, 3) := by decide +kernel
theorem dX11_feed_30 : decode cX11_feed 30 = .ok (.aload_n 0, 1) := by decide +kernel
theorem dX11_feed_31 : decode cX11_feed 31 = .ok (.iload 4, 2) := by decide +kernel
theorem dX11_feed_33 : decode cX11_feed 33 = .ok (.invokevirtual 112, 3) := by decide +kernel
theorem dX11_feed_36 : decode cX11_feed 36 = .ok (.aload_n 0, 1) := by decide +kernel
theorem dX11_feed_37 : decode cX11_feed 37 = .ok (.iload 5, 2) := by decide +kernel
theorem dX11_feed_39 : decode cX11_feed 39 = .ok (.invokevirtual 112, 3) := by decide +kernel
theorem dX11_feed_42 : decode cX11_feed 42 = .ok (.aload_n 0, 1) := by decide +kernel
theorem dX11_feed_43 : decode cX11_feed 43 = .ok (.getfield 91, 3) := by decide +kernel
theorem dX11_feed_46 : decode cX11_feed 46 = .ok (.ireturn, 1) := by decide +kernel
theorem dX11_putFour_0 : decode cX11_putFour 0 = .ok (.bipush 24, 2) := by decide +kernel
theorem dX11_putFour_2 : decode cX11_putFour 2 = .ok (.istore_n 2, 1) := by decide +kernel
theorem dX11_putFour_3 : decode cX11_putFour 3 = .ok (.iload_n 2, 1) := by decide +kernel
theorem dX11_putFour_4 : decode cX11_putFour 4 = .ok (.ifCond .lt 52, 3) := by decide +kernel
theorem dX11_putFour_7 : decode cX11_putFour 7 = .ok (.aload_n 0, 1) := by decide +kernel
theorem dX11_putFour_8 : decode cX11_putFour 8 = .ok (.getfield 91, 3) := by decide +kernel
theorem dX11_putFour_11 : decode cX11_putFour 11 = .ok (.ifCond .lt 39, 3) := by decide +kernel
theorem dX11_putFour_14 : decode cX11_putFour 14 = .ok (.aload_n 0, 1) := by decide +kernel
theorem dX11_putFour_15 : decode cX11_putFour 15 = .ok (.getfield 91, 3) := by decide +kernel
theorem dX11_putFour_18 : decode cX11_putFour 18 = .ok (.sipush 300, 3) := by decide +kernel
theorem dX11_putFour_21 : decode cX11_putFour 21 = .ok (.if_icmp .ge 29, 3) := by decide +kernel
theorem dX11_putFour_24 : decode cX11_putFour 24 = .ok (.aload_n 0, 1) := by decide +kernel
theorem dX11_putFour_25 : decode cX11_putFour 25 = .ok (.getfield 87, 3) := by decide +kernel
theorem dX11_putFour_28 : decode cX11_putFour 28 = .ok (.aload_n 0, 1) := by decide +kernel
theorem dX11_putFour_29 : decode cX11_putFour 29 = .ok (.getfield 91, 3) := by decide +kernel
theorem dX11_putFour_32 : decode cX11_putFour 32 = .ok (.iload_n 1, 1) := by decide +kernel
theorem dX11_putFour_33 : decode cX11_putFour 33 = .ok (.iload_n 2, 1) := by decide +kernel
theorem dX11_putFour_34 : decode cX11_putFour 34 = .ok (.ishr, 1) := by decide +kernel
theorem dX11_putFour_35 : decode cX11_putFour 35 = .ok (.sipush 255, 3) := by decide +kernel
theorem dX11_putFour_38 : decode cX11_putFour 38 = .ok (.iand, 1) := by decide +kernel
theorem dX11_putFour_39 : decode cX11_putFour 39 = .ok (.iastore, 1) := by decide +kernel
theorem dX11_putFour_40 : decode cX11_putFour 40 = .ok (.aload_n 0, 1) := by decide +kernel
theorem dX11_putFour_41 : decode cX11_putFour 41 = .ok (.dup, 1) := by decide +kernel
theorem dX11_putFour_42 : decode cX11_putFour 42 = .ok (.getfield 91, 3) := by decide +kernel
theorem dX11_putFour_45 : decode cX11_putFour 45 = .ok (.iconst 1, 1) := by decide +kernel
theorem dX11_putFour_46 : decode cX11_putFour 46 = .ok (.iadd, 1) := by decide +kernel
theorem dX11_putFour_47 : decode cX11_putFour 47 = .ok (.putfield 91, 3) := by decide +kernel
theorem dX11_putFour_50 : decode cX11_putFour 50 = .ok (.iinc 2 (-8), 3) := by decide +kernel
theorem dX11_putFour_53 : decode cX11_putFour 53 = .ok (.goto (-50), 3) := by decide +kernel
theorem dX11_putFour_56 : decode cX11_putFour 56 = .ok (.return_, 1) := by decide +kernel
theorem dX11_end_0 : decode cX11_end 0 = .ok (.iload_n 1, 1) := by decide +kernel
theorem dX11_end_1 : decode cX11_end 1 = .ok (.ifCond .lt 11, 3) := by decide +kernel
theorem dX11_end_4 : decode cX11_end 4 = .ok (.iload_n 1, 1) := by decide +kernel
theorem dX11_end_5 : decode cX11_end 5 = .ok (.aload_n 0, 1) := by decide +kernel
theorem dX11_end_6 : decode cX11_end 6 = .ok (.getfield 91, 3) := by decide +kernel
theorem dX11_end_9 : decode cX11_end 9 = .ok (.if_icmp .le 5, 3) := by decide +kernel
theorem dX11_end_12 : decode cX11_end 12 = .ok (.iconst (-1), 1) := by decide +kernel
theorem dX11_end_13 : decode cX11_end 13 = .ok (.ireturn, 1) := by decide +kernel
theorem dX11_end_14 : decode cX11_end 14 = .ok (.aload_n 0, 1) := by decide +kernel
theorem dX11_end_15 : decode cX11_end 15 = .ok (.iload_n 1, 1) := by decide +kernel
theorem dX11_end_16 : decode cX11_end 16 = .ok (.putfield 91, 3) := by decide +kernel
theorem dX11_end_19 : decode cX11_end 19 = .ok (.iload_n 1, 1) := by decide +kernel
theorem dX11_end_20 : decode cX11_end 20 = .ok (.ireturn, 1) := by decide +kernel
set_option maxRecDepth 20000 in
theorem ggX11_text_X7_read : GoodIn wsX11_text wsX7_read := goodIn_r _ [12, 13, 14, 15, 16, 17, 18, 19, 20, 21, 22, 23, 24, 25, 26, 27, 28, 29, 30, 31, 32, 33, 34, 35, 36, 37, 38, 39, 40, 41, 42, 43, 44, 45, 46, 47, 48, 49, 50, 51, 52, 53, 54, 55, 56, 57, 58, 59, 60, 61, 62, 63, 64, 65, 66, 67, 68, 69, 70, 71, 72, 73, 74, 75, 76, 77, 78, 79, 80, 81, 82, 83, 84, 85, 86, 87, 88, 89, 90, 91, 92, 93, 94, 95, 96, 97, 98, 99, 100, 101, 102, 103, 104, 105, 106, 107, 108, 109, 110, 111, 112, 113, 114, 115, 116, 117, 118, 119, 120, 121, 122, 123, 124, 125, 126, 127, 128, 129, 130, 11, 131, 132, 133, 134, 135, 136, 137, 138, 139, 140, 141, 142, 143, 144, 145, 146, 147, 148, 149, 150, 151, 152, 153, 154, 155, 156, 157, 158, 159, 160, 161, 162, 163, 164, 165, 166, 167, 168, 169, 170, 171, 172, 173, 174, 175, 176, 177, 178, 179, 180, 181, 182, 183, 184, 185, 186, 187, 188, 189, 190, 191, 192, 193, 194, 195, 196, 197, 198, 199, 200, 201, 202, 203, 204, 205, 206, 207, 208, 209, 210, 211, 212, 213, 214, 215, 216, 217, 218, 219, 220, 221, 222, 223, 224, 225, 226, 227, 228, 229, 230, 231, 232, 233, 234, 235, 236, 237, 238, 239, 240, 241, 242, 243, 244, 245, 246, 247, 248, 273, 274, 275, 276, 277, 278, 279, 280, 281, 282, 283, 284, 285, 286, 287, 288, 289, 290, 291, 292, 293, 294, 295, 296] (by decide +kernel) (by decide +kernel)
set_option maxRecDepth 20000 in
theorem gX11_text_X7_read : GoodIn wsX11_text (wsV RX11 119 RX7 yX7_read wsX7_read) := goodIn_app (goodIn_of _ (by decide +kernel)) ggX11_text_X7_read
theorem dX11_text_0 : decode cX11_text 0 = .ok (.aload_n 0, 1) := by decide +kernel
theorem dX11_text_1 : decode cX11_text 1 = .ok (.getfield 12, 3) := by decide +kernel
theorem dX11_text_4 : decode cX11_text 4 = .ok (.getfield 116, 3) := by decide +kernel
theorem dX11_text_7 : decode cX11_text 7 = .ok (.istore_n 1, 1) := by decide +kernel
theorem dX11_text_8 : decode cX11_text 8 = .ok (.iload_n 1, 1) := by decide +kernel
theorem dX11_text_9 : decode cX11_text 9 = .ok (.ifCond .lt 8, 3) := by decide +kernel
theorem dX11_text_12 : decode cX11_text 12 = .ok (.iload_n 1, 1) := by decide +kernel
theorem dX11_text_13 : decode cX11_text 13 = .ok (.iconst 4, 1) := by decide +kernel
theorem dX11_text_14 : decode cX11_text 14 = .ok (.if_icmp .lt 5, 3) := by decide +kernel
theorem dX11_text_17 : decode cX11_text 17 = .ok (.iconst (-1), 1) := by decide +kernel
theorem dX11_text_18 : decode cX11_text 18 = .ok (.ireturn, 1) := by decide +kernel
theorem dX11_text_19 : decode cX11_text 19 = .ok (.aload_n 0, 1) := by decide +kernel
theorem dX11_text_20 : decode cX11_text 20 = .ok (.getfield 38, 3) := by decide +kernel
theorem dX11_text_23 : decode cX11_text 23 = .ok (.aload_n 0, 1) := by decide +kernel
theorem dX11_text_24 : decode cX11_text 24 = .ok (.getfield 87, 3) := by decide +kernel
theorem dX11_text_27 : decode cX11_text 27 = .ok (.aload_n 0, 1) := by decide +kernel
theorem dX11_text_28 : decode cX11_text 28 = .ok (.getfield 91, 3) := by decide +kernel
theorem dX11_text_31 : decode cX11_text 31 = .ok (.aload_n 0, 1) := by decide +kernel
theorem dX11_text_32 : decode cX11_text 32 = .ok (.getfield 28, 3) := by decide +kernel
theorem dX11_text_35 : decode cX11_text 35 = .ok (.iload_n 1, 1) := by decide +kernel
theorem dX11_text_36 : decode cX11_text 36 = .ok (.aaload, 1) := by decide +kernel
theorem dX11_text_37 : decode cX11_text 37 = .ok (.invokevirtual 119, 3) := by decide +kernel
theorem dX11_text_40 : decode cX11_text 40 = .ok (.aload_n 0, 1) := by decide +kernel
theorem dX11_text_41 : decode cX11_text 41 = .ok (.iconst 0, 1) := by decide +kernel
theorem dX11_text_42 : decode cX11_text 42 = .ok (.putfield 91, 3) := by decide +kernel
theorem dX11_text_45 : decode cX11_text 45 = .ok (.aload_n 0, 1) := by decide +kernel
theorem dX11_text_46 : decode cX11_text 46 = .ok (.getfield 38, 3) := by decide +kernel
theorem dX11_text_49 : decode cX11_text 49 = .ok (.getfield 123, 3) := by decide +kernel
theorem dX11_text_52 : decode cX11_text 52 = .ok (.ifCond .eq 5, 3) := by decide +kernel
theorem dX11_text_55 : decode cX11_text 55 = .ok (.iconst (-1), 1) := by decide +kernel
theorem dX11_text_56 : decode cX11_text 56 = .ok (.ireturn, 1) := by decide +kernel
theorem dX11_text_57 : decode cX11_text 57 = .ok (.aload_n 0, 1) := by decide +kernel
theorem dX11_text_58 : decode cX11_text 58 = .ok (.getfield 12, 3) := by decide +kernel
theorem dX11_text_61 : decode cX11_text 61 = .ok (.dup, 1) := by decide +kernel
theorem dX11_text_62 : decode cX11_text 62 = .ok (.getfield 116, 3) := by decide +kernel
theorem dX11_text_65 : decode cX11_text 65 = .ok (.iconst 1, 1) := by decide +kernel
theorem dX11_text_66 : decode cX11_text 66 = .ok (.iadd, 1) := by decide +kernel
theorem dX11_text_67 : decode cX11_text 67 = .ok (.putfield 116, 3) := by decide +kernel
theorem dX11_text_70 : decode cX11_text 70 = .ok (.iload_n 1, 1) := by decide +kernel
theorem dX11_text_71 : decode cX11_text 71 = .ok (.ireturn, 1) := by decide +kernel
theorem dX11_fault_0 : decode cX11_fault 0 = .ok (.aload_n 0, 1) := by decide +kernel
theorem dX11_fault_1 : decode cX11_fault 1 = .ok (.getfield 38, 3) := by decide +kernel
theorem dX11_fault_4 : decode cX11_fault 4 = .ok (.getfield 126, 3) := by decide +kernel
theorem dX11_fault_7 : decode cX11_fault 7 = .ok (.ifCond .ne 5, 3) := by decide +kernel
theorem dX11_fault_10 : decode cX11_fault 10 = .ok (.iconst (-1), 1) := by decide +kernel
theorem dX11_fault_11 : decode cX11_fault 11 = .ok (.ireturn, 1) := by decide +kernel
theorem dX11_fault_12 : decode cX11_fault 12 = .ok (.iload_n 1, 1) := by decide +kernel
theorem dX11_fault_13 : decode cX11_fault 13 = .ok (.ifCond .ne 11, 3) := by decide +kernel
theorem dX11_fault_16 : decode cX11_fault 16 = .ok (.aload_n 0, 1) := by decide +kernel
theorem dX11_fault_17 : decode cX11_fault 17 = .ok (.getfield 38, 3) := by decide +kernel
theorem dX11_fault_20 : decode cX11_fault 20 = .ok (.getfield 123, 3) := by decide +kernel
theorem dX11_fault_23 : decode cX11_fault 23 = .ok (.ireturn, 1) := by decide +kernel
theorem dX11_fault_24 : decode cX11_fault 24 = .ok (.iload_n 1, 1) := by decide +kernel
theorem dX11_fault_25 : decode cX11_fault 25 = .ok (.iconst 1, 1) := by decide +kernel
theorem dX11_fault_26 : decode cX11_fault 26 = .ok (.if_icmp .ne 13, 3) := by decide +kernel
theorem dX11_fault_29 : decode cX11_fault 29 = .ok (.aload_n 0, 1) := by decide +kernel
theorem dX11_fault_30 : decode cX11_fault 30 = .ok (.getfield 38, 3) := by decide +kernel
theorem dX11_fault_33 : decode cX11_fault 33 = .ok (.getfield 130, 3) := by decide +kernel
theorem dX11_fault_36 : decode cX11_fault 36 = .ok (.goto 4, 3) := by decide +kernel
theorem dX11_fault_39 : decode cX11_fault 39 = .ok (.iconst (-1), 1) := by decide +kernel
theorem dX11_fault_40 : decode cX11_fault 40 = .ok (.ireturn, 1) := by decide +kernel
set_option maxRecDepth 20000 in
theorem ggX11_by_X11_isText : GoodIn wsX11_by wsX11_isText := goodIn_r _ [7, 1, 8, 9, 10, 11, 12, 13, 14, 15, 16, 17, 18, 19, 20, 21, 22, 23, 24, 25, 26, 27, 28, 29, 30, 31, 32] (by decide +kernel) (by decide +kernel)
set_option maxRecDepth 20000 in
theorem gX11_by_X11_isText : GoodIn wsX11_by (wsV RX11 133 RX11 yX11_isText wsX11_isText) := goodIn_app (goodIn_of _ (by decide +kernel)) ggX11_by_X11_isText
theorem dX11_by_0 : decode cX11_by 0 = .ok (.iload_n 1, 1) := by decide +kernel
theorem dX11_by_1 : decode cX11_by 1 = .ok (.iconst (-1), 1) := by decide +kernel
theorem dX11_by_2 : decode cX11_by 2 = .ok (.if_icmp .eq 13, 3) := by decide +kernel
theorem dX11_by_5 : decode cX11_by 5 = .ok (.aload_n 0, 1) := by decide +kernel
theorem dX11_by_6 : decode cX11_by 6 = .ok (.iload_n 1, 1) := by decide +kernel
theorem dX11_by_7 : decode cX11_by 7 = .ok (.invokevirtual 133, 3) := by decide +kernel
theorem dX11_by_10 : decode cX11_by 10 = .ok (.ifCond .ne 5, 3) := by decide +kernel
theorem dX11_by_13 : decode cX11_by 13 = .ok (.iconst 0, 1) := by decide +kernel
theorem dX11_by_14 : decode cX11_by 14 = .ok (.ireturn, 1) := by decide +kernel
theorem dX11_by_15 : decode cX11_by 15 = .ok (.aload_n 0, 1) := by decide +kernel
theorem dX11_by_16 : decode cX11_by 16 = .ok (.getfield 12, 3) := by decide +kernel
theorem dX11_by_19 : decode cX11_by 19 = .ok (.iload_n 1, 1) := by decide +kernel
theorem dX11_by_20 : decode cX11_by 20 = .ok (.putfield 136, 3) := by decide +kernel
theorem dX11_by_23 : decode cX11_by 23 = .ok (.iconst 1, 1) := by decide +kernel
theorem dX11_by_24 : decode cX11_by 24 = .ok (.ireturn, 1) := by decide +kernel
set_option maxRecDepth 20000 in
theorem ggX11_ask_X4_doesWait : GoodIn wsX11_ask wsX4_doesWait := goodIn_r _ [8, 9, 10, 11, 12, 7, 13, 14, 183, 184, 185, 186, 187, 188, 189, 190, 191, 192, 193, 194] (by decide +kernel) (by decide +kernel)
set_option maxRecDepth 20000 in
theorem gX11_ask_X4_doesWait : GoodIn wsX11_ask (wsV RX11 142 RX4 yX4_doesWait wsX4_doesWait) := goodIn_app (goodIn_of _ (by decide +kernel)) ggX11_ask_X4_doesWait
set_option maxRecDepth 20000 in
theorem ggX11_ask_X1_keepStep : GoodIn wsX11_ask wsX1_keepStep := goodIn_r _ [19, 20, 21, 22, 23, 24, 25, 7, 26, 27, 28, 29, 30, 31, 9, 32, 33, 34, 35, 36, 37, 14, 38, 39, 40, 171, 172, 173, 174, 175, 176, 177, 178, 179, 180, 181, 182, 183, 184, 185, 186, 187, 188, 189, 190, 191, 192, 193, 194] (by decide +kernel) (by decide +kernel)
set_option maxRecDepth 20000 in
theorem gX11_ask_X1_keepStep : GoodIn wsX11_ask (wsV RX11 145 RX1 yX1_keepStep wsX1_keepStep) := goodIn_app (goodIn_of _ (by decide +kernel)) ggX11_ask_X1_keepStep
set_option maxRecDepth 20000 in
theorem ggX11_ask_X2_lead : GoodIn wsX11_ask wsX2_lead := goodIn_r _ [45, 46, 47, 48, 49, 50, 51, 52, 53, 54, 55, 56, 5, 6, 7, 8, 9, 10, 11, 12, 13, 14, 57, 58, 59, 44, 60, 61, 62, 63, 64, 65, 66, 67, 68, 69, 70, 71, 72, 73, 74, 75, 76, 77, 78, 79, 80, 81, 82, 83, 84, 85, 86, 87, 88, 89, 90, 91, 92, 93, 94, 95, 96, 97, 98, 99, 100, 101, 102, 103, 104, 105, 106, 107, 108, 109, 110, 111, 112, 113, 114, 115, 116, 117, 118, 119, 120, 121, 122, 123, 124, 125, 126, 127, 128, 129, 130, 131, 132, 133, 134, 135, 136, 137, 138, 139, 140, 141, 142, 143, 144, 145, 146, 147, 148, 149, 150, 151, 152, 153, 38, 154, 33, 37, 36, 28, 29, 30, 31, 39, 27, 155, 156, 157, 158, 32, 195, 196, 197, 183, 184, 185, 186, 187, 188, 189, 190, 191, 192, 193, 194, 171, 172, 173, 174, 175, 176, 177, 178, 179, 180, 181, 182, 198, 199, 200, 201, 202, 203, 204, 205, 206, 207, 208, 209, 210, 211, 212, 213, 214, 215, 216] (by decide +kernel) (by decide +kernel)
set_option maxRecDepth 20000 in
theorem gX11_ask_X2_lead : GoodIn wsX11_ask (wsV RX11 148 RX2 yX2_lead wsX2_lead) := goodIn_app (goodIn_of _ (by decide +kernel)) ggX11_ask_X2_lead
theorem dX11_ask_0 : decode cX11_ask 0 = .ok (.aload_n 0, 1) := by decide +kernel
theorem dX11_ask_1 : decode cX11_ask 1 = .ok (.getfield 12, 3) := by decide +kernel
theorem dX11_ask_4 : decode cX11_ask 4 = .ok (.getfield 139, 3) := by decide +kernel
theorem dX11_ask_7 : decode cX11_ask 7 = .ok (.iload_n 1, 1) := by decide +kernel
theorem dX11_ask_8 : decode cX11_ask 8 = .ok (.invokevirtual 142, 3) := by decide +kernel
theorem dX11_ask_11 : decode cX11_ask 11 = .ok (.ifCond .ne 5, 3) := by decide +kernel
theorem dX11_ask_14 : decode cX11_ask 14 = .ok (.iconst (-1), 1) := by decide +kernel
theorem dX11_ask_15 : decode cX11_ask 15 = .ok (.ireturn, 1) := by decide +kernel
theorem dX11_ask_16 : decode cX11_ask 16 = .ok (.aload_n 0, 1) := by decide +kernel
theorem dX11_ask_17 : decode cX11_ask 17 = .ok (.getfield 12, 3) := by decide +kernel
theorem dX11_ask_20 : decode cX11_ask 20 = .ok (.invokevirtual 145, 3) := by decide +kernel
theorem dX11_ask_23 : decode cX11_ask 23 = .ok (.aload_n 0, 1) := by decide +kernel
theorem dX11_ask_24 : decode cX11_ask 24 = .ok (.getfield 60, 3) := by decide +kernel
theorem dX11_ask_27 : decode cX11_ask 27 = .ok (.aload_n 0, 1) := by decide +kernel
theorem dX11_ask_28 : decode cX11_ask 28 = .ok (.getfield 12, 3) := by decide +kernel
theorem dX11_ask_31 : decode cX11_ask 31 = .ok (.getfield 139, 3) := by decide +kernel
theorem dX11_ask_34 : decode cX11_ask 34 = .ok (.iload_n 1, 1) := by decide +kernel
theorem dX11_ask_35 : decode cX11_ask 35 = .ok (.invokevirtual 148, 3) := by decide +kernel
theorem dX11_ask_38 : decode cX11_ask 38 = .ok (.ireturn, 1) := by decide +kernel
set_option maxRecDepth 20000 in
theorem ggX11_give_X2_canDrop : GoodIn wsX11_give wsX2_canDrop := goodIn_r _ [8, 9, 10, 11, 12, 13, 14, 15, 16, 17, 18, 19, 20, 21, 22, 23, 24, 25, 26, 94, 95, 96, 97, 98, 99, 100, 101, 102, 103, 104, 105] (by decide +kernel) (by decide +kernel)
set_option maxRecDepth 20000 in
theorem gX11_give_X2_canDrop : GoodIn wsX11_give (wsV RX11 152 RX2 yX2_canDrop wsX2_canDrop) := goodIn_app (goodIn_of _ (by decide +kernel)) ggX11_give_X2_canDrop
set_option maxRecDepth 20000 in
theorem ggX11_give_X1_keepStep : GoodIn wsX11_give wsX1_keepStep := goodIn_r _ [31, 32, 33, 34, 35, 36, 37, 14, 38, 39, 40, 41, 42, 43, 16, 44, 45, 46, 47, 48, 49, 21, 50, 51, 52, 82, 83, 84, 85, 86, 87, 88, 89, 90, 91, 92, 93, 94, 95, 96, 97, 98, 99, 100, 101, 102, 103, 104, 105] (by decide +kernel) (by decide +kernel)
set_option maxRecDepth 20000 in
theorem gX11_give_X1_keepStep : GoodIn wsX11_give (wsV RX11 145 RX1 yX1_keepStep wsX1_keepStep) := goodIn_app (goodIn_of _ (by decide +kernel)) ggX11_give_X1_keepStep
set_option maxRecDepth 20000 in
theorem ggX11_give_X2_drop : GoodIn wsX11_give wsX2_drop := goodIn_r _ [56, 10, 57, 58, 59, 60, 23, 61, 22, 24, 62, 63, 64, 14, 65, 44, 66, 67, 68, 69, 94, 95, 96, 97, 98, 99, 100, 101, 102, 103, 104, 105, 106, 107, 108, 82, 83, 84, 85, 86, 87, 88, 89, 90, 91, 92, 93, 109, 110, 111, 112, 113] (by decide +kernel) (by decide +kernel)
set_option maxRecDepth 20000 in
theorem gX11_give_X2_drop : GoodIn wsX11_give (wsV RX11 156 RX2 yX2_drop wsX2_drop) := goodIn_app (goodIn_of _ (by decide +kernel)) ggX11_give_X2_drop
theorem dX11_give_0 : decode cX11_give 0 = .ok (.aload_n 0, 1) := by decide +kernel
theorem dX11_give_1 : decode cX11_give 1 = .ok (.getfield 60, 3) := by decide +kernel
theorem dX11_give_4 : decode cX11_give 4 = .ok (.aload_n 0, 1) := by decide +kernel
theorem dX11_give_5 : decode cX11_give 5 = .ok (.getfield 12, 3) := by decide +kernel
theorem dX11_give_8 : decode cX11_give 8 = .ok (.getfield 139, 3) := by decide +kernel
theorem dX11_give_11 : decode cX11_give 11 = .ok (.iload_n 1, 1) := by decide +kernel
theorem dX11_give_12 : decode cX11_give 12 = .ok (.iload_n 2, 1) := by decide +kernel
theorem dX11_give_13 : decode cX11_give 13 = .ok (.invokevirtual 152, 3) := by decide +kernel
theorem dX11_give_16 : decode cX11_give 16 = .ok (.ifCond .ne 5, 3) := by decide +kernel
theorem dX11_give_19 : decode cX11_give 19 = .ok (.iconst 0, 1) := by decide +kernel
theorem dX11_give_20 : decode cX11_give 20 = .ok (.ireturn, 1) := by decide +kernel
theorem dX11_give_21 : decode cX11_give 21 = .ok (.aload_n 0, 1) := by decide +kernel
theorem dX11_give_22 : decode cX11_give 22 = .ok (.getfield 12, 3) := by decide +kernel
theorem dX11_give_25 : decode cX11_give 25 = .ok (.invokevirtual 145, 3) := by decide +kernel
theorem dX11_give_28 : decode cX11_give 28 = .ok (.aload_n 0, 1) := by decide +kernel
theorem dX11_give_29 : decode cX11_give 29 = .ok (.getfield 60, 3) := by decide +kernel
theorem dX11_give_32 : decode cX11_give 32 = .ok (.aload_n 0, 1) := by decide +kernel
theorem dX11_give_33 : decode cX11_give 33 = .ok (.getfield 12, 3) := by decide +kernel
theorem dX11_give_36 : decode cX11_give 36 = .ok (.getfield 139, 3) := by decide +kernel
theorem dX11_give_39 : decode cX11_give 39 = .ok (.iload_n 1, 1) := by decide +kernel
theorem dX11_give_40 : decode cX11_give 40 = .ok (.iload_n 2, 1) := by decide +kernel
theorem dX11_give_41 : decode cX11_give 41 = .ok (.invokevirtual 156, 3) := by decide +kernel
theorem dX11_give_44 : decode cX11_give 44 = .ok (.iconst 1, 1) := by decide +kernel
theorem dX11_give_45 : decode cX11_give 45 = .ok (.ireturn, 1) := by decide +kernel
set_option maxRecDepth 20000 in
theorem ggX11_again_X2_canReturn : GoodIn wsX11_again wsX2_canReturn := goodIn_r _ [9, 10, 11, 12, 13, 14, 15, 16, 17, 18, 19, 77, 78, 79, 80, 81, 82, 83, 84, 85, 86, 87, 88] (by decide +kernel) (by decide +kernel)
set_option maxRecDepth 20000 in
theorem gX11_again_X2_canReturn : GoodIn wsX11_again (wsV RX11 160 RX2 yX2_canReturn wsX2_canReturn) := goodIn_app (goodIn_of _ (by decide +kernel)) ggX11_again_X2_canReturn
set_option maxRecDepth 20000 in
theorem ggX11_again_X1_keepStep : GoodIn wsX11_again wsX1_keepStep := goodIn_r _ [24, 25, 26, 27, 28, 29, 30, 14, 31, 32, 33, 34, 35, 36, 37, 38, 39, 40, 41, 42, 43, 16, 44, 45, 46, 65, 66, 67, 68, 69, 70, 71, 72, 73, 74, 75, 76, 77, 78, 79, 80, 81, 82, 83, 84, 85, 86, 87, 88] (by decide +kernel) (by decide +kernel)
set_option maxRecDepth 20000 in
theorem gX11_again_X1_keepStep : GoodIn wsX11_again (wsV RX11 145 RX1 yX1_keepStep wsX1_keepStep) := goodIn_app (goodIn_of _ (by decide +kernel)) ggX11_again_X1_keepStep
set_option maxRecDepth 20000 in
theorem ggX11_again_X4_seat : GoodIn wsX11_again wsX4_seat := goodIn_r _ [50, 32, 37, 38, 39, 40, 41, 51, 18, 52, 77, 78, 79, 80, 81, 82, 83, 84, 85, 86, 87, 88] (by decide +kernel) (by decide +kernel)
set_option maxRecDepth 20000 in
theorem gX11_again_X4_seat : GoodIn wsX11_again (wsV RX11 166 RX4 yX4_seat wsX4_seat) := goodIn_app (goodIn_of _ (by decide +kernel)) ggX11_again_X4_seat
theorem dX11_again_0 : decode cX11_again 0 = .ok (.aload_n 0, 1) := by decide +kernel
theorem dX11_again_1 : decode cX11_again 1 = .ok (.getfield 60, 3) := by decide +kernel
theorem dX11_again_4 : decode cX11_again 4 = .ok (.aload_n 0, 1) := by decide +kernel
theorem dX11_again_5 : decode cX11_again 5 = .ok (.getfield 12, 3) := by decide +kernel
theorem dX11_again_8 : decode cX11_again 8 = .ok (.getfield 139, 3) := by decide +kernel
theorem dX11_again_11 : decode cX11_again 11 = .ok (.iload_n 1, 1) := by decide +kernel
theorem dX11_again_12 : decode cX11_again 12 = .ok (.iload_n 2, 1) := by decide +kernel
theorem dX11_again_13 : decode cX11_again 13 = .ok (.invokevirtual 160, 3) := by decide +kernel
theorem dX11_again_16 : decode cX11_again 16 = .ok (.ifCond .ne 5, 3) := by decide +kernel
theorem dX11_again_19 : decode cX11_again 19 = .ok (.iconst 0, 1) := by decide +kernel
theorem dX11_again_20 : decode cX11_again 20 = .ok (.ireturn, 1) := by decide +kernel
theorem dX11_again_21 : decode cX11_again 21 = .ok (.aload_n 0, 1) := by decide +kernel
theorem dX11_again_22 : decode cX11_again 22 = .ok (.getfield 12, 3) := by decide +kernel
theorem dX11_again_25 : decode cX11_again 25 = .ok (.invokevirtual 145, 3) := by decide +kernel
theorem dX11_again_28 : decode cX11_again 28 = .ok (.aload_n 0, 1) := by decide +kernel
theorem dX11_again_29 : decode cX11_again 29 = .ok (.getfield 12, 3) := by decide +kernel
theorem dX11_again_32 : decode cX11_again 32 = .ok (.getfield 139, 3) := by decide +kernel
theorem dX11_again_35 : decode cX11_again 35 = .ok (.iload_n 1, 1) := by decide +kernel
theorem dX11_again_36 : decode cX11_again 36 = .ok (.iload_n 2, 1) := by decide +kernel
theorem dX11_again_37 : decode cX11_again 37 = .ok (.aload_n 0, 1) := by decide +kernel
theorem dX11_again_38 : decode cX11_again 38 = .ok (.getfield 12, 3) := by decide +kernel
theorem dX11_again_41 : decode cX11_again 41 = .ok (.getfield 139, 3) := by decide +kernel
theorem dX11_again_44 : decode cX11_again 44 = .ok (.getfield 163, 3) := by decide +kernel
theorem dX11_again_47 : decode cX11_again 47 = .ok (.iload_n 1, 1) := by decide +kernel
theorem dX11_again_48 : decode cX11_again 48 = .ok (.iaload, 1) := by decide +kernel
theorem dX11_again_49 : decode cX11_again 49 = .ok (.invokevirtual 166, 3) := by decide +kernel
theorem dX11_again_52 : decode cX11_again 52 = .ok (.iconst 1, 1) := by decide +kernel
theorem dX11_again_53 : decode cX11_again 53 = .ok (.ireturn, 1) := by decide +kernel
set_option maxRecDepth 20000 in
theorem ggX11_day_X1_keepStep : GoodIn wsX11_day wsX1_keepStep := goodIn_r _ [9, 10, 11, 12, 13, 14, 15, 16, 17, 18, 19, 20, 21, 22, 23, 24, 25, 26, 27, 28, 29, 30, 31, 32, 33, 181, 182, 183, 184, 185, 186, 187, 188, 189, 190, 191, 192, 193, 194, 195, 196, 197, 198, 199, 200, 201, 202, 203, 204] (by decide +kernel) (by decide +kernel)
set_option maxRecDepth 20000 in
theorem gX11_day_X1_keepStep : GoodIn wsX11_day (wsV RX11 145 RX1 yX1_keepStep wsX1_keepStep) := goodIn_app (goodIn_of _ (by decide +kernel)) ggX11_day_X1_keepStep
set_option maxRecDepth 20000 in
theorem ggX11_day_X2_passDay : GoodIn wsX11_day wsX2_passDay := goodIn_r _ [38, 39, 40, 41, 42, 43, 16, 44, 23, 45, 46, 47, 48, 30, 49, 50, 51, 52, 33, 53, 54, 55, 37, 56, 57, 58, 59, 60, 61, 62, 63, 64, 65, 66, 67, 68, 69, 70, 71, 72, 73, 74, 75, 76, 77, 78, 79, 80, 81, 82, 83, 84, 85, 86, 87, 88, 89, 90, 91, 92, 93, 94, 95, 96, 97, 98, 99, 100, 101, 102, 103, 104, 105, 106, 107, 108, 109, 110, 111, 112, 113, 114, 115, 116, 117, 118, 119, 120, 121, 122, 123, 124, 125, 126, 127, 128, 129, 130, 131, 132, 133, 134, 135, 136, 137, 138, 139, 140, 141, 142, 143, 144, 145, 146, 147, 148, 149, 150, 151, 152, 153, 154, 155, 156, 157, 158, 159, 160, 161, 162, 163, 31, 164, 25, 29, 28, 19, 20, 21, 22, 32, 18, 165, 166, 167, 168, 24, 193, 194, 195, 196, 197, 198, 199, 200, 201, 202, 203, 204, 205, 206, 207, 181, 182, 183, 184, 185, 186, 187, 188, 189, 190, 191, 192, 208, 209, 210, 211, 212, 213, 214, 215, 216, 217, 218, 219, 220, 221, 222, 223, 224, 225, 226] (by decide +kernel) (by decide +kernel)
set_option maxRecDepth 20000 in
theorem gX11_day_X2_passDay : GoodIn wsX11_day (wsV RX11 173 RX2 yX2_passDay wsX2_passDay) := goodIn_app (goodIn_of _ (by decide +kernel)) ggX11_day_X2_passDay
theorem dX11_day_0 : decode cX11_day 0 = .ok (.iload_n 1, 1) := by decide +kernel
theorem dX11_day_1 : decode cX11_day 1 = .ok (.iconst 1, 1) := by decide +kernel
theorem dX11_day_2 : decode cX11_day 2 = .ok (.if_icmp .lt 27, 3) := by decide +kernel
theorem dX11_day_5 : decode cX11_day 5 = .ok (.iload_n 1, 1) := by decide +kernel
theorem dX11_day_6 : decode cX11_day 6 = .ok (.bipush 60, 2) := by decide +kernel
theorem dX11_day_8 : decode cX11_day 8 = .ok (.if_icmp .gt 21, 3) := by decide +kernel
theorem dX11_day_11 : decode cX11_day 11 = .ok (.aload_n 0, 1) := by decide +kernel
theorem dX11_day_12 : decode cX11_day 12 = .ok (.getfield 12, 3) := by decide +kernel
theorem dX11_day_15 : decode cX11_day 15 = .ok (.getfield 139, 3) := by decide +kernel
theorem dX11_day_18 : decode cX11_day 18 = .ok (.getfield 170, 3) := by decide +kernel
theorem dX11_day_21 : decode cX11_day 21 = .ok (.iload_n 1, 1) := by decide +kernel
theorem dX11_day_22 : decode cX11_day 22 = .ok (.iadd, 1) := by decide +kernel
theorem dX11_day_23 : decode cX11_day 23 = .ok (.sipush 9999, 3) := by decide +kernel
theorem dX11_day_26 : decode cX11_day 26 = .ok (.if_icmp .le 5, 3) := by decide +kernel
theorem dX11_day_29 : decode cX11_day 29 = .ok (.iconst (-1), 1) := by decide +kernel
theorem dX11_day_30 : decode cX11_day 30 = .ok (.ireturn, 1) := by decide +kernel
theorem dX11_day_31 : decode cX11_day 31 = .ok (.iconst 0, 1) := by decide +kernel
theorem dX11_day_32 : decode cX11_day 32 = .ok (.istore_n 2, 1) := by decide +kernel
theorem dX11_day_33 : decode cX11_day 33 = .ok (.iconst 0, 1) := by decide +kernel
theorem dX11_day_34 : decode cX11_day 34 = .ok (.istore_n 3, 1) := by decide +kernel
theorem dX11_day_35 : decode cX11_day 35 = .ok (.iload_n 3, 1) := by decide +kernel
theorem dX11_day_36 : decode cX11_day 36 = .ok (.iload_n 1, 1) := by decide +kernel
theorem dX11_day_37 : decode cX11_day 37 = .ok (.if_icmp .ge 33, 3) := by decide +kernel
theorem dX11_day_40 : decode cX11_day 40 = .ok (.aload_n 0, 1) := by decide +kernel
theorem dX11_day_41 : decode cX11_day 41 = .ok (.getfield 12, 3) := by decide +kernel
theorem dX11_day_44 : decode cX11_day 44 = .ok (.invokevirtual 145, 3) := by decide +kernel
theorem dX11_day_47 : decode cX11_day 47 = .ok (.iload_n 2, 1) := by decide +kernel
theorem dX11_day_48 : decode cX11_day 48 = .ok (.aload_n 0, 1) := by decide +kernel
theorem dX11_day_49 : decode cX11_day 49 = .ok (.getfield 60, 3) := by decide +kernel
theorem dX11_day_52 : decode cX11_day 52 = .ok (.aload_n 0, 1) := by decide +kernel
theorem dX11_day_53 : decode cX11_day 53 = .ok (.getfield 12, 3) := by decide +kernel
theorem dX11_day_56 : decode cX11_day 56 = .ok (.getfield 139, 3) := by decide +kernel
theorem dX11_day_59 : decode cX11_day 59 = .ok (.invokevirtual 173, 3) := by decide +kernel
theorem dX11_day_62 : decode cX11_day 62 = .ok (.iadd, 1) := by decide +kernel
theorem dX11_day_63 : decode cX11_day 63 = .ok (.istore_n 2, 1) := by decide +kernel
theorem dX11_day_64 : decode cX11_day 64 = .ok (.iinc 3 1, 3) := by decide +kernel
theorem dX11_day_67 : decode cX11_day 67 = .ok (.goto (-32), 3) := by decide +kernel
theorem dX11_day_70 : decode cX11_day 70 = .ok (.iload_n 2, 1) := by decide +kernel
theorem dX11_day_71 : decode cX11_day 71 = .ok (.ireturn, 1) := by decide +kernel
set_option maxRecDepth 20000 in
theorem ggX11_played_X11_isText : GoodIn wsX11_played wsX11_isText := goodIn_r _ [10, 11, 12, 250, 251, 252, 253, 254, 255, 256, 257, 258, 259, 260, 261, 273, 274, 275, 276, 277, 278, 279, 280, 281, 282, 283, 284] (by decide +kernel) (by decide +kernel)
set_option maxRecDepth 20000 in
theorem gX11_played_X11_isText : GoodIn wsX11_played (wsV RX11 133 RX11 yX11_isText wsX11_isText) := goodIn_app (goodIn_of _ (by decide +kernel)) ggX11_played_X11_isText
set_option maxRecDepth 20000 in
theorem ggX11_played_X11_carryOut : GoodIn wsX11_played wsX11_carryOut := goodIn_r _ [16, 11, 17, 18, 19, 20, 21, 22, 9, 23, 24, 25, 26, 27, 28, 29, 30, 31, 32, 33, 34, 35, 36, 37, 38, 39, 40, 41, 42, 43, 44, 45, 46, 47, 48, 49, 50, 51, 52, 53, 54, 55, 56, 57, 58, 59, 60, 61, 62, 63, 64, 65, 66, 67, 68, 69, 70, 71, 72, 73, 74, 75, 76, 77, 78, 79, 80, 81, 82, 83, 84, 85, 86, 87, 88, 89, 90, 91, 92, 93, 94, 95, 96, 97, 98, 99, 100, 101, 102, 103, 104, 105, 106, 107, 108, 109, 110, 111, 112, 113, 114, 115, 116, 117, 118, 119, 120, 121, 122, 123, 124, 125, 126, 127, 128, 129, 130, 131, 132, 133, 134, 135, 136, 137, 138, 139, 140, 141, 142, 143, 144, 145, 146, 147, 148, 149, 150, 151, 152, 153, 154, 155, 156, 157, 158, 159, 160, 161, 162, 163, 164, 165, 166, 167, 168, 169, 170, 171, 172, 173, 174, 175, 176, 177, 178, 179, 180, 181, 182, 183, 184, 185, 186, 187, 188, 189, 190, 191, 192, 193, 194, 195, 196, 197, 198, 199, 200, 201, 202, 203, 204, 205, 206, 207, 208, 209, 210, 211, 212, 213, 214, 215, 216, 217, 218, 219, 220, 221, 222, 223, 224, 225, 226, 227, 228, 229, 230, 231, 232, 233, 234, 235, 236, 237, 238, 239, 240, 241, 242, 243, 244, 245, 246, 247, 248, 249, 250, 251, 252, 253, 254, 255, 256, 257, 258, 259, 260, 261, 273, 274, 275, 276, 277, 278, 279, 280, 281, 282, 283, 284, 285, 286, 287, 288, 289, 290, 291, 292, 293, 294, 295, 296, 297, 298, 299, 300, 301, 302, 303, 304, 305, 306, 307, 262, 263, 264, 265, 266, 267, 268, 269, 270, 271, 272] (by decide +kernel) (by decide +kernel)
set_option maxRecDepth 20000 in
theorem gX11_played_X11_carryOut : GoodIn wsX11_played (wsV RX11 189 RX11 yX11_carryOut wsX11_carryOut) := goodIn_app (goodIn_of _ (by decide +kernel)) ggX11_played_X11_carryOut
theorem dX11_played_0 : decode cX11_played 0 = .ok (.aload_n 0, 1) := by decide +kernel
theorem dX11_played_1 : decode cX11_played 1 = .ok (.iload_n 1, 1) := by decide +kernel
theorem dX11_played_2 : decode cX11_played 2 = .ok (.invokevirtual 133, 3) := by decide +kernel
theorem dX11_played_5 : decode cX11_played 5 = .ok (.ifCond .ne 6, 3) := by decide +kernel
theorem dX11_played_8 : decode cX11_played 8 = .ok (.bipush (-2), 2) := by decide +kernel
theorem dX11_played_10 : decode cX11_played 10 = .ok (.ireturn, 1) := by decide +kernel
theorem dX11_played_11 : decode cX11_played 11 = .ok (.aload_n 0, 1) := by decide +kernel
theorem dX11_played_12 : decode cX11_played 12 = .ok (.getfield 28, 3) := by decide +kernel
theorem dX11_played_15 : decode cX11_played 15 = .ok (.iload_n 1, 1) := by decide +kernel
theorem dX11_played_16 : decode cX11_played 16 = .ok (.aaload, 1) := by decide +kernel
theorem dX11_played_17 : decode cX11_played 17 = .ok (.astore_n 2, 1) := by decide +kernel
theorem dX11_played_18 : decode cX11_played 18 = .ok (.iconst 0, 1) := by decide +kernel
theorem dX11_played_19 : decode cX11_played 19 = .ok (.istore_n 3, 1) := by decide +kernel
theorem dX11_played_20 : decode cX11_played 20 = .ok (.iload_n 3, 1) := by decide +kernel
theorem dX11_played_21 : decode cX11_played 21 = .ok (.bipush 24, 2) := by decide +kernel
theorem dX11_played_23 : decode cX11_played 23 = .ok (.if_icmp .ge 44, 3) := by decide +kernel
theorem dX11_played_26 : decode cX11_played 26 = .ok (.iload_n 3, 1) := by decide +kernel
theorem dX11_played_27 : decode cX11_played 27 = .ok (.aload_n 2, 1) := by decide +kernel
theorem dX11_played_28 : decode cX11_played 28 = .ok (.getfield 177, 3) := by decide +kernel
theorem dX11_played_31 : decode cX11_played 31 = .ok (.if_icmp .ge 36, 3) := by decide +kernel
theorem dX11_played_34 : decode cX11_played 34 = .ok (.aload_n 0, 1) := by decide +kernel
theorem dX11_played_35 : decode cX11_played 35 = .ok (.aload_n 2, 1) := by decide +kernel
theorem dX11_played_36 : decode cX11_played 36 = .ok (.getfield 180, 3) := by decide +kernel
theorem dX11_played_39 : decode cX11_played 39 = .ok (.iload_n 3, 1) := by decide +kernel
theorem dX11_played_40 : decode cX11_played 40 = .ok (.iaload, 1) := by decide +kernel
theorem dX11_played_41 : decode cX11_played 41 = .ok (.aload_n 2, 1) := by decide +kernel
theorem dX11_played_42 : decode cX11_played 42 = .ok (.getfield 183, 3) := by decide +kernel
theorem dX11_played_45 : decode cX11_played 45 = .ok (.iload_n 3, 1) := by decide +kernel
theorem dX11_played_46 : decode cX11_played 46 = .ok (.iaload, 1) := by decide +kernel
theorem dX11_played_47 : decode cX11_played 47 = .ok (.aload_n 2, 1) := by decide +kernel
theorem dX11_played_48 : decode cX11_played 48 = .ok (.getfield 186, 3) := by decide +kernel
theorem dX11_played_51 : decode cX11_played 51 = .ok (.iload_n 3, 1) := by decide +kernel
theorem dX11_played_52 : decode cX11_played 52 = .ok (.iaload, 1) := by decide +kernel
theorem dX11_played_53 : decode cX11_played 53 = .ok (.invokevirtual 189, 3) := by decide +kernel
theorem dX11_played_56 : decode cX11_played 56 = .ok (.ifCond .ne 5, 3) := by decide +kernel
theorem dX11_played_59 : decode cX11_played 59 = .ok (.iload_n 3, 1) := by decide +kernel
theorem dX11_played_60 : decode cX11_played 60 = .ok (.ireturn, 1) := by decide +kernel
theorem dX11_played_61 : decode cX11_played 61 = .ok (.iinc 3 1, 3) := by decide +kernel
theorem dX11_played_64 : decode cX11_played 64 = .ok (.goto (-44), 3) := by decide +kernel
theorem dX11_played_67 : decode cX11_played 67 = .ok (.iconst (-1), 1) := by decide +kernel
theorem dX11_played_68 : decode cX11_played 68 = .ok (.ireturn, 1) := by decide +kernel
set_option maxRecDepth 20000 in
theorem ggX11_carryOut_X11_pain : GoodIn wsX11_carryOut wsX11_pain := goodIn_r _ [9, 1, 10, 11, 12, 13, 8, 14, 236, 237, 238, 239, 240, 241, 242, 243, 244, 245, 246, 247, 248, 249, 250, 251, 252, 253, 254, 255, 256, 257, 258, 259, 272, 273, 274, 275, 276] (by decide +kernel) (by decide +kernel)
set_option maxRecDepth 20000 in
theorem gX11_carryOut_X11_pain : GoodIn wsX11_carryOut (wsV RX11 193 RX11 yX11_pain wsX11_pain) := goodIn_app (goodIn_of _ (by decide +kernel)) ggX11_carryOut_X11_pain
set_option maxRecDepth 20000 in
theorem ggX11_carryOut_X11_hang : GoodIn wsX11_carryOut wsX11_hang := goodIn_r _ [18, 1, 10, 19, 20, 21, 22, 23, 24, 13, 8, 14, 25, 26, 27, 28, 29, 30, 31, 32, 33, 34, 35, 36, 37, 38, 39, 40, 41, 42, 43, 44, 236, 237, 238, 239, 240, 241, 242, 243, 244, 245, 246, 247, 248, 249, 250, 251, 252, 253, 254, 255, 256, 257, 258, 259, 272, 273, 274, 275, 276] (by decide +kernel) (by decide +kernel)
set_option maxRecDepth 20000 in
theorem gX11_carryOut_X11_hang : GoodIn wsX11_carryOut (wsV RX11 197 RX11 yX11_hang wsX11_hang) := goodIn_app (goodIn_of _ (by decide +kernel)) ggX11_carryOut_X11_hang
set_option maxRecDepth 20000 in
theorem ggX11_carryOut_X11_person : GoodIn wsX11_carryOut wsX11_person := goodIn_r _ [48, 1, 12, 13, 8, 14, 49, 50, 51, 52, 53, 54, 55, 56, 57, 58, 59, 60, 61, 62, 63, 64, 65, 66, 67, 68, 69, 70, 236, 237, 238, 239, 240, 241, 242, 243, 244, 245, 246, 247, 248, 249, 250, 251, 252, 253, 254, 255, 256, 257, 258, 259, 260, 261, 262, 263, 264, 265, 266, 267, 268, 269, 270, 271] (by decide +kernel) (by decide +kernel)
set_option maxRecDepth 20000 in
theorem gX11_carryOut_X11_person : GoodIn wsX11_carryOut (wsV RX11 200 RX11 yX11_person wsX11_person) := goodIn_app (goodIn_of _ (by decide +kernel)) ggX11_carryOut_X11_person
set_option maxRecDepth 20000 in
theorem ggX11_carryOut_X11_ask : GoodIn wsX11_carryOut wsX11_ask := goodIn_r _ [74, 1, 2, 4, 75, 76, 77, 63, 78, 66, 79, 80, 81, 82, 83, 84, 85, 86, 52, 87, 56, 57, 54, 88, 89, 90, 91, 65, 92, 93, 94, 95, 67, 68, 69, 70, 96, 97, 98, 99, 100, 101, 102, 103, 104, 105, 106, 107, 108, 109, 110, 111, 112, 113, 35, 114, 115, 116, 117, 118, 119, 120, 121, 122, 13, 8, 14, 123, 124, 125, 126, 127, 128, 25, 26, 129, 130, 131, 132, 133, 134, 135, 136, 137, 138, 139, 140, 141, 34, 36, 142, 143, 144, 145, 146, 147, 148, 149, 150, 151, 152, 153, 154, 155, 156, 157, 158, 159, 58, 59, 160, 39, 40, 41, 42, 43, 44, 161, 162, 163, 164, 165, 166, 167, 168, 169, 170, 171, 172, 173, 174, 175, 176, 177, 178, 179, 180, 181, 182, 183, 184, 185, 186, 187, 188, 189, 190, 191, 192, 193, 194, 195, 196, 197, 198, 199, 200, 201, 202, 236, 237, 238, 239, 240, 241, 242, 243, 244, 245, 246, 247, 248, 249, 250, 251, 252, 253, 254, 255, 256, 257, 258, 259, 260, 261, 262, 263, 264, 265, 266, 267, 268, 269, 270, 271, 277, 278, 279, 272, 273, 274, 275, 276, 280, 281, 282, 283, 284, 285, 286, 287, 288, 289, 290, 291, 292, 293] (by decide +kernel) (by decide +kernel)
set_option maxRecDepth 20000 in
theorem gX11_carryOut_X11_ask : GoodIn wsX11_carryOut (wsV RX11 203 RX11 yX11_ask wsX11_ask) := goodIn_app (goodIn_of _ (by decide +kernel)) ggX11_carryOut_X11_ask
set_option maxRecDepth 20000 in
theorem ggX11_carryOut_X11_give : GoodIn wsX11_carryOut wsX11_give := goodIn_r _ [206, 4, 1, 2, 207, 208, 209, 104, 210, 107, 121, 115, 76, 77, 63, 78, 66, 79, 80, 81, 82, 83, 13, 8, 14, 25, 26, 84, 85, 86, 52, 87, 56, 57, 54, 88, 89, 90, 91, 65, 92, 93, 94, 95, 67, 68, 69, 70, 96, 97, 98, 99, 100, 211, 212, 213, 214, 108, 109, 110, 58, 59, 199, 200, 201, 202, 198, 113, 35, 114, 236, 237, 238, 239, 240, 241, 242, 243, 244, 245, 246, 247, 248, 249, 250, 251, 252, 253, 254, 255, 256, 257, 258, 259, 260, 261, 262, 263, 264, 265, 266, 267, 268, 269, 270, 271, 277, 278, 279, 272, 273, 274, 275, 276] (by decide +kernel) (by decide +kernel)
set_option maxRecDepth 20000 in
theorem gX11_carryOut_X11_give : GoodIn wsX11_carryOut (wsV RX11 207 RX11 yX11_give wsX11_give) := goodIn_app (goodIn_of _ (by decide +kernel)) ggX11_carryOut_X11_give
set_option maxRecDepth 20000 in
theorem ggX11_carryOut_X11_again : GoodIn wsX11_carryOut wsX11_again := goodIn_r _ [218, 4, 1, 2, 219, 220, 221, 222, 104, 223, 224, 122, 80, 81, 63, 82, 83, 13, 8, 14, 84, 85, 86, 52, 87, 56, 57, 54, 88, 89, 90, 91, 65, 92, 93, 94, 95, 66, 67, 68, 69, 70, 96, 97, 98, 99, 100, 225, 61, 62, 64, 58, 59, 236, 237, 238, 239, 240, 241, 242, 243, 244, 245, 246, 247, 248, 249, 250, 251, 252, 253, 254, 255, 256, 257, 258, 259, 260, 261, 262, 263, 264, 265, 266, 267, 268, 269, 270, 271] (by decide +kernel) (by decide +kernel)
set_option maxRecDepth 20000 in
theorem gX11_carryOut_X11_again : GoodIn wsX11_carryOut (wsV RX11 210 RX11 yX11_again wsX11_again) := goodIn_app (goodIn_of _ (by decide +kernel)) ggX11_carryOut_X11_again
set_option maxRecDepth 20000 in
theorem ggX11_carryOut_X1_keepStep : GoodIn wsX11_carryOut wsX1_keepStep := goodIn_r _ [87, 56, 57, 54, 88, 89, 90, 63, 91, 65, 92, 93, 94, 95, 66, 67, 68, 69, 70, 96, 97, 83, 98, 99, 100, 248, 249, 250, 251, 252, 253, 254, 255, 256, 257, 258, 259, 260, 261, 262, 263, 264, 265, 266, 267, 268, 269, 270, 271] (by decide +kernel) (by decide +kernel)
set_option maxRecDepth 20000 in
theorem gX11_carryOut_X1_keepStep : GoodIn wsX11_carryOut (wsV RX11 145 RX1 yX1_keepStep wsX1_keepStep) := goodIn_app (goodIn_of _ (by decide +kernel)) ggX11_carryOut_X1_keepStep
set_option maxRecDepth 20000 in
theorem ggX11_carryOut_X2_passDay : GoodIn wsX11_carryOut wsX2_passDay := goodIn_r _ [229, 224, 230, 115, 76, 77, 63, 78, 66, 79, 80, 81, 82, 83, 231, 232, 233, 234, 100, 235, 102, 103, 104, 105, 106, 107, 108, 109, 110, 111, 112, 113, 35, 114, 116, 117, 118, 119, 120, 121, 122, 13, 8, 14, 123, 124, 125, 126, 127, 128, 25, 26, 129, 130, 131, 132, 133, 134, 135, 136, 137, 138, 139, 140, 141, 34, 36, 142, 143, 144, 145, 146, 147, 148, 149, 150, 151, 152, 153, 154, 155, 156, 157, 158, 159, 58, 59, 160, 39, 40, 41, 42, 43, 44, 161, 162, 163, 164, 165, 166, 167, 168, 169, 170, 171, 172, 173, 174, 175, 176, 177, 178, 179, 180, 181, 182, 183, 184, 185, 186, 187, 188, 189, 190, 191, 192, 193, 194, 195, 196, 197, 98, 198, 68, 97, 96, 92, 93, 94, 95, 99, 65, 199, 200, 201, 202, 67, 260, 261, 262, 263, 264, 265, 266, 267, 268, 269, 270, 271, 277, 278, 279, 248, 249, 250, 251, 252, 253, 254, 255, 256, 257, 258, 259, 272, 273, 274, 275, 276, 280, 281, 282, 283, 284, 285, 286, 287, 288, 289, 290, 291, 292, 293] (by decide +kernel) (by decide +kernel)
set_option maxRecDepth 20000 in
theorem gX11_carryOut_X2_passDay : GoodIn wsX11_carryOut (wsV RX11 173 RX2 yX2_passDay wsX2_passDay) := goodIn_app (goodIn_of _ (by decide +kernel)) ggX11_carryOut_X2_passDay
theorem dX11_carryOut_0 : decode cX11_carryOut 0 = .ok (.iload_n 1, 1) := by decide +kernel
theorem dX11_carryOut_1 : decode cX11_carryOut 1 = .ok (.tableswitch 184 18 28 #[59, 184, 66, 184, 74, 184, 90, 105, 184, 112, 119], 59) := by decide +kernel
theorem dX11_carryOut_60 : decode cX11_carryOut 60 = .ok (.aload_n 0, 1) := by decide +kernel
theorem dX11_carryOut_61 : decode cX11_carryOut 61 = .ok (.iload_n 3, 1) := by decide +kernel
theorem dX11_carryOut_62 : decode cX11_carryOut 62 = .ok (.iload_n 2, 1) := by decide +kernel
theorem dX11_carryOut_63 : decode cX11_carryOut 63 = .ok (.invokevirtual 193, 3) := by decide +kernel
theorem dX11_carryOut_66 : decode cX11_carryOut 66 = .ok (.ireturn, 1) := by decide +kernel
theorem dX11_carryOut_67 : decode cX11_carryOut 67 = .ok (.aload_n 0, 1) := by decide +kernel
theorem dX11_carryOut_68 : decode cX11_carryOut 68 = .ok (.iload_n 2, 1) := by decide +kernel
theorem dX11_carryOut_69 : decode cX11_carryOut 69 = .ok (.iload_n 3, 1) := by decide +kernel
theorem dX11_carryOut_70 : decode cX11_carryOut 70 = .ok (.iconst 1, 1) := by decide +kernel
theorem dX11_carryOut_71 : decode cX11_carryOut 71 = .ok (.invokevirtual 197, 3) := by decide +kernel
theorem dX11_carryOut_74 : decode cX11_carryOut 74 = .ok (.ireturn, 1) := by decide +kernel
theorem dX11_carryOut_75 : decode cX11_carryOut 75 = .ok (.aload_n 0, 1) := by decide +kernel
theorem dX11_carryOut_76 : decode cX11_carryOut 76 = .ok (.iload_n 2, 1) := by decide +kernel
theorem dX11_carryOut_77 : decode cX11_carryOut 77 = .ok (.iload_n 3, 1) := by decide +kernel
theorem dX11_carryOut_78 : decode cX11_carryOut 78 = .ok (.invokevirtual 200, 3) := by decide +kernel
theorem dX11_carryOut_81 : decode cX11_carryOut 81 = .ok (.iconst (-1), 1) := by decide +kernel
theorem dX11_carryOut_82 : decode cX11_carryOut 82 = .ok (.if_icmp .eq 7, 3) := by decide +kernel
theorem dX11_carryOut_85 : decode cX11_carryOut 85 = .ok (.iconst 1, 1) := by decide +kernel
theorem dX11_carryOut_86 : decode cX11_carryOut 86 = .ok (.goto 4, 3) := by decide +kernel
theorem dX11_carryOut_89 : decode cX11_carryOut 89 = .ok (.iconst 0, 1) := by decide +kernel
theorem dX11_carryOut_90 : decode cX11_carryOut 90 = .ok (.ireturn, 1) := by decide +kernel
theorem dX11_carryOut_91 : decode cX11_carryOut 91 = .ok (.aload_n 0, 1) := by decide +kernel
theorem dX11_carryOut_92 : decode cX11_carryOut 92 = .ok (.iload_n 2, 1) := by decide +kernel
theorem dX11_carryOut_93 : decode cX11_carryOut 93 = .ok (.invokevirtual 203, 3) := by decide +kernel
theorem dX11_carryOut_96 : decode cX11_carryOut 96 = .ok (.iconst (-1), 1) := by decide +kernel
theorem dX11_carryOut_97 : decode cX11_carryOut 97 = .ok (.if_icmp .eq 7, 3) := by decide +kernel
theorem dX11_carryOut_100 : decode cX11_carryOut 100 = .ok (.iconst 1, 1) := by decide +kernel
theorem dX11_carryOut_101 : decode cX11_carryOut 101 = .ok (.goto 4, 3) := by decide +kernel
theorem dX11_carryOut_104 : decode cX11_carryOut 104 = .ok (.iconst 0, 1) := by decide +kernel
theorem dX11_carryOut_105 : decode cX11_carryOut 105 = .ok (.ireturn, 1) := by decide +kernel
theorem dX11_carryOut_106 : decode cX11_carryOut 106 = .ok (.aload_n 0, 1) := by decide +kernel
theorem dX11_carryOut_107 : decode cX11_carryOut 107 = .ok (.iload_n 3, 1) := by decide +kernel
theorem dX11_carryOut_108 : decode cX11_carryOut 108 = .ok (.iload_n 2, 1) := by decide +kernel
theorem dX11_carryOut_109 : decode cX11_carryOut 109 = .ok (.invokevirtual 207, 3) := by decide +kernel
theorem dX11_carryOut_112 : decode cX11_carryOut 112 = .ok (.ireturn, 1) := by decide +kernel
theorem dX11_carryOut_113 : decode cX11_carryOut 113 = .ok (.aload_n 0, 1) := by decide +kernel
theorem dX11_carryOut_114 : decode cX11_carryOut 114 = .ok (.iload_n 3, 1) := by decide +kernel
theorem dX11_carryOut_115 : decode cX11_carryOut 115 = .ok (.iload_n 2, 1) := by decide +kernel
theorem dX11_carryOut_116 : decode cX11_carryOut 116 = .ok (.invokevirtual 210, 3) := by decide +kernel
theorem dX11_carryOut_119 : decode cX11_carryOut 119 = .ok (.ireturn, 1) := by decide +kernel
theorem dX11_carryOut_120 : decode cX11_carryOut 120 = .ok (.iconst 0, 1) := by decide +kernel
theorem dX11_carryOut_121 : decode cX11_carryOut 121 = .ok (.istore 4, 2) := by decide +kernel
theorem dX11_carryOut_123 : decode cX11_carryOut 123 = .ok (.iload 4, 2) := by decide +kernel
theorem dX11_carryOut_125 : decode cX11_carryOut 125 = .ok (.iload_n 2, 1) := by decide +kernel
theorem dX11_carryOut_126 : decode cX11_carryOut 126 = .ok (.if_icmp .ge 47, 3) := by decide +kernel
theorem dX11_carryOut_129 : decode cX11_carryOut 129 = .ok (.aload_n 0, 1) := by decide +kernel
theorem dX11_carryOut_130 : decode cX11_carryOut 130 = .ok (.getfield 12, 3) := by decide +kernel
theorem dX11_carryOut_133 : decode cX11_carryOut 133 = .ok (.getfield 139, 3) := by decide +kernel
theorem dX11_carryOut_136 : decode cX11_carryOut 136 = .ok (.getfield 170, 3) := by decide +kernel
theorem dX11_carryOut_139 : decode cX11_carryOut 139 = .ok (.sipush 9999, 3) := by decide +kernel
theorem dX11_carryOut_142 : decode cX11_carryOut 142 = .ok (.if_icmp .ge 31, 3) := by decide +kernel
theorem dX11_carryOut_145 : decode cX11_carryOut 145 = .ok (.aload_n 0, 1) := by decide +kernel
theorem dX11_carryOut_146 : decode cX11_carryOut 146 = .ok (.getfield 12, 3) := by decide +kernel
theorem dX11_carryOut_149 : decode cX11_carryOut 149 = .ok (.invokevirtual 145, 3) := by decide +kernel
theorem dX11_carryOut_152 : decode cX11_carryOut 152 = .ok (.aload_n 0, 1) := by decide +kernel
theorem dX11_carryOut_153 : decode cX11_carryOut 153 = .ok (.getfield 60, 3) := by decide +kernel
theorem dX11_carryOut_156 : decode cX11_carryOut 156 = .ok (.aload_n 0, 1) := by decide +kernel
theorem dX11_carryOut_157 : decode cX11_carryOut 157 = .ok (.getfield 12, 3) := by decide +kernel
theorem dX11_carryOut_160 : decode cX11_carryOut 160 = .ok (.getfield 139, 3) := by decide +kernel
theorem dX11_carryOut_163 : decode cX11_carryOut 163 = .ok (.invokevirtual 173, 3) := by decide +kernel
theorem dX11_carryOut_166 : decode cX11_carryOut 166 = .ok (.pop, 1) := by decide +kernel
theorem dX11_carryOut_167 : decode cX11_carryOut 167 = .ok (.iinc 4 1, 3) := by decide +kernel
theorem dX11_carryOut_170 : decode cX11_carryOut 170 = .ok (.goto (-47), 3) := by decide +kernel
theorem dX11_carryOut_173 : decode cX11_carryOut 173 = .ok (.iload 4, 2) := by decide +kernel
theorem dX11_carryOut_175 : decode cX11_carryOut 175 = .ok (.iload_n 2, 1) := by decide +kernel
theorem dX11_carryOut_176 : decode cX11_carryOut 176 = .ok (.if_icmp .ne 7, 3) := by decide +kernel
theorem dX11_carryOut_179 : decode cX11_carryOut 179 = .ok (.iconst 1, 1) := by decide +kernel
theorem dX11_carryOut_180 : decode cX11_carryOut 180 = .ok (.goto 4, 3) := by decide +kernel
theorem dX11_carryOut_183 : decode cX11_carryOut 183 = .ok (.iconst 0, 1) := by decide +kernel
theorem dX11_carryOut_184 : decode cX11_carryOut 184 = .ok (.ireturn, 1) := by decide +kernel
theorem dX11_carryOut_185 : decode cX11_carryOut 185 = .ok (.iconst 1, 1) := by decide +kernel
theorem dX11_carryOut_186 : decode cX11_carryOut 186 = .ok (.ireturn, 1) := by decide +kernel
set_option maxRecDepth 20000 in
theorem ggX11_years_X1_keepStep : GoodIn wsX11_years wsX1_keepStep := goodIn_r _ [10, 11, 12, 13, 14, 15, 16, 17, 18, 19, 20, 21, 22, 23, 24, 25, 26, 27, 28, 29, 30, 31, 32, 33, 34, 204, 205, 206, 207, 208, 209, 210, 211, 212, 213, 214, 215, 216, 217, 218, 219, 220, 221, 222, 223, 224, 225, 226, 227] (by decide +kernel) (by decide +kernel)
set_option maxRecDepth 20000 in
theorem gX11_years_X1_keepStep : GoodIn wsX11_years (wsV RX11 145 RX1 yX1_keepStep wsX1_keepStep) := goodIn_app (goodIn_of _ (by decide +kernel)) ggX11_years_X1_keepStep
set_option maxRecDepth 20000 in
theorem ggX11_years_X2_passDraw : GoodIn wsX11_years wsX2_passDraw := goodIn_r _ [39, 40, 41, 42, 43, 44, 45, 17, 46, 34, 47, 48, 49, 38, 50, 51, 52, 53, 54, 55, 56, 57, 58, 59, 60, 61, 62, 63, 64, 24, 65, 66, 67, 68, 31, 69, 70, 71, 72, 73, 74, 75, 76, 77, 78, 79, 80, 81, 82, 83, 84, 85, 86, 87, 88, 89, 90, 91, 92, 93, 94, 95, 96, 97, 98, 99, 100, 101, 102, 103, 104, 105, 106, 107, 108, 109, 110, 111, 112, 113, 114, 115, 116, 117, 118, 119, 120, 121, 122, 123, 124, 125, 126, 127, 128, 129, 130, 131, 132, 133, 134, 135, 136, 137, 138, 139, 140, 141, 142, 143, 144, 145, 146, 147, 148, 149, 150, 151, 152, 153, 154, 155, 156, 157, 158, 159, 160, 161, 162, 163, 164, 165, 32, 166, 26, 30, 29, 20, 21, 22, 23, 33, 19, 167, 168, 169, 170, 25, 171, 172, 173, 174, 175, 176, 177, 178, 179, 180, 181, 182, 183, 184, 185, 186, 187, 27, 28, 188, 189, 190, 191, 216, 217, 218, 219, 220, 221, 222, 223, 224, 225, 226, 227, 228, 229, 230, 204, 205, 206, 207, 208, 209, 210, 211, 212, 213, 214, 215, 231, 232, 233, 234, 235, 236, 237, 238, 239, 240, 241, 242, 243, 244, 245, 246, 247, 248, 249] (by decide +kernel) (by decide +kernel)
set_option maxRecDepth 20000 in
theorem gX11_years_X2_passDraw : GoodIn wsX11_years (wsV RX11 216 RX2 yX2_passDraw wsX2_passDraw) := goodIn_app (goodIn_of _ (by decide +kernel)) ggX11_years_X2_passDraw
theorem dX11_years_0 : decode cX11_years 0 = .ok (.iload_n 1, 1) := by decide +kernel
theorem dX11_years_1 : decode cX11_years 1 = .ok (.ifCond .lt 21, 3) := by decide +kernel
theorem dX11_years_4 : decode cX11_years 4 = .ok (.iload_n 1, 1) := by decide +kernel
theorem dX11_years_5 : decode cX11_years 5 = .ok (.sipush 9999, 3) := by decide +kernel
theorem dX11_years_8 : decode cX11_years 8 = .ok (.if_icmp .gt 14, 3) := by decide +kernel
theorem dX11_years_11 : decode cX11_years 11 = .ok (.iload_n 2, 1) := by decide +kernel
theorem dX11_years_12 : decode cX11_years 12 = .ok (.iconst 1, 1) := by decide +kernel
theorem dX11_years_13 : decode cX11_years 13 = .ok (.if_icmp .lt 9, 3) := by decide +kernel
theorem dX11_years_16 : decode cX11_years 16 = .ok (.iload_n 2, 1) := by decide +kernel
theorem dX11_years_17 : decode cX11_years 17 = .ok (.bipush 40, 2) := by decide +kernel
theorem dX11_years_19 : decode cX11_years 19 = .ok (.if_icmp .le 5, 3) := by decide +kernel
theorem dX11_years_22 : decode cX11_years 22 = .ok (.iconst (-1), 1) := by decide +kernel
theorem dX11_years_23 : decode cX11_years 23 = .ok (.ireturn, 1) := by decide +kernel
theorem dX11_years_24 : decode cX11_years 24 = .ok (.aload_n 0, 1) := by decide +kernel
theorem dX11_years_25 : decode cX11_years 25 = .ok (.getfield 12, 3) := by decide +kernel
theorem dX11_years_28 : decode cX11_years 28 = .ok (.invokevirtual 145, 3) := by decide +kernel
theorem dX11_years_31 : decode cX11_years 31 = .ok (.aload_n 0, 1) := by decide +kernel
theorem dX11_years_32 : decode cX11_years 32 = .ok (.getfield 12, 3) := by decide +kernel
theorem dX11_years_35 : decode cX11_years 35 = .ok (.getfield 139, 3) := by decide +kernel
theorem dX11_years_38 : decode cX11_years 38 = .ok (.iload_n 1, 1) := by decide +kernel
theorem dX11_years_39 : decode cX11_years 39 = .ok (.iconst 2, 1) := by decide +kernel
theorem dX11_years_40 : decode cX11_years 40 = .ok (.imul, 1) := by decide +kernel
theorem dX11_years_41 : decode cX11_years 41 = .ok (.sipush 251, 3) := by decide +kernel
theorem dX11_years_44 : decode cX11_years 44 = .ok (.iadd, 1) := by decide +kernel
theorem dX11_years_45 : decode cX11_years 45 = .ok (.putfield 213, 3) := by decide +kernel
theorem dX11_years_48 : decode cX11_years 48 = .ok (.iconst 0, 1) := by decide +kernel
theorem dX11_years_49 : decode cX11_years 49 = .ok (.istore_n 3, 1) := by decide +kernel
theorem dX11_years_50 : decode cX11_years 50 = .ok (.iload_n 3, 1) := by decide +kernel
theorem dX11_years_51 : decode cX11_years 51 = .ok (.iload_n 2, 1) := by decide +kernel
theorem dX11_years_52 : decode cX11_years 52 = .ok (.if_icmp .ge 23, 3) := by decide +kernel
theorem dX11_years_55 : decode cX11_years 55 = .ok (.aload_n 0, 1) := by decide +kernel
theorem dX11_years_56 : decode cX11_years 56 = .ok (.getfield 60, 3) := by decide +kernel
theorem dX11_years_59 : decode cX11_years 59 = .ok (.aload_n 0, 1) := by decide +kernel
theorem dX11_years_60 : decode cX11_years 60 = .ok (.getfield 12, 3) := by decide +kernel
theorem dX11_years_63 : decode cX11_years 63 = .ok (.getfield 139, 3) := by decide +kernel
theorem dX11_years_66 : decode cX11_years 66 = .ok (.invokevirtual 216, 3) := by decide +kernel
theorem dX11_years_69 : decode cX11_years 69 = .ok (.iinc 3 1, 3) := by decide +kernel
theorem dX11_years_72 : decode cX11_years 72 = .ok (.goto (-22), 3) := by decide +kernel
theorem dX11_years_75 : decode cX11_years 75 = .ok (.aload_n 0, 1) := by decide +kernel
theorem dX11_years_76 : decode cX11_years 76 = .ok (.getfield 12, 3) := by decide +kernel
theorem dX11_years_79 : decode cX11_years 79 = .ok (.getfield 139, 3) := by decide +kernel
theorem dX11_years_82 : decode cX11_years 82 = .ok (.getfield 170, 3) := by decide +kernel
theorem dX11_years_85 : decode cX11_years 85 = .ok (.ireturn, 1) := by decide +kernel
set_option maxRecDepth 20000 in
theorem ggX11_undo_X1_takeBack : GoodIn wsX11_undo wsX1_takeBack := goodIn_r _ [7, 8, 9, 10, 11, 12, 13, 14, 15, 16, 17, 18, 19, 20, 21, 22, 23, 24, 25, 26, 27, 28, 29, 30, 31, 44, 45, 46, 47, 48, 49, 50, 51, 52, 53, 54, 55, 56, 57, 58, 59, 60, 61, 62, 63, 64, 65, 66, 67] (by decide +kernel) (by decide +kernel)
set_option maxRecDepth 20000 in
theorem gX11_undo_X1_takeBack : GoodIn wsX11_undo (wsV RX11 220 RX1 yX1_takeBack wsX1_takeBack) := goodIn_app (goodIn_of _ (by decide +kernel)) ggX11_undo_X1_takeBack
theorem dX11_undo_0 : decode cX11_undo 0 = .ok (.aload_n 0, 1) := by decide +kernel
theorem dX11_undo_1 : decode cX11_undo 1 = .ok (.getfield 12, 3) := by decide +kernel
theorem dX11_undo_4 : decode cX11_undo 4 = .ok (.invokevirtual 220, 3) := by decide +kernel
theorem dX11_undo_7 : decode cX11_undo 7 = .ok (.ifCond .eq 13, 3) := by decide +kernel
theorem dX11_undo_10 : decode cX11_undo 10 = .ok (.aload_n 0, 1) := by decide +kernel
theorem dX11_undo_11 : decode cX11_undo 11 = .ok (.getfield 12, 3) := by decide +kernel
theorem dX11_undo_14 : decode cX11_undo 14 = .ok (.getfield 224, 3) := by decide +kernel
theorem dX11_undo_17 : decode cX11_undo 17 = .ok (.goto 4, 3) := by decide +kernel
theorem dX11_undo_20 : decode cX11_undo 20 = .ok (.iconst (-1), 1) := by decide +kernel
theorem dX11_undo_21 : decode cX11_undo 21 = .ok (.ireturn, 1) := by decide +kernel
set_option maxRecDepth 20000 in
theorem ggX11_of_X4_isThere : GoodIn wsX11_of wsX4_isThere := goodIn_r _ [15, 16, 143, 144, 145, 146, 147, 148, 149, 150, 151, 152, 153, 154] (by decide +kernel) (by decide +kernel)
set_option maxRecDepth 20000 in
theorem gX11_of_X4_isThere : GoodIn wsX11_of (wsV RX11 227 RX4 yX4_isThere wsX4_isThere) := goodIn_app (goodIn_of _ (by decide +kernel)) ggX11_of_X4_isThere
set_option maxRecDepth 20000 in
theorem ggX11_of_X2_rulingText : GoodIn wsX11_of wsX2_rulingText := goodIn_r _ [21, 22, 23, 24, 155, 156, 157, 131, 132, 133, 134, 135, 136, 137, 138, 139, 140, 141, 142] (by decide +kernel) (by decide +kernel)
set_option maxRecDepth 20000 in
theorem gX11_of_X2_rulingText : GoodIn wsX11_of (wsV RX11 245 RX2 yX2_rulingText wsX2_rulingText) := goodIn_app (goodIn_of _ (by decide +kernel)) ggX11_of_X2_rulingText
set_option maxRecDepth 20000 in
theorem ggX11_of_X5_saysNeed : GoodIn wsX11_of wsX5_saysNeed := goodIn_r _ [29, 30, 31, 32, 33, 34, 35, 36, 37, 38, 39, 40, 41, 12, 13, 14, 15, 16, 42, 43, 44, 45, 46, 47, 48, 49, 50, 51, 28, 52, 53, 54, 55, 56, 57, 58, 59, 60, 61, 62, 63, 64, 65, 66, 67, 68, 69, 70, 71, 72, 73, 74, 75, 76, 77, 78, 79, 80, 81, 82, 83, 84, 85, 86, 87, 88, 89, 90, 91, 92, 93, 94, 95, 143, 144, 145, 146, 147, 148, 149, 150, 151, 152, 153, 154, 158, 159, 160, 161, 162, 163, 164, 165, 166, 167, 168, 169, 170, 171, 172, 173, 174, 175, 176] (by decide +kernel) (by decide +kernel)
set_option maxRecDepth 20000 in
theorem gX11_of_X5_saysNeed : GoodIn wsX11_of (wsV RX11 249 RX5 yX5_saysNeed wsX5_saysNeed) := goodIn_app (goodIn_of _ (by decide +kernel)) ggX11_of_X5_saysNeed
set_option maxRecDepth 20000 in
theorem ggX11_of_X2_nextPlace : GoodIn wsX11_of wsX2_nextPlace := goodIn_r _ [99, 100, 22, 101, 102, 103, 104, 105, 12, 13, 14, 15, 16, 106, 59, 107, 108, 18, 19, 20, 21, 23, 24, 109, 110, 111, 112, 113, 28, 114, 91, 115, 53, 116, 117, 118, 34, 35, 36, 37, 38, 39, 40, 41, 42, 43, 44, 45, 46, 47, 48, 49, 50, 51, 52, 54, 30, 31, 55, 56, 57, 58, 60, 61, 62, 63, 64, 65, 66, 67, 68, 69, 70, 71, 72, 73, 74, 75, 76, 77, 78, 79, 80, 81, 82, 83, 84, 85, 86, 87, 88, 89, 90, 92, 93, 94, 95, 143, 144, 145, 146, 147, 148, 149, 150, 151, 152, 153, 154, 155, 156, 157, 131, 132, 133, 134, 135, 136, 137, 138, 139, 140, 141, 142, 172, 173, 174, 175, 176, 169, 170, 171, 158, 159, 160, 161, 162, 163, 164, 165, 166, 167, 168] (by decide +kernel) (by decide +kernel)
set_option maxRecDepth 20000 in
theorem gX11_of_X2_nextPlace : GoodIn wsX11_of (wsV RX11 253 RX2 yX2_nextPlace wsX2_nextPlace) := goodIn_app (goodIn_of _ (by decide +kernel)) ggX11_of_X2_nextPlace
theorem dX11_of_0 : decode cX11_of 0 = .ok (.aload_n 0, 1) := by decide +kernel
theorem dX11_of_1 : decode cX11_of 1 = .ok (.getfield 12, 3) := by decide +kernel
theorem dX11_of_4 : decode cX11_of 4 = .ok (.getfield 139, 3) := by decide +kernel
theorem dX11_of_7 : decode cX11_of 7 = .ok (.astore_n 3, 1) := by decide +kernel
theorem dX11_of_8 : decode cX11_of 8 = .ok (.aload_n 3, 1) := by decide +kernel
theorem dX11_of_9 : decode cX11_of 9 = .ok (.iload_n 1, 1) := by decide +kernel
theorem dX11_of_10 : decode cX11_of 10 = .ok (.invokevirtual 227, 3) := by decide +kernel
theorem dX11_of_13 : decode cX11_of 13 = .ok (.ifCond .ne 5, 3) := by decide +kernel
theorem dX11_of_16 : decode cX11_of 16 = .ok (.iconst (-1), 1) := by decide +kernel
theorem dX11_of_17 : decode cX11_of 17 = .ok (.ireturn, 1) := by decide +kernel
theorem dX11_of_18 : decode cX11_of 18 = .ok (.iload_n 2, 1) := by decide +kernel
theorem dX11_of_19 : decode cX11_of 19 = .ok (.tableswitch 114 0 7 #[45, 52, 59, 66, 73, 80, 87, 104], 45) := by decide +kernel
theorem dX11_of_64 : decode cX11_of 64 = .ok (.aload_n 3, 1) := by decide +kernel
theorem dX11_of_65 : decode cX11_of 65 = .ok (.getfield 230, 3) := by decide +kernel
theorem dX11_of_68 : decode cX11_of 68 = .ok (.iload_n 1, 1) := by decide +kernel
theorem dX11_of_69 : decode cX11_of 69 = .ok (.iaload, 1) := by decide +kernel
theorem dX11_of_70 : decode cX11_of 70 = .ok (.ireturn, 1) := by decide +kernel
theorem dX11_of_71 : decode cX11_of 71 = .ok (.aload_n 3, 1) := by decide +kernel
theorem dX11_of_72 : decode cX11_of 72 = .ok (.getfield 233, 3) := by decide +kernel
theorem dX11_of_75 : decode cX11_of 75 = .ok (.iload_n 1, 1) := by decide +kernel
theorem dX11_of_76 : decode cX11_of 76 = .ok (.iaload, 1) := by decide +kernel
theorem dX11_of_77 : decode cX11_of 77 = .ok (.ireturn, 1) := by decide +kernel
theorem dX11_of_78 : decode cX11_of 78 = .ok (.aload_n 3, 1) := by decide +kernel
theorem dX11_of_79 : decode cX11_of 79 = .ok (.getfield 236, 3) := by decide +kernel
theorem dX11_of_82 : decode cX11_of 82 = .ok (.iload_n 1, 1) := by decide +kernel
theorem dX11_of_83 : decode cX11_of 83 = .ok (.iaload, 1) := by decide +kernel
theorem dX11_of_84 : decode cX11_of 84 = .ok (.ireturn, 1) := by decide +kernel
theorem dX11_of_85 : decode cX11_of 85 = .ok (.aload_n 3, 1) := by decide +kernel
theorem dX11_of_86 : decode cX11_of 86 = .ok (.getfield 163, 3) := by decide +kernel
theorem dX11_of_89 : decode cX11_of 89 = .ok (.iload_n 1, 1) := by decide +kernel
theorem dX11_of_90 : decode cX11_of 90 = .ok (.iaload, 1) := by decide +kernel
theorem dX11_of_91 : decode cX11_of 91 = .ok (.ireturn, 1) := by decide +kernel
theorem dX11_of_92 : decode cX11_of 92 = .ok (.aload_n 3, 1) := by decide +kernel
theorem dX11_of_93 : decode cX11_of 93 = .ok (.getfield 239, 3) := by decide +kernel
theorem dX11_of_96 : decode cX11_of 96 = .ok (.iload_n 1, 1) := by decide +kernel
theorem dX11_of_97 : decode cX11_of 97 = .ok (.iaload, 1) := by decide +kernel
theorem dX11_of_98 : decode cX11_of 98 = .ok (.ireturn, 1) := by decide +kernel
theorem dX11_of_99 : decode cX11_of 99 = .ok (.aload_n 3, 1) := by decide +kernel
theorem dX11_of_100 : decode cX11_of 100 = .ok (.getfield 242, 3) := by decide +kernel
theorem dX11_of_103 : decode cX11_of 103 = .ok (.iload_n 1, 1) := by decide +kernel
theorem dX11_of_104 : decode cX11_of 104 = .ok (.iaload, 1) := by decide +kernel
theorem dX11_of_105 : decode cX11_of 105 = .ok (.ireturn, 1) := by decide +kernel
theorem dX11_of_106 : decode cX11_of 106 = .ok (.aload_n 0, 1) := by decide +kernel
theorem dX11_of_107 : decode cX11_of 107 = .ok (.getfield 51, 3) := by decide +kernel
theorem dX11_of_110 : decode cX11_of 110 = .ok (.aload_n 0, 1) := by decide +kernel
theorem dX11_of_111 : decode cX11_of 111 = .ok (.getfield 60, 3) := by decide +kernel
theorem dX11_of_114 : decode cX11_of 114 = .ok (.invokevirtual 245, 3) := by decide +kernel
theorem dX11_of_117 : decode cX11_of 117 = .ok (.aload_n 3, 1) := by decide +kernel
theorem dX11_of_118 : decode cX11_of 118 = .ok (.iload_n 1, 1) := by decide +kernel
theorem dX11_of_119 : decode cX11_of 119 = .ok (.invokevirtual 249, 3) := by decide +kernel
theorem dX11_of_122 : decode cX11_of 122 = .ok (.ireturn, 1) := by decide +kernel
theorem dX11_of_123 : decode cX11_of 123 = .ok (.aload_n 0, 1) := by decide +kernel
theorem dX11_of_124 : decode cX11_of 124 = .ok (.getfield 60, 3) := by decide +kernel
theorem dX11_of_127 : decode cX11_of 127 = .ok (.aload_n 3, 1) := by decide +kernel
theorem dX11_of_128 : decode cX11_of 128 = .ok (.iload_n 1, 1) := by decide +kernel
theorem dX11_of_129 : decode cX11_of 129 = .ok (.invokevirtual 253, 3) := by decide +kernel
theorem dX11_of_132 : decode cX11_of 132 = .ok (.ireturn, 1) := by decide +kernel
theorem dX11_of_133 : decode cX11_of 133 = .ok (.iconst (-1), 1) := by decide +kernel
theorem dX11_of_134 : decode cX11_of 134 = .ok (.ireturn, 1) := by decide +kernel
set_option maxRecDepth 20000 in
theorem ggX11_ofWant_X11_isWant : GoodIn wsX11_ofWant wsX11_isWant := goodIn_r _ [10] (by decide +kernel) (by decide +kernel)
set_option maxRecDepth 20000 in
theorem gX11_ofWant_X11_isWant : GoodIn wsX11_ofWant (va_wsS RX11 95 yX11_isWant wsX11_isWant) := goodIn_app (goodIn_of _ (by decide +kernel)) ggX11_ofWant_X11_isWant
theorem dX11_ofWant_0 : decode cX11_ofWant 0 = .ok (.iload_n 1, 1) := by decide +kernel
theorem dX11_ofWant_1 : decode cX11_ofWant 1 = .ok (.invokestatic 95, 3) := by decide +kernel
theorem dX11_ofWant_4 : decode cX11_ofWant 4 = .ok (.ifCond .ne 5, 3) := by decide +kernel
theorem dX11_ofWant_7 : decode cX11_ofWant 7 = .ok (.iconst (-1), 1) := by decide +kernel
theorem dX11_ofWant_8 : decode cX11_ofWant 8 = .ok (.ireturn, 1) := by decide +kernel
theorem dX11_ofWant_9 : decode cX11_ofWant 9 = .ok (.iload_n 2, 1) := by decide +kernel
theorem dX11_ofWant_10 : decode cX11_ofWant 10 = .ok (.tableswitch 82 0 3 #[30, 43, 56, 69], 30) := by decide +kernel
theorem dX11_ofWant_40 : decode cX11_ofWant 40 = .ok (.aload_n 0, 1) := by decide +kernel
theorem dX11_ofWant_41 : decode cX11_ofWant 41 = .ok (.getfield 12, 3) := by decide +kernel
theorem dX11_ofWant_44 : decode cX11_ofWant 44 = .ok (.getfield 44, 3) := by decide +kernel
theorem dX11_ofWant_47 : decode cX11_ofWant 47 = .ok (.getfield 99, 3) := by decide +kernel
theorem dX11_ofWant_50 : decode cX11_ofWant 50 = .ok (.iload_n 1, 1) := by decide +kernel
theorem dX11_ofWant_51 : decode cX11_ofWant 51 = .ok (.iaload, 1) := by decide +kernel
theorem dX11_ofWant_52 : decode cX11_ofWant 52 = .ok (.ireturn, 1) := by decide +kernel
theorem dX11_ofWant_53 : decode cX11_ofWant 53 = .ok (.aload_n 0, 1) := by decide +kernel
theorem dX11_ofWant_54 : decode cX11_ofWant 54 = .ok (.getfield 12, 3) := by decide +kernel
theorem dX11_ofWant_57 : decode cX11_ofWant 57 = .ok (.getfield 44, 3) := by decide +kernel
theorem dX11_ofWant_60 : decode cX11_ofWant 60 = .ok (.getfield 256, 3) := by decide +kernel
theorem dX11_ofWant_63 : decode cX11_ofWant 63 = .ok (.iload_n 1, 1) := by decide +kernel
theorem dX11_ofWant_64 : decode cX11_ofWant 64 = .ok (.iaload, 1) := by decide +kernel
theorem dX11_ofWant_65 : decode cX11_ofWant 65 = .ok (.ireturn, 1) := by decide +kernel
theorem dX11_ofWant_66 : decode cX11_ofWant 66 = .ok (.aload_n 0, 1) := by decide +kernel
theorem dX11_ofWant_67 : decode cX11_ofWant 67 = .ok (.getfield 12, 3) := by decide +kernel
theorem dX11_ofWant_70 : decode cX11_ofWant 70 = .ok (.getfield 44, 3) := by decide +kernel
theorem dX11_ofWant_73 : decode cX11_ofWant 73 = .ok (.getfield 259, 3) := by decide +kernel
theorem dX11_ofWant_76 : decode cX11_ofWant 76 = .ok (.iload_n 1, 1) := by decide +kernel
theorem dX11_ofWant_77 : decode cX11_ofWant 77 = .ok (.iaload, 1) := by decide +kernel
theorem dX11_ofWant_78 : decode cX11_ofWant 78 = .ok (.ireturn, 1) := by decide +kernel
theorem dX11_ofWant_79 : decode cX11_ofWant 79 = .ok (.aload_n 0, 1) := by decide +kernel
theorem dX11_ofWant_80 : decode cX11_ofWant 80 = .ok (.getfield 12, 3) := by decide +kernel
theorem dX11_ofWant_83 : decode cX11_ofWant 83 = .ok (.getfield 44, 3) := by decide +kernel
theorem dX11_ofWant_86 : decode cX11_ofWant 86 = .ok (.getfield 262, 3) := by decide +kernel
theorem dX11_ofWant_89 : decode cX11_ofWant 89 = .ok (.iload_n 1, 1) := by decide +kernel
theorem dX11_ofWant_90 : decode cX11_ofWant 90 = .ok (.iaload, 1) := by decide +kernel
theorem dX11_ofWant_91 : decode cX11_ofWant 91 = .ok (.ireturn, 1) := by decide +kernel
theorem dX11_ofWant_92 : decode cX11_ofWant 92 = .ok (.iconst (-1), 1) := by decide +kernel
theorem dX11_ofWant_93 : decode cX11_ofWant 93 = .ok (.ireturn, 1) := by decide +kernel
set_option maxRecDepth 20000 in
theorem ggX11_tells_X4_isThere : GoodIn wsX11_tells wsX4_isThere := goodIn_r _ [9, 10, 119, 120, 121, 122, 123, 124, 125, 126, 127, 128, 129, 130] (by decide +kernel) (by decide +kernel)
set_option maxRecDepth 20000 in
theorem gX11_tells_X4_isThere : GoodIn wsX11_tells (wsV RX11 227 RX4 yX4_isThere wsX4_isThere) := goodIn_app (goodIn_of _ (by decide +kernel)) ggX11_tells_X4_isThere
set_option maxRecDepth 20000 in
theorem ggX11_tells_X11_isWant : GoodIn wsX11_tells wsX11_isWant := goodIn_r _ [14] (by decide +kernel) (by decide +kernel)
set_option maxRecDepth 20000 in
theorem gX11_tells_X11_isWant : GoodIn wsX11_tells (va_wsS RX11 95 yX11_isWant wsX11_isWant) := goodIn_app (goodIn_of _ (by decide +kernel)) ggX11_tells_X11_isWant
set_option maxRecDepth 20000 in
theorem ggX11_tells_X2_rulingText : GoodIn wsX11_tells wsX2_rulingText := goodIn_r _ [19, 20, 21, 22, 131, 132, 133, 107, 108, 109, 110, 111, 112, 113, 114, 115, 116, 117, 118] (by decide +kernel) (by decide +kernel)
set_option maxRecDepth 20000 in
theorem gX11_tells_X2_rulingText : GoodIn wsX11_tells (wsV RX11 245 RX2 yX2_rulingText wsX2_rulingText) := goodIn_app (goodIn_of _ (by decide +kernel)) ggX11_tells_X2_rulingText
set_option maxRecDepth 20000 in
theorem ggX11_tells_X5_saysNext : GoodIn wsX11_tells wsX5_saysNext := goodIn_r _ [27, 28, 29, 30, 31, 32, 33, 34, 35, 36, 37, 38, 39, 40, 12, 13, 14, 41, 6, 7, 8, 9, 10, 42, 43, 44, 45, 46, 47, 48, 49, 50, 51, 26, 52, 53, 54, 55, 56, 57, 58, 59, 60, 61, 62, 63, 64, 65, 66, 67, 68, 69, 70, 71, 72, 73, 74, 75, 76, 77, 78, 79, 80, 81, 82, 83, 84, 85, 86, 87, 88, 89, 90, 91, 92, 93, 94, 134, 135, 136, 137, 138, 139, 140, 141, 142, 143, 144, 145, 146, 147, 148, 149, 150, 151, 152, 119, 120, 121, 122, 123, 124, 125, 126, 127, 128, 129, 130] (by decide +kernel) (by decide +kernel)
set_option maxRecDepth 20000 in
theorem gX11_tells_X5_saysNext : GoodIn wsX11_tells (wsV RX11 265 RX5 yX5_saysNext wsX5_saysNext) := goodIn_app (goodIn_of _ (by decide +kernel)) ggX11_tells_X5_saysNext
theorem dX11_tells_0 : decode cX11_tells 0 = .ok (.aload_n 0, 1) := by decide +kernel
theorem dX11_tells_1 : decode cX11_tells 1 = .ok (.getfield 12, 3) := by decide +kernel
theorem dX11_tells_4 : decode cX11_tells 4 = .ok (.getfield 139, 3) := by decide +kernel
theorem dX11_tells_7 : decode cX11_tells 7 = .ok (.iload_n 1, 1) := by decide +kernel
theorem dX11_tells_8 : decode cX11_tells 8 = .ok (.invokevirtual 227, 3) := by decide +kernel
theorem dX11_tells_11 : decode cX11_tells 11 = .ok (.ifCond .eq 10, 3) := by decide +kernel
theorem dX11_tells_14 : decode cX11_tells 14 = .ok (.iload_n 2, 1) := by decide +kernel
theorem dX11_tells_15 : decode cX11_tells 15 = .ok (.invokestatic 95, 3) := by decide +kernel
theorem dX11_tells_18 : decode cX11_tells 18 = .ok (.ifCond .ne 7, 3) := by decide +kernel
theorem dX11_tells_21 : decode cX11_tells 21 = .ok (.sipush (-1000), 3) := by decide +kernel
theorem dX11_tells_24 : decode cX11_tells 24 = .ok (.ireturn, 1) := by decide +kernel
theorem dX11_tells_25 : decode cX11_tells 25 = .ok (.aload_n 0, 1) := by decide +kernel
theorem dX11_tells_26 : decode cX11_tells 26 = .ok (.getfield 51, 3) := by decide +kernel
theorem dX11_tells_29 : decode cX11_tells 29 = .ok (.aload_n 0, 1) := by decide +kernel
theorem dX11_tells_30 : decode cX11_tells 30 = .ok (.getfield 60, 3) := by decide +kernel
theorem dX11_tells_33 : decode cX11_tells 33 = .ok (.invokevirtual 245, 3) := by decide +kernel
theorem dX11_tells_36 : decode cX11_tells 36 = .ok (.aload_n 0, 1) := by decide +kernel
theorem dX11_tells_37 : decode cX11_tells 37 = .ok (.getfield 12, 3) := by decide +kernel
theorem dX11_tells_40 : decode cX11_tells 40 = .ok (.getfield 139, 3) := by decide +kernel
theorem dX11_tells_43 : decode cX11_tells 43 = .ok (.iload_n 1, 1) := by decide +kernel
theorem dX11_tells_44 : decode cX11_tells 44 = .ok (.iload_n 2, 1) := by decide +kernel
theorem dX11_tells_45 : decode cX11_tells 45 = .ok (.invokevirtual 265, 3) := by decide +kernel
theorem dX11_tells_48 : decode cX11_tells 48 = .ok (.ireturn, 1) := by decide +kernel
set_option maxRecDepth 20000 in
theorem ggX11_is_X4_allWaiting : GoodIn wsX11_is wsX4_allWaiting := goodIn_r _ [10, 11, 12, 13, 9, 14, 15, 16, 17, 18, 19, 20, 45, 46, 47, 48, 49, 50, 51, 52, 53, 54, 55, 56] (by decide +kernel) (by decide +kernel)
set_option maxRecDepth 20000 in
theorem gX11_is_X4_allWaiting : GoodIn wsX11_is (wsV RX11 269 RX4 yX4_allWaiting wsX4_allWaiting) := goodIn_app (goodIn_of _ (by decide +kernel)) ggX11_is_X4_allWaiting
theorem dX11_is_0 : decode cX11_is 0 = .ok (.iload_n 1, 1) := by decide +kernel
theorem dX11_is_1 : decode cX11_is 1 = .ok (.tableswitch 75 0 3 #[31, 42, 53, 64], 31) := by decide +kernel
theorem dX11_is_32 : decode cX11_is 32 = .ok (.aload_n 0, 1) := by decide +kernel
theorem dX11_is_33 : decode cX11_is 33 = .ok (.getfield 12, 3) := by decide +kernel
theorem dX11_is_36 : decode cX11_is 36 = .ok (.getfield 139, 3) := by decide +kernel
theorem dX11_is_39 : decode cX11_is 39 = .ok (.getfield 170, 3) := by decide +kernel
theorem dX11_is_42 : decode cX11_is 42 = .ok (.ireturn, 1) := by decide +kernel
theorem dX11_is_43 : decode cX11_is 43 = .ok (.aload_n 0, 1) := by decide +kernel
theorem dX11_is_44 : decode cX11_is 44 = .ok (.getfield 12, 3) := by decide +kernel
theorem dX11_is_47 : decode cX11_is 47 = .ok (.getfield 139, 3) := by decide +kernel
theorem dX11_is_50 : decode cX11_is 50 = .ok (.getfield 213, 3) := by decide +kernel
theorem dX11_is_53 : decode cX11_is 53 = .ok (.ireturn, 1) := by decide +kernel
theorem dX11_is_54 : decode cX11_is 54 = .ok (.aload_n 0, 1) := by decide +kernel
theorem dX11_is_55 : decode cX11_is 55 = .ok (.getfield 12, 3) := by decide +kernel
theorem dX11_is_58 : decode cX11_is 58 = .ok (.getfield 139, 3) := by decide +kernel
theorem dX11_is_61 : decode cX11_is 61 = .ok (.invokevirtual 269, 3) := by decide +kernel
theorem dX11_is_64 : decode cX11_is 64 = .ok (.ireturn, 1) := by decide +kernel
theorem dX11_is_65 : decode cX11_is 65 = .ok (.aload_n 0, 1) := by decide +kernel
theorem dX11_is_66 : decode cX11_is 66 = .ok (.getfield 12, 3) := by decide +kernel
theorem dX11_is_69 : decode cX11_is 69 = .ok (.getfield 139, 3) := by decide +kernel
theorem dX11_is_72 : decode cX11_is 72 = .ok (.getfield 273, 3) := by decide +kernel
theorem dX11_is_75 : decode cX11_is 75 = .ok (.ireturn, 1) := by decide +kernel
theorem dX11_is_76 : decode cX11_is 76 = .ok (.bipush (-2), 2) := by decide +kernel
theorem dX11_is_78 : decode cX11_is 78 = .ok (.ireturn, 1) := by decide +kernel
set_option maxRecDepth 20000 in
theorem ggX11_book_X4_entry : GoodIn wsX11_book wsX4_entry := goodIn_r _ [8, 9, 10, 35, 36, 37, 38, 39, 40, 41, 42, 43, 44, 45, 46] (by decide +kernel) (by decide +kernel)
set_option maxRecDepth 20000 in
theorem gX11_book_X4_entry : GoodIn wsX11_book (wsV RX11 279 RX4 yX4_entry wsX4_entry) := goodIn_app (goodIn_of _ (by decide +kernel)) ggX11_book_X4_entry
theorem dX11_book_0 : decode cX11_book 0 = .ok (.iload_n 1, 1) := by decide +kernel
theorem dX11_book_1 : decode cX11_book 1 = .ok (.iconst (-1), 1) := by decide +kernel
theorem dX11_book_2 : decode cX11_book 2 = .ok (.if_icmp .ne 16, 3) := by decide +kernel
theorem dX11_book_5 : decode cX11_book 5 = .ok (.aload_n 0, 1) := by decide +kernel
theorem dX11_book_6 : decode cX11_book 6 = .ok (.getfield 12, 3) := by decide +kernel
theorem dX11_book_9 : decode cX11_book 9 = .ok (.getfield 139, 3) := by decide +kernel
theorem dX11_book_12 : decode cX11_book 12 = .ok (.getfield 276, 3) := by decide +kernel
theorem dX11_book_15 : decode cX11_book 15 = .ok (.goto 15, 3) := by decide +kernel
theorem dX11_book_18 : decode cX11_book 18 = .ok (.aload_n 0, 1) := by decide +kernel
theorem dX11_book_19 : decode cX11_book 19 = .ok (.getfield 12, 3) := by decide +kernel
theorem dX11_book_22 : decode cX11_book 22 = .ok (.getfield 139, 3) := by decide +kernel
theorem dX11_book_25 : decode cX11_book 25 = .ok (.iload_n 1, 1) := by decide +kernel
theorem dX11_book_26 : decode cX11_book 26 = .ok (.iload_n 2, 1) := by decide +kernel
theorem dX11_book_27 : decode cX11_book 27 = .ok (.invokevirtual 279, 3) := by decide +kernel
theorem dX11_book_30 : decode cX11_book 30 = .ok (.ireturn, 1) := by decide +kernel
set_option maxRecDepth 20000 in
theorem ggX11_foretold_X4_isThere : GoodIn wsX11_foretold wsX4_isThere := goodIn_r _ [13, 14, 190, 191, 192, 193, 194, 195, 196, 197, 198, 199, 200, 201] (by decide +kernel) (by decide +kernel)
set_option maxRecDepth 20000 in
theorem gX11_foretold_X4_isThere : GoodIn wsX11_foretold (wsV RX11 227 RX4 yX4_isThere wsX4_isThere) := goodIn_app (goodIn_of _ (by decide +kernel)) ggX11_foretold_X4_isThere
set_option maxRecDepth 20000 in
theorem ggX11_foretold_X4_copyFrom : GoodIn wsX11_foretold wsX4_copyFrom := goodIn_r _ [18, 19, 20, 21, 22, 23, 24, 25, 26, 27, 28, 29, 30, 14, 31, 32, 33, 190, 191, 192, 193, 194, 195, 196, 197, 198, 199, 200, 201] (by decide +kernel) (by decide +kernel)
set_option maxRecDepth 20000 in
theorem gX11_foretold_X4_copyFrom : GoodIn wsX11_foretold (wsV RX11 282 RX4 yX4_copyFrom wsX4_copyFrom) := goodIn_app (goodIn_of _ (by decide +kernel)) ggX11_foretold_X4_copyFrom
set_option maxRecDepth 20000 in
theorem ggX11_foretold_X2_passDay : GoodIn wsX11_foretold wsX2_passDay := goodIn_r _ [38, 39, 40, 41, 42, 43, 12, 44, 24, 45, 10, 11, 13, 14, 46, 47, 48, 49, 33, 50, 51, 52, 37, 53, 54, 55, 56, 57, 58, 59, 60, 61, 62, 63, 64, 65, 66, 67, 68, 69, 70, 71, 72, 73, 74, 75, 76, 77, 78, 79, 80, 81, 82, 83, 84, 85, 86, 87, 88, 89, 90, 91, 92, 93, 94, 95, 96, 97, 98, 99, 100, 101, 102, 103, 104, 105, 106, 107, 108, 109, 110, 111, 112, 113, 114, 115, 116, 117, 118, 119, 120, 121, 122, 123, 124, 125, 126, 127, 128, 129, 130, 131, 132, 133, 134, 135, 136, 137, 138, 139, 140, 141, 142, 143, 144, 145, 146, 147, 148, 149, 150, 151, 152, 153, 154, 155, 156, 157, 158, 159, 160, 31, 161, 26, 30, 29, 20, 21, 22, 23, 32, 19, 162, 163, 164, 165, 25, 190, 191, 192, 193, 194, 195, 196, 197, 198, 199, 200, 201, 202, 203, 204, 178, 179, 180, 181, 182, 183, 184, 185, 186, 187, 188, 189, 205, 206, 207, 208, 209, 210, 211, 212, 213, 214, 215, 216, 217, 218, 219, 220, 221, 222, 223] (by decide +kernel) (by decide +kernel)
set_option maxRecDepth 20000 in
theorem gX11_foretold_X2_passDay : GoodIn wsX11_foretold (wsV RX11 173 RX2 yX2_passDay wsX2_passDay) := goodIn_app (goodIn_of _ (by decide +kernel)) ggX11_foretold_X2_passDay
theorem dX11_foretold_0 : decode cX11_foretold 0 = .ok (.iload_n 1, 1) := by decide +kernel
theorem dX11_foretold_1 : decode cX11_foretold 1 = .ok (.iconst 1, 1) := by decide +kernel
theorem dX11_foretold_2 : decode cX11_foretold 2 = .ok (.if_icmp .lt 23, 3) := by decide +kernel
theorem dX11_foretold_5 : decode cX11_foretold 5 = .ok (.iload_n 1, 1) := by decide +kernel
theorem dX11_foretold_6 : decode cX11_foretold 6 = .ok (.bipush 60, 2) := by decide +kernel
theorem dX11_foretold_8 : decode cX11_foretold 8 = .ok (.if_icmp .gt 17, 3) := by decide +kernel
theorem dX11_foretold_11 : decode cX11_foretold 11 = .ok (.aload_n 0, 1) := by decide +kernel
theorem dX11_foretold_12 : decode cX11_foretold 12 = .ok (.getfield 12, 3) := by decide +kernel
theorem dX11_foretold_15 : decode cX11_foretold 15 = .ok (.getfield 139, 3) := by decide +kernel
theorem dX11_foretold_18 : decode cX11_foretold 18 = .ok (.iload_n 2, 1) := by decide +kernel
theorem dX11_foretold_19 : decode cX11_foretold 19 = .ok (.invokevirtual 227, 3) := by decide +kernel
theorem dX11_foretold_22 : decode cX11_foretold 22 = .ok (.ifCond .ne 5, 3) := by decide +kernel
theorem dX11_foretold_25 : decode cX11_foretold 25 = .ok (.iconst (-1), 1) := by decide +kernel
theorem dX11_foretold_26 : decode cX11_foretold 26 = .ok (.ireturn, 1) := by decide +kernel
theorem dX11_foretold_27 : decode cX11_foretold 27 = .ok (.aload_n 0, 1) := by decide +kernel
theorem dX11_foretold_28 : decode cX11_foretold 28 = .ok (.getfield 22, 3) := by decide +kernel
theorem dX11_foretold_31 : decode cX11_foretold 31 = .ok (.aload_n 0, 1) := by decide +kernel
theorem dX11_foretold_32 : decode cX11_foretold 32 = .ok (.getfield 12, 3) := by decide +kernel
theorem dX11_foretold_35 : decode cX11_foretold 35 = .ok (.getfield 139, 3) := by decide +kernel
theorem dX11_foretold_38 : decode cX11_foretold 38 = .ok (.invokevirtual 282, 3) := by decide +kernel
theorem dX11_foretold_41 : decode cX11_foretold 41 = .ok (.iconst 0, 1) := by decide +kernel
theorem dX11_foretold_42 : decode cX11_foretold 42 = .ok (.istore 4, 2) := by decide +kernel
theorem dX11_foretold_44 : decode cX11_foretold 44 = .ok (.iload 4, 2) := by decide +kernel
theorem dX11_foretold_46 : decode cX11_foretold 46 = .ok (.iload_n 1, 1) := by decide +kernel
theorem dX11_foretold_47 : decode cX11_foretold 47 = .ok (.if_icmp .ge 34, 3) := by decide +kernel
theorem dX11_foretold_50 : decode cX11_foretold 50 = .ok (.aload_n 0, 1) := by decide +kernel
theorem dX11_foretold_51 : decode cX11_foretold 51 = .ok (.getfield 22, 3) := by decide +kernel
theorem dX11_foretold_54 : decode cX11_foretold 54 = .ok (.getfield 170, 3) := by decide +kernel
theorem dX11_foretold_57 : decode cX11_foretold 57 = .ok (.sipush 9999, 3) := by decide +kernel
theorem dX11_foretold_60 : decode cX11_foretold 60 = .ok (.if_icmp .ge 21, 3) := by decide +kernel
theorem dX11_foretold_63 : decode cX11_foretold 63 = .ok (.aload_n 0, 1) := by decide +kernel
theorem dX11_foretold_64 : decode cX11_foretold 64 = .ok (.getfield 60, 3) := by decide +kernel
theorem dX11_foretold_67 : decode cX11_foretold 67 = .ok (.aload_n 0, 1) := by decide +kernel
theorem dX11_foretold_68 : decode cX11_foretold 68 = .ok (.getfield 22, 3) := by decide +kernel
theorem dX11_foretold_71 : decode cX11_foretold 71 = .ok (.invokevirtual 173, 3) := by decide +kernel
theorem dX11_foretold_74 : decode cX11_foretold 74 = .ok (.pop, 1) := by decide +kernel
theorem dX11_foretold_75 : decode cX11_foretold 75 = .ok (.iinc 4 1, 3) := by decide +kernel
theorem dX11_foretold_78 : decode cX11_foretold 78 = .ok (.goto (-34), 3) := by decide +kernel
theorem dX11_foretold_81 : decode cX11_foretold 81 = .ok (.iload_n 3, 1) := by decide +kernel
theorem dX11_foretold_82 : decode cX11_foretold 82 = .ok (.tableswitch 56 0 2 #[26, 36, 46], 26) := by decide +kernel
theorem dX11_foretold_108 : decode cX11_foretold 108 = .ok (.aload_n 0, 1) := by decide +kernel
theorem dX11_foretold_109 : decode cX11_foretold 109 = .ok (.getfield 22, 3) := by decide +kernel
theorem dX11_foretold_112 : decode cX11_foretold 112 = .ok (.getfield 230, 3) := by decide +kernel
theorem dX11_foretold_115 : decode cX11_foretold 115 = .ok (.iload_n 2, 1) := by decide +kernel
theorem dX11_foretold_116 : decode cX11_foretold 116 = .ok (.iaload, 1) := by decide +kernel
theorem dX11_foretold_117 : decode cX11_foretold 117 = .ok (.ireturn, 1) := by decide +kernel
theorem dX11_foretold_118 : decode cX11_foretold 118 = .ok (.aload_n 0, 1) := by decide +kernel
theorem dX11_foretold_119 : decode cX11_foretold 119 = .ok (.getfield 22, 3) := by decide +kernel
theorem dX11_foretold_122 : decode cX11_foretold 122 = .ok (.getfield 233, 3) := by decide +kernel
theorem dX11_foretold_125 : decode cX11_foretold 125 = .ok (.iload_n 2, 1) := by decide +kernel
theorem dX11_foretold_126 : decode cX11_foretold 126 = .ok (.iaload, 1) := by decide +kernel
theorem dX11_foretold_127 : decode cX11_foretold 127 = .ok (.ireturn, 1) := by decide +kernel
theorem dX11_foretold_128 : decode cX11_foretold 128 = .ok (.aload_n 0, 1) := by decide +kernel
theorem dX11_foretold_129 : decode cX11_foretold 129 = .ok (.getfield 22, 3) := by decide +kernel
theorem dX11_foretold_132 : decode cX11_foretold 132 = .ok (.getfield 236, 3) := by decide +kernel
theorem dX11_foretold_135 : decode cX11_foretold 135 = .ok (.iload_n 2, 1) := by decide +kernel
theorem dX11_foretold_136 : decode cX11_foretold 136 = .ok (.iaload, 1) := by decide +kernel
theorem dX11_foretold_137 : decode cX11_foretold 137 = .ok (.ireturn, 1) := by decide +kernel
theorem dX11_foretold_138 : decode cX11_foretold 138 = .ok (.iconst (-1), 1) := by decide +kernel
theorem dX11_foretold_139 : decode cX11_foretold 139 = .ok (.ireturn, 1) := by decide +kernel
set_option maxRecDepth 20000 in
theorem ggX11_bottom_X4_doesWait : GoodIn wsX11_bottom wsX4_doesWait := goodIn_r _ [10, 11, 12, 13, 14, 9, 15, 16, 177, 178, 179, 180, 181, 182, 183, 184, 185, 186, 187, 188] (by decide +kernel) (by decide +kernel)
set_option maxRecDepth 20000 in
theorem gX11_bottom_X4_doesWait : GoodIn wsX11_bottom (wsV RX11 142 RX4 yX4_doesWait wsX4_doesWait) := goodIn_app (goodIn_of _ (by decide +kernel)) ggX11_bottom_X4_doesWait
set_option maxRecDepth 20000 in
theorem ggX11_bottom_X4_copyFrom : GoodIn wsX11_bottom wsX4_copyFrom := goodIn_r _ [20, 21, 22, 23, 24, 25, 11, 26, 27, 28, 29, 30, 31, 16, 32, 33, 34, 177, 178, 179, 180, 181, 182, 183, 184, 185, 186, 187, 188] (by decide +kernel) (by decide +kernel)
set_option maxRecDepth 20000 in
theorem gX11_bottom_X4_copyFrom : GoodIn wsX11_bottom (wsV RX11 282 RX4 yX4_copyFrom wsX4_copyFrom) := goodIn_app (goodIn_of _ (by decide +kernel)) ggX11_bottom_X4_copyFrom
set_option maxRecDepth 20000 in
theorem ggX11_bottom_X2_lead : GoodIn wsX11_bottom wsX2_lead := goodIn_r _ [39, 40, 41, 42, 43, 44, 45, 46, 47, 48, 49, 50, 7, 8, 9, 10, 11, 12, 13, 14, 15, 16, 51, 52, 53, 38, 54, 55, 56, 57, 58, 59, 60, 61, 62, 63, 64, 65, 66, 67, 68, 69, 70, 71, 72, 73, 74, 75, 76, 77, 78, 79, 80, 81, 82, 83, 84, 85, 86, 87, 88, 89, 90, 91, 92, 93, 94, 95, 96, 97, 98, 99, 100, 101, 102, 103, 104, 105, 106, 107, 108, 109, 110, 111, 112, 113, 114, 115, 116, 117, 118, 119, 120, 121, 122, 123, 124, 125, 126, 127, 128, 129, 130, 131, 132, 133, 134, 135, 136, 137, 138, 139, 140, 141, 142, 143, 144, 145, 146, 147, 32, 148, 27, 31, 30, 22, 23, 24, 25, 33, 21, 149, 150, 151, 152, 26, 189, 190, 191, 177, 178, 179, 180, 181, 182, 183, 184, 185, 186, 187, 188, 165, 166, 167, 168, 169, 170, 171, 172, 173, 174, 175, 176, 192, 193, 194, 195, 196, 197, 198, 199, 200, 201, 202, 203, 204, 205, 206, 207, 208, 209, 210] (by decide +kernel) (by decide +kernel)
set_option maxRecDepth 20000 in
theorem gX11_bottom_X2_lead : GoodIn wsX11_bottom (wsV RX11 148 RX2 yX2_lead wsX2_lead) := goodIn_app (goodIn_of _ (by decide +kernel)) ggX11_bottom_X2_lead
theorem dX11_bottom_0 : decode cX11_bottom 0 = .ok (.aload_n 0, 1) := by decide +kernel
theorem dX11_bottom_1 : decode cX11_bottom 1 = .ok (.getfield 12, 3) := by decide +kernel
theorem dX11_bottom_4 : decode cX11_bottom 4 = .ok (.getfield 139, 3) := by decide +kernel
theorem dX11_bottom_7 : decode cX11_bottom 7 = .ok (.iload_n 1, 1) := by decide +kernel
theorem dX11_bottom_8 : decode cX11_bottom 8 = .ok (.invokevirtual 142, 3) := by decide +kernel
theorem dX11_bottom_11 : decode cX11_bottom 11 = .ok (.ifCond .ne 5, 3) := by decide +kernel
theorem dX11_bottom_14 : decode cX11_bottom 14 = .ok (.iconst (-1), 1) := by decide +kernel
theorem dX11_bottom_15 : decode cX11_bottom 15 = .ok (.ireturn, 1) := by decide +kernel
theorem dX11_bottom_16 : decode cX11_bottom 16 = .ok (.aload_n 0, 1) := by decide +kernel
theorem dX11_bottom_17 : decode cX11_bottom 17 = .ok (.getfield 22, 3) := by decide +kernel
theorem dX11_bottom_20 : decode cX11_bottom 20 = .ok (.aload_n 0, 1) := by decide +kernel
theorem dX11_bottom_21 : decode cX11_bottom 21 = .ok (.getfield 12, 3) := by decide +kernel
theorem dX11_bottom_24 : decode cX11_bottom 24 = .ok (.getfield 139, 3) := by decide +kernel
theorem dX11_bottom_27 : decode cX11_bottom 27 = .ok (.invokevirtual 282, 3) := by decide +kernel
theorem dX11_bottom_30 : decode cX11_bottom 30 = .ok (.iconst 0, 1) := by decide +kernel
theorem dX11_bottom_31 : decode cX11_bottom 31 = .ok (.istore_n 2, 1) := by decide +kernel
theorem dX11_bottom_32 : decode cX11_bottom 32 = .ok (.iload_n 2, 1) := by decide +kernel
theorem dX11_bottom_33 : decode cX11_bottom 33 = .ok (.bipush 12, 2) := by decide +kernel
theorem dX11_bottom_35 : decode cX11_bottom 35 = .ok (.if_icmp .ge 33, 3) := by decide +kernel
theorem dX11_bottom_38 : decode cX11_bottom 38 = .ok (.aload_n 0, 1) := by decide +kernel
theorem dX11_bottom_39 : decode cX11_bottom 39 = .ok (.getfield 22, 3) := by decide +kernel
theorem dX11_bottom_42 : decode cX11_bottom 42 = .ok (.iload_n 1, 1) := by decide +kernel
theorem dX11_bottom_43 : decode cX11_bottom 43 = .ok (.invokevirtual 142, 3) := by decide +kernel
theorem dX11_bottom_46 : decode cX11_bottom 46 = .ok (.ifCond .eq 22, 3) := by decide +kernel
theorem dX11_bottom_49 : decode cX11_bottom 49 = .ok (.aload_n 0, 1) := by decide +kernel
theorem dX11_bottom_50 : decode cX11_bottom 50 = .ok (.getfield 60, 3) := by decide +kernel
theorem dX11_bottom_53 : decode cX11_bottom 53 = .ok (.aload_n 0, 1) := by decide +kernel
theorem dX11_bottom_54 : decode cX11_bottom 54 = .ok (.getfield 22, 3) := by decide +kernel
theorem dX11_bottom_57 : decode cX11_bottom 57 = .ok (.iload_n 1, 1) := by decide +kernel
theorem dX11_bottom_58 : decode cX11_bottom 58 = .ok (.invokevirtual 148, 3) := by decide +kernel
