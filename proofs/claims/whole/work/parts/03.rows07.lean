theorem dX12_again_17 : decode cX12_again 17 = .ok (.iload_n 2, 1) := by decide +kernel
theorem dX12_again_18 : decode cX12_again 18 = .ok (.invokevirtual 107, 3) := by decide +kernel
theorem dX12_again_21 : decode cX12_again 21 = .ok (.iconst 1, 1) := by decide +kernel
theorem dX12_again_22 : decode cX12_again 22 = .ok (.ireturn, 1) := by decide +kernel
set_option maxRecDepth 20000 in
theorem ggX12_arePassed_X12_keep : GoodIn wsX12_arePassed wsX12_keep := goodIn_r _ [7, 2, 8, 9, 10, 6, 11, 116, 117, 118, 119, 120, 121, 122, 123, 124, 125, 126, 127, 128, 129, 130, 131, 132, 133, 134, 135, 136, 137, 138, 139, 140, 141, 142, 143, 144, 145, 146, 147, 148, 149, 150, 151] (by decide +kernel) (by decide +kernel)
set_option maxRecDepth 20000 in
theorem gX12_arePassed_X12_keep : GoodIn wsX12_arePassed (wsV RX12 356 RX12 yX12_keep wsX12_keep) := goodIn_app (goodIn_of _ (by decide +kernel)) ggX12_arePassed_X12_keep
set_option maxRecDepth 20000 in
theorem ggX12_arePassed_X12_pass : GoodIn wsX12_arePassed wsX12_pass := goodIn_r _ [15, 2, 16, 17, 18, 6, 19, 20, 21, 22, 23, 24, 25, 26, 8, 9, 10, 11, 27, 28, 29, 30, 31, 32, 33, 34, 35, 36, 37, 1, 38, 39, 40, 41, 42, 43, 44, 45, 46, 47, 48, 49, 50, 51, 52, 53, 54, 55, 56, 57, 58, 59, 60, 61, 62, 63, 64, 65, 66, 67, 68, 69, 70, 71, 72, 73, 74, 75, 76, 77, 78, 79, 80, 81, 82, 83, 84, 85, 86, 87, 88, 89, 90, 91, 92, 93, 94, 95, 96, 97, 98, 99, 100, 101, 102, 103, 104, 105, 106, 107, 108, 109, 110, 111, 112, 113, 114, 115, 116, 117, 118, 119, 120, 121, 122, 123, 124, 125, 126, 127, 128, 129, 130, 131, 132, 133, 134, 135, 136, 137, 138, 139, 140, 141, 142, 143, 144, 145, 146, 147, 148, 149, 150, 151] (by decide +kernel) (by decide +kernel)
set_option maxRecDepth 20000 in
theorem gX12_arePassed_X12_pass : GoodIn wsX12_arePassed (wsV RX12 368 RX12 yX12_pass wsX12_pass) := goodIn_app (goodIn_of _ (by decide +kernel)) ggX12_arePassed_X12_pass
theorem dX12_arePassed_0 : decode cX12_arePassed 0 = .ok (.aload_n 0, 1) := by decide +kernel
theorem dX12_arePassed_1 : decode cX12_arePassed 1 = .ok (.iconst 0, 1) := by decide +kernel
theorem dX12_arePassed_2 : decode cX12_arePassed 2 = .ok (.putfield 340, 3) := by decide +kernel
theorem dX12_arePassed_5 : decode cX12_arePassed 5 = .ok (.iconst 0, 1) := by decide +kernel
theorem dX12_arePassed_6 : decode cX12_arePassed 6 = .ok (.istore_n 2, 1) := by decide +kernel
theorem dX12_arePassed_7 : decode cX12_arePassed 7 = .ok (.iload_n 2, 1) := by decide +kernel
theorem dX12_arePassed_8 : decode cX12_arePassed 8 = .ok (.iload_n 1, 1) := by decide +kernel
theorem dX12_arePassed_9 : decode cX12_arePassed 9 = .ok (.if_icmp .ge 31, 3) := by decide +kernel
theorem dX12_arePassed_12 : decode cX12_arePassed 12 = .ok (.aload_n 0, 1) := by decide +kernel
theorem dX12_arePassed_13 : decode cX12_arePassed 13 = .ok (.getfield 7, 3) := by decide +kernel
theorem dX12_arePassed_16 : decode cX12_arePassed 16 = .ok (.iconst 5, 1) := by decide +kernel
theorem dX12_arePassed_17 : decode cX12_arePassed 17 = .ok (.iaload, 1) := by decide +kernel
theorem dX12_arePassed_18 : decode cX12_arePassed 18 = .ok (.sipush 9999, 3) := by decide +kernel
theorem dX12_arePassed_21 : decode cX12_arePassed 21 = .ok (.if_icmp .ne 5, 3) := by decide +kernel
theorem dX12_arePassed_24 : decode cX12_arePassed 24 = .ok (.iconst 0, 1) := by decide +kernel
theorem dX12_arePassed_25 : decode cX12_arePassed 25 = .ok (.ireturn, 1) := by decide +kernel
theorem dX12_arePassed_26 : decode cX12_arePassed 26 = .ok (.aload_n 0, 1) := by decide +kernel
theorem dX12_arePassed_27 : decode cX12_arePassed 27 = .ok (.invokevirtual 356, 3) := by decide +kernel
theorem dX12_arePassed_30 : decode cX12_arePassed 30 = .ok (.aload_n 0, 1) := by decide +kernel
theorem dX12_arePassed_31 : decode cX12_arePassed 31 = .ok (.invokevirtual 368, 3) := by decide +kernel
theorem dX12_arePassed_34 : decode cX12_arePassed 34 = .ok (.iinc 2 1, 3) := by decide +kernel
theorem dX12_arePassed_37 : decode cX12_arePassed 37 = .ok (.goto (-30), 3) := by decide +kernel
theorem dX12_arePassed_40 : decode cX12_arePassed 40 = .ok (.iconst 1, 1) := by decide +kernel
theorem dX12_arePassed_41 : decode cX12_arePassed 41 = .ok (.ireturn, 1) := by decide +kernel
set_option maxRecDepth 20000 in
theorem ggX12_day_X12_isIn : GoodIn wsX12_day wsX12_isIn := goodIn_r _ [6] (by decide +kernel) (by decide +kernel)
set_option maxRecDepth 20000 in
theorem gX12_day_X12_isIn : GoodIn wsX12_day (va_wsS RX12 84 yX12_isIn wsX12_isIn) := goodIn_app (goodIn_of _ (by decide +kernel)) ggX12_day_X12_isIn
set_option maxRecDepth 20000 in
theorem ggX12_day_X12_arePassed : GoodIn wsX12_day wsX12_arePassed := goodIn_r _ [10, 2, 1, 11, 12, 13, 5, 14, 15, 16, 17, 18, 19, 20, 21, 22, 23, 24, 25, 26, 27, 28, 29, 30, 3, 4, 6, 31, 32, 33, 34, 35, 36, 37, 38, 39, 40, 41, 42, 43, 44, 45, 46, 47, 48, 49, 50, 51, 52, 53, 54, 55, 56, 57, 58, 59, 60, 61, 62, 63, 64, 65, 66, 67, 68, 69, 70, 71, 72, 73, 74, 75, 76, 77, 78, 79, 80, 81, 82, 83, 84, 85, 86, 87, 88, 89, 90, 91, 92, 93, 94, 95, 96, 97, 98, 99, 100, 101, 102, 103, 104, 105, 106, 107, 108, 109, 110, 111, 112, 113, 114, 115, 116, 117, 118, 119, 120, 121, 122, 123, 124, 125, 126, 127, 128, 129, 130, 131, 132, 133, 134, 135, 136, 137, 138, 139, 140, 141, 142, 143, 144, 145, 146, 147, 148, 149, 150, 151, 152, 153, 154, 155] (by decide +kernel) (by decide +kernel)
set_option maxRecDepth 20000 in
theorem gX12_day_X12_arePassed : GoodIn wsX12_day (wsV RX12 371 RX12 yX12_arePassed wsX12_arePassed) := goodIn_app (goodIn_of _ (by decide +kernel)) ggX12_day_X12_arePassed
theorem dX12_day_0 : decode cX12_day 0 = .ok (.iload_n 1, 1) := by decide +kernel
theorem dX12_day_1 : decode cX12_day 1 = .ok (.iconst 1, 1) := by decide +kernel
theorem dX12_day_2 : decode cX12_day 2 = .ok (.bipush 60, 2) := by decide +kernel
theorem dX12_day_4 : decode cX12_day 4 = .ok (.invokestatic 84, 3) := by decide +kernel
theorem dX12_day_7 : decode cX12_day 7 = .ok (.ifCond .eq 32, 3) := by decide +kernel
theorem dX12_day_10 : decode cX12_day 10 = .ok (.aload_n 0, 1) := by decide +kernel
theorem dX12_day_11 : decode cX12_day 11 = .ok (.getfield 7, 3) := by decide +kernel
theorem dX12_day_14 : decode cX12_day 14 = .ok (.iconst 5, 1) := by decide +kernel
theorem dX12_day_15 : decode cX12_day 15 = .ok (.iaload, 1) := by decide +kernel
theorem dX12_day_16 : decode cX12_day 16 = .ok (.iload_n 1, 1) := by decide +kernel
theorem dX12_day_17 : decode cX12_day 17 = .ok (.iadd, 1) := by decide +kernel
theorem dX12_day_18 : decode cX12_day 18 = .ok (.sipush 9999, 3) := by decide +kernel
theorem dX12_day_21 : decode cX12_day 21 = .ok (.if_icmp .gt 18, 3) := by decide +kernel
theorem dX12_day_24 : decode cX12_day 24 = .ok (.aload_n 0, 1) := by decide +kernel
theorem dX12_day_25 : decode cX12_day 25 = .ok (.iload_n 1, 1) := by decide +kernel
theorem dX12_day_26 : decode cX12_day 26 = .ok (.invokevirtual 371, 3) := by decide +kernel
theorem dX12_day_29 : decode cX12_day 29 = .ok (.ifCond .eq 10, 3) := by decide +kernel
theorem dX12_day_32 : decode cX12_day 32 = .ok (.aload_n 0, 1) := by decide +kernel
theorem dX12_day_33 : decode cX12_day 33 = .ok (.getfield 340, 3) := by decide +kernel
theorem dX12_day_36 : decode cX12_day 36 = .ok (.goto 4, 3) := by decide +kernel
theorem dX12_day_39 : decode cX12_day 39 = .ok (.iconst (-1), 1) := by decide +kernel
theorem dX12_day_40 : decode cX12_day 40 = .ok (.ireturn, 1) := by decide +kernel
set_option maxRecDepth 20000 in
theorem ggX12_isPlayed_X12_pain : GoodIn wsX12_isPlayed wsX12_pain := goodIn_r _ [6, 7, 8, 9, 5, 10, 11, 12, 13, 163, 164, 165, 166, 167, 168, 169, 170, 171, 172, 173, 174, 175, 176, 177, 178, 179, 180, 181, 182, 183, 184, 185, 186, 187, 188, 189, 190, 191, 192, 193, 194, 195, 196, 197, 198] (by decide +kernel) (by decide +kernel)
set_option maxRecDepth 20000 in
theorem gX12_isPlayed_X12_pain : GoodIn wsX12_isPlayed (wsV RX12 374 RX12 yX12_pain wsX12_pain) := goodIn_app (goodIn_of _ (by decide +kernel)) ggX12_isPlayed_X12_pain
set_option maxRecDepth 20000 in
theorem ggX12_isPlayed_X12_hang : GoodIn wsX12_isPlayed wsX12_hang := goodIn_r _ [17, 7, 8, 9, 5, 10, 11, 12, 13, 18, 19, 20, 163, 164, 165, 166, 167, 168, 169, 170, 171, 172, 173, 174, 175, 176, 177, 178, 179, 180, 181, 182, 183, 184, 185, 186, 187, 188, 189, 190, 191, 192, 193, 194, 195, 196, 197, 198] (by decide +kernel) (by decide +kernel)
set_option maxRecDepth 20000 in
theorem gX12_isPlayed_X12_hang : GoodIn wsX12_isPlayed (wsV RX12 377 RX12 yX12_hang wsX12_hang) := goodIn_app (goodIn_of _ (by decide +kernel)) ggX12_isPlayed_X12_hang
set_option maxRecDepth 20000 in
theorem ggX12_isPlayed_X12_person : GoodIn wsX12_isPlayed wsX12_person := goodIn_r _ [24, 7, 8, 9, 5, 10, 11, 12, 13, 25, 26, 27, 28, 29, 30, 31, 32, 163, 164, 165, 166, 167, 168, 169, 170, 171, 172, 173, 174, 175, 176, 177, 178, 179, 180, 181, 182, 183, 184, 185, 186, 187, 188, 189, 190, 191, 192, 193, 194, 195, 196, 197, 198] (by decide +kernel) (by decide +kernel)
set_option maxRecDepth 20000 in
theorem gX12_isPlayed_X12_person : GoodIn wsX12_isPlayed (wsV RX12 381 RX12 yX12_person wsX12_person) := goodIn_app (goodIn_of _ (by decide +kernel)) ggX12_isPlayed_X12_person
set_option maxRecDepth 20000 in
theorem ggX12_isPlayed_X12_ask : GoodIn wsX12_isPlayed wsX12_ask := goodIn_r _ [36, 37, 38, 39, 5, 40, 41, 42, 43, 44, 7, 11, 12, 13, 45, 46, 47, 48, 49, 50, 51, 52, 53, 54, 55, 56, 57, 58, 59, 60, 61, 18, 19, 20, 62, 63, 64, 65, 66, 67, 68, 69, 70, 71, 72, 73, 74, 75, 76, 77, 78, 79, 80, 81, 82, 83, 1, 84, 85, 86, 87, 88, 89, 90, 91, 92, 93, 94, 95, 96, 97, 98, 99, 100, 101, 102, 103, 104, 105, 106, 107, 108, 109, 110, 111, 112, 113, 114, 25, 26, 27, 28, 115, 116, 117, 118, 119, 120, 121, 122, 123, 124, 125, 126, 127, 163, 164, 165, 166, 167, 168, 169, 170, 171, 172, 173, 174, 175, 176, 177, 178, 179, 180, 181, 182, 183, 184, 185, 186, 187, 188, 189, 190, 191, 192, 193, 194, 195, 196, 197, 198] (by decide +kernel) (by decide +kernel)
set_option maxRecDepth 20000 in
theorem gX12_isPlayed_X12_ask : GoodIn wsX12_isPlayed (wsV RX12 384 RX12 yX12_ask wsX12_ask) := goodIn_app (goodIn_of _ (by decide +kernel)) ggX12_isPlayed_X12_ask
set_option maxRecDepth 20000 in
theorem ggX12_isPlayed_X12_give : GoodIn wsX12_isPlayed wsX12_give := goodIn_r _ [131, 132, 133, 134, 5, 135, 37, 38, 39, 40, 41, 42, 43, 44, 7, 11, 12, 13, 45, 46, 47, 48, 8, 9, 10, 18, 19, 20, 49, 50, 51, 52, 136, 137, 138, 139, 25, 26, 27, 28, 115, 116, 117, 118, 112, 113, 114, 163, 164, 165, 166, 167, 168, 169, 170, 171, 172, 173, 174, 175, 176, 177, 178, 179, 180, 181, 182, 183, 184, 185, 186, 187, 188, 189, 190, 191, 192, 193, 194, 195, 196, 197, 198] (by decide +kernel) (by decide +kernel)
set_option maxRecDepth 20000 in
theorem gX12_isPlayed_X12_give : GoodIn wsX12_isPlayed (wsV RX12 387 RX12 yX12_give wsX12_give) := goodIn_app (goodIn_of _ (by decide +kernel)) ggX12_isPlayed_X12_give
set_option maxRecDepth 20000 in
theorem ggX12_isPlayed_X12_again : GoodIn wsX12_isPlayed wsX12_again := goodIn_r _ [143, 144, 145, 146, 5, 147, 41, 42, 43, 44, 7, 11, 12, 13, 37, 38, 39, 40, 45, 46, 47, 48, 8, 9, 10, 49, 50, 51, 52, 29, 30, 31, 32, 25, 26, 27, 28, 163, 164, 165, 166, 167, 168, 169, 170, 171, 172, 173, 174, 175, 176, 177, 178, 179, 180, 181, 182, 183, 184, 185, 186, 187, 188, 189, 190, 191, 192, 193, 194, 195, 196, 197, 198] (by decide +kernel) (by decide +kernel)
set_option maxRecDepth 20000 in
theorem gX12_isPlayed_X12_again : GoodIn wsX12_isPlayed (wsV RX12 390 RX12 yX12_again wsX12_again) := goodIn_app (goodIn_of _ (by decide +kernel)) ggX12_isPlayed_X12_again
set_option maxRecDepth 20000 in
theorem ggX12_isPlayed_X12_arePassed : GoodIn wsX12_isPlayed wsX12_arePassed := goodIn_r _ [151, 57, 7, 49, 50, 51, 5, 52, 45, 46, 47, 48, 152, 153, 154, 155, 37, 38, 39, 40, 41, 42, 43, 44, 11, 12, 13, 156, 157, 158, 159, 160, 161, 162, 53, 54, 55, 56, 58, 59, 60, 61, 18, 19, 20, 62, 63, 64, 65, 66, 67, 68, 69, 70, 71, 72, 73, 74, 75, 76, 77, 78, 79, 80, 81, 82, 83, 1, 84, 85, 86, 87, 88, 89, 90, 91, 92, 93, 94, 95, 96, 97, 98, 99, 100, 101, 102, 103, 104, 105, 106, 107, 108, 109, 110, 111, 112, 113, 114, 25, 26, 27, 28, 115, 116, 117, 118, 119, 120, 121, 122, 123, 124, 125, 126, 127, 163, 164, 165, 166, 167, 168, 169, 170, 171, 172, 173, 174, 175, 176, 177, 178, 179, 180, 181, 182, 183, 184, 185, 186, 187, 188, 189, 190, 191, 192, 193, 194, 195, 196, 197, 198] (by decide +kernel) (by decide +kernel)
set_option maxRecDepth 20000 in
theorem gX12_isPlayed_X12_arePassed : GoodIn wsX12_isPlayed (wsV RX12 371 RX12 yX12_arePassed wsX12_arePassed) := goodIn_app (goodIn_of _ (by decide +kernel)) ggX12_isPlayed_X12_arePassed
theorem dX12_isPlayed_0 : decode cX12_isPlayed 0 = .ok (.aload_n 0, 1) := by decide +kernel
theorem dX12_isPlayed_1 : decode cX12_isPlayed 1 = .ok (.getfield 16, 3) := by decide +kernel
theorem dX12_isPlayed_4 : decode cX12_isPlayed 4 = .ok (.iload_n 1, 1) := by decide +kernel
theorem dX12_isPlayed_5 : decode cX12_isPlayed 5 = .ok (.iconst 1, 1) := by decide +kernel
theorem dX12_isPlayed_6 : decode cX12_isPlayed 6 = .ok (.iadd, 1) := by decide +kernel
theorem dX12_isPlayed_7 : decode cX12_isPlayed 7 = .ok (.iaload, 1) := by decide +kernel
theorem dX12_isPlayed_8 : decode cX12_isPlayed 8 = .ok (.istore_n 2, 1) := by decide +kernel
theorem dX12_isPlayed_9 : decode cX12_isPlayed 9 = .ok (.aload_n 0, 1) := by decide +kernel
theorem dX12_isPlayed_10 : decode cX12_isPlayed 10 = .ok (.getfield 16, 3) := by decide +kernel
theorem dX12_isPlayed_13 : decode cX12_isPlayed 13 = .ok (.iload_n 1, 1) := by decide +kernel
theorem dX12_isPlayed_14 : decode cX12_isPlayed 14 = .ok (.iconst 2, 1) := by decide +kernel
theorem dX12_isPlayed_15 : decode cX12_isPlayed 15 = .ok (.iadd, 1) := by decide +kernel
theorem dX12_isPlayed_16 : decode cX12_isPlayed 16 = .ok (.iaload, 1) := by decide +kernel
theorem dX12_isPlayed_17 : decode cX12_isPlayed 17 = .ok (.istore_n 3, 1) := by decide +kernel
theorem dX12_isPlayed_18 : decode cX12_isPlayed 18 = .ok (.aload_n 0, 1) := by decide +kernel
theorem dX12_isPlayed_19 : decode cX12_isPlayed 19 = .ok (.getfield 16, 3) := by decide +kernel
theorem dX12_isPlayed_22 : decode cX12_isPlayed 22 = .ok (.iload_n 1, 1) := by decide +kernel
theorem dX12_isPlayed_23 : decode cX12_isPlayed 23 = .ok (.iaload, 1) := by decide +kernel
theorem dX12_isPlayed_24 : decode cX12_isPlayed 24 = .ok (.tableswitch 108 2 8 #[44, 51, 59, 74, 88, 95, 102], 44) := by decide +kernel
theorem dX12_isPlayed_68 : decode cX12_isPlayed 68 = .ok (.aload_n 0, 1) := by decide +kernel
theorem dX12_isPlayed_69 : decode cX12_isPlayed 69 = .ok (.iload_n 3, 1) := by decide +kernel
theorem dX12_isPlayed_70 : decode cX12_isPlayed 70 = .ok (.iload_n 2, 1) := by decide +kernel
theorem dX12_isPlayed_71 : decode cX12_isPlayed 71 = .ok (.invokevirtual 374, 3) := by decide +kernel
theorem dX12_isPlayed_74 : decode cX12_isPlayed 74 = .ok (.ireturn, 1) := by decide +kernel
theorem dX12_isPlayed_75 : decode cX12_isPlayed 75 = .ok (.aload_n 0, 1) := by decide +kernel
theorem dX12_isPlayed_76 : decode cX12_isPlayed 76 = .ok (.iload_n 2, 1) := by decide +kernel
theorem dX12_isPlayed_77 : decode cX12_isPlayed 77 = .ok (.iload_n 3, 1) := by decide +kernel
theorem dX12_isPlayed_78 : decode cX12_isPlayed 78 = .ok (.iconst 1, 1) := by decide +kernel
theorem dX12_isPlayed_79 : decode cX12_isPlayed 79 = .ok (.invokevirtual 377, 3) := by decide +kernel
theorem dX12_isPlayed_82 : decode cX12_isPlayed 82 = .ok (.ireturn, 1) := by decide +kernel
theorem dX12_isPlayed_83 : decode cX12_isPlayed 83 = .ok (.aload_n 0, 1) := by decide +kernel
theorem dX12_isPlayed_84 : decode cX12_isPlayed 84 = .ok (.iload_n 2, 1) := by decide +kernel
theorem dX12_isPlayed_85 : decode cX12_isPlayed 85 = .ok (.iload_n 3, 1) := by decide +kernel
theorem dX12_isPlayed_86 : decode cX12_isPlayed 86 = .ok (.invokevirtual 381, 3) := by decide +kernel
theorem dX12_isPlayed_89 : decode cX12_isPlayed 89 = .ok (.ifCond .lt 7, 3) := by decide +kernel
theorem dX12_isPlayed_92 : decode cX12_isPlayed 92 = .ok (.iconst 1, 1) := by decide +kernel
theorem dX12_isPlayed_93 : decode cX12_isPlayed 93 = .ok (.goto 4, 3) := by decide +kernel
theorem dX12_isPlayed_96 : decode cX12_isPlayed 96 = .ok (.iconst 0, 1) := by decide +kernel
theorem dX12_isPlayed_97 : decode cX12_isPlayed 97 = .ok (.ireturn, 1) := by decide +kernel
theorem dX12_isPlayed_98 : decode cX12_isPlayed 98 = .ok (.aload_n 0, 1) := by decide +kernel
theorem dX12_isPlayed_99 : decode cX12_isPlayed 99 = .ok (.iload_n 2, 1) := by decide +kernel
theorem dX12_isPlayed_100 : decode cX12_isPlayed 100 = .ok (.invokevirtual 384, 3) := by decide +kernel
theorem dX12_isPlayed_103 : decode cX12_isPlayed 103 = .ok (.ifCond .lt 7, 3) := by decide +kernel
theorem dX12_isPlayed_106 : decode cX12_isPlayed 106 = .ok (.iconst 1, 1) := by decide +kernel
theorem dX12_isPlayed_107 : decode cX12_isPlayed 107 = .ok (.goto 4, 3) := by decide +kernel
theorem dX12_isPlayed_110 : decode cX12_isPlayed 110 = .ok (.iconst 0, 1) := by decide +kernel
theorem dX12_isPlayed_111 : decode cX12_isPlayed 111 = .ok (.ireturn, 1) := by decide +kernel
theorem dX12_isPlayed_112 : decode cX12_isPlayed 112 = .ok (.aload_n 0, 1) := by decide +kernel
theorem dX12_isPlayed_113 : decode cX12_isPlayed 113 = .ok (.iload_n 3, 1) := by decide +kernel
theorem dX12_isPlayed_114 : decode cX12_isPlayed 114 = .ok (.iload_n 2, 1) := by decide +kernel
theorem dX12_isPlayed_115 : decode cX12_isPlayed 115 = .ok (.invokevirtual 387, 3) := by decide +kernel
theorem dX12_isPlayed_118 : decode cX12_isPlayed 118 = .ok (.ireturn, 1) := by decide +kernel
theorem dX12_isPlayed_119 : decode cX12_isPlayed 119 = .ok (.aload_n 0, 1) := by decide +kernel
theorem dX12_isPlayed_120 : decode cX12_isPlayed 120 = .ok (.iload_n 3, 1) := by decide +kernel
theorem dX12_isPlayed_121 : decode cX12_isPlayed 121 = .ok (.iload_n 2, 1) := by decide +kernel
theorem dX12_isPlayed_122 : decode cX12_isPlayed 122 = .ok (.invokevirtual 390, 3) := by decide +kernel
theorem dX12_isPlayed_125 : decode cX12_isPlayed 125 = .ok (.ireturn, 1) := by decide +kernel
theorem dX12_isPlayed_126 : decode cX12_isPlayed 126 = .ok (.aload_n 0, 1) := by decide +kernel
theorem dX12_isPlayed_127 : decode cX12_isPlayed 127 = .ok (.iload_n 2, 1) := by decide +kernel
theorem dX12_isPlayed_128 : decode cX12_isPlayed 128 = .ok (.invokevirtual 371, 3) := by decide +kernel
theorem dX12_isPlayed_131 : decode cX12_isPlayed 131 = .ok (.ireturn, 1) := by decide +kernel
theorem dX12_isPlayed_132 : decode cX12_isPlayed 132 = .ok (.iconst 1, 1) := by decide +kernel
theorem dX12_isPlayed_133 : decode cX12_isPlayed 133 = .ok (.ireturn, 1) := by decide +kernel
set_option maxRecDepth 20000 in
theorem ggX12_played_X12_isIn : GoodIn wsX12_played wsX12_isIn := goodIn_r _ [6] (by decide +kernel) (by decide +kernel)
set_option maxRecDepth 20000 in
theorem gX12_played_X12_isIn : GoodIn wsX12_played (va_wsS RX12 84 yX12_isIn wsX12_isIn) := goodIn_app (goodIn_of _ (by decide +kernel)) ggX12_played_X12_isIn
set_option maxRecDepth 20000 in
theorem ggX12_played_X12_isPlayed : GoodIn wsX12_played wsX12_isPlayed := goodIn_r _ [10, 2, 11, 12, 13, 5, 14, 1, 15, 16, 17, 3, 4, 6, 18, 19, 20, 21, 22, 23, 24, 25, 26, 27, 28, 29, 30, 31, 32, 33, 34, 35, 36, 37, 38, 39, 40, 41, 42, 43, 44, 45, 46, 47, 48, 49, 50, 51, 52, 53, 54, 55, 56, 57, 58, 59, 60, 61, 62, 63, 64, 65, 66, 67, 68, 69, 70, 71, 72, 73, 74, 75, 76, 77, 78, 79, 80, 81, 82, 83, 84, 85, 86, 87, 88, 89, 90, 91, 92, 93, 94, 95, 96, 97, 98, 99, 100, 101, 102, 103, 104, 105, 106, 107, 108, 109, 110, 111, 112, 113, 114, 115, 116, 117, 118, 119, 120, 121, 122, 123, 124, 125, 126, 127, 128, 129, 130, 131, 132, 133, 134, 135, 136, 137, 138, 139, 140, 141, 142, 143, 144, 145, 146, 147, 148, 149, 150, 151, 152, 153, 154, 155, 156, 157, 158, 159, 160, 161, 162, 163, 164, 165, 166, 167, 168, 169, 170, 171, 172, 173, 174, 175, 176, 177, 178, 179, 180, 181, 182, 183, 184, 185, 186, 187, 188, 189, 190, 191, 192, 193, 194, 195, 196, 197, 198, 199, 200, 201, 202] (by decide +kernel) (by decide +kernel)
set_option maxRecDepth 20000 in
theorem gX12_played_X12_isPlayed : GoodIn wsX12_played (wsV RX12 393 RX12 yX12_isPlayed wsX12_isPlayed) := goodIn_app (goodIn_of _ (by decide +kernel)) ggX12_played_X12_isPlayed
theorem dX12_played_0 : decode cX12_played 0 = .ok (.iload_n 1, 1) := by decide +kernel
theorem dX12_played_1 : decode cX12_played 1 = .ok (.iconst 0, 1) := by decide +kernel
theorem dX12_played_2 : decode cX12_played 2 = .ok (.aload_n 0, 1) := by decide +kernel
theorem dX12_played_3 : decode cX12_played 3 = .ok (.getfield 7, 3) := by decide +kernel
theorem dX12_played_6 : decode cX12_played 6 = .ok (.iconst 1, 1) := by decide +kernel
theorem dX12_played_7 : decode cX12_played 7 = .ok (.iaload, 1) := by decide +kernel
theorem dX12_played_8 : decode cX12_played 8 = .ok (.iconst 1, 1) := by decide +kernel
theorem dX12_played_9 : decode cX12_played 9 = .ok (.isub, 1) := by decide +kernel
theorem dX12_played_10 : decode cX12_played 10 = .ok (.invokestatic 84, 3) := by decide +kernel
theorem dX12_played_13 : decode cX12_played 13 = .ok (.ifCond .ne 6, 3) := by decide +kernel
theorem dX12_played_16 : decode cX12_played 16 = .ok (.bipush (-2), 2) := by decide +kernel
theorem dX12_played_18 : decode cX12_played 18 = .ok (.ireturn, 1) := by decide +kernel
theorem dX12_played_19 : decode cX12_played 19 = .ok (.iconst 0, 1) := by decide +kernel
theorem dX12_played_20 : decode cX12_played 20 = .ok (.istore_n 2, 1) := by decide +kernel
theorem dX12_played_21 : decode cX12_played 21 = .ok (.iload_n 2, 1) := by decide +kernel
theorem dX12_played_22 : decode cX12_played 22 = .ok (.aload_n 0, 1) := by decide +kernel
theorem dX12_played_23 : decode cX12_played 23 = .ok (.getfield 16, 3) := by decide +kernel
theorem dX12_played_26 : decode cX12_played 26 = .ok (.sipush 681, 3) := by decide +kernel
theorem dX12_played_29 : decode cX12_played 29 = .ok (.iload_n 1, 1) := by decide +kernel
theorem dX12_played_30 : decode cX12_played 30 = .ok (.imul, 1) := by decide +kernel
theorem dX12_played_31 : decode cX12_played 31 = .ok (.iaload, 1) := by decide +kernel
theorem dX12_played_32 : decode cX12_played 32 = .ok (.if_icmp .ge 29, 3) := by decide +kernel
theorem dX12_played_35 : decode cX12_played 35 = .ok (.aload_n 0, 1) := by decide +kernel
theorem dX12_played_36 : decode cX12_played 36 = .ok (.sipush 681, 3) := by decide +kernel
theorem dX12_played_39 : decode cX12_played 39 = .ok (.iload_n 1, 1) := by decide +kernel
theorem dX12_played_40 : decode cX12_played 40 = .ok (.imul, 1) := by decide +kernel
theorem dX12_played_41 : decode cX12_played 41 = .ok (.iconst 1, 1) := by decide +kernel
theorem dX12_played_42 : decode cX12_played 42 = .ok (.iadd, 1) := by decide +kernel
theorem dX12_played_43 : decode cX12_played 43 = .ok (.iconst 3, 1) := by decide +kernel
theorem dX12_played_44 : decode cX12_played 44 = .ok (.iload_n 2, 1) := by decide +kernel
theorem dX12_played_45 : decode cX12_played 45 = .ok (.imul, 1) := by decide +kernel
theorem dX12_played_46 : decode cX12_played 46 = .ok (.iadd, 1) := by decide +kernel
theorem dX12_played_47 : decode cX12_played 47 = .ok (.invokevirtual 393, 3) := by decide +kernel
theorem dX12_played_50 : decode cX12_played 50 = .ok (.ifCond .ne 5, 3) := by decide +kernel
theorem dX12_played_53 : decode cX12_played 53 = .ok (.iload_n 2, 1) := by decide +kernel
theorem dX12_played_54 : decode cX12_played 54 = .ok (.ireturn, 1) := by decide +kernel
theorem dX12_played_55 : decode cX12_played 55 = .ok (.iinc 2 1, 3) := by decide +kernel
theorem dX12_played_58 : decode cX12_played 58 = .ok (.goto (-37), 3) := by decide +kernel
theorem dX12_played_61 : decode cX12_played 61 = .ok (.iconst (-1), 1) := by decide +kernel
theorem dX12_played_62 : decode cX12_played 62 = .ok (.ireturn, 1) := by decide +kernel
set_option maxRecDepth 20000 in
theorem ggX12_happens_X12_pass : GoodIn wsX12_happens wsX12_pass := goodIn_r _ [6, 1, 7, 8, 9, 5, 10, 11, 12, 13, 14, 15, 16, 17, 18, 19, 20, 21, 22, 23, 24, 25, 26, 27, 28, 29, 30, 31, 32, 33, 34, 35, 36, 37, 38, 39, 40, 41, 42, 43, 44, 45, 46, 47, 48, 49, 50, 51, 52, 53, 54, 55, 56, 57, 58, 59, 60, 61, 62, 63, 64, 65, 66, 67, 68, 69, 70, 71, 72, 73, 74, 75, 76, 77, 78, 79, 80, 81, 82, 83, 84, 85, 86, 87, 88, 89, 90, 91, 92, 93, 94, 95, 96, 97, 98, 99, 100, 101, 102, 103, 104, 105, 106, 107, 108, 109, 110, 111, 131, 132, 133, 134, 135, 136, 137, 138, 139, 140, 141, 142, 143, 144, 145, 146, 147, 148, 149, 150, 151, 152, 153, 154, 155, 156, 157, 158, 159, 160, 161, 162, 163, 164, 165, 166] (by decide +kernel) (by decide +kernel)
set_option maxRecDepth 20000 in
theorem gX12_happens_X12_pass : GoodIn wsX12_happens (wsV RX12 368 RX12 yX12_pass wsX12_pass) := goodIn_app (goodIn_of _ (by decide +kernel)) ggX12_happens_X12_pass
set_option maxRecDepth 20000 in
theorem ggX12_happens_X12_isWaiting : GoodIn wsX12_happens wsX12_isWaiting := goodIn_r _ [10, 11, 12, 13, 5, 14, 1, 15, 16, 17, 18, 19, 20, 21, 131, 132, 133, 134, 135, 136, 137, 138, 139, 140, 141, 142, 143, 144, 145, 146, 147, 148, 149, 150, 151, 152, 153, 154, 155, 156, 157, 158, 159, 160, 161, 162, 163, 164, 165, 166] (by decide +kernel) (by decide +kernel)
set_option maxRecDepth 20000 in
theorem gX12_happens_X12_isWaiting : GoodIn wsX12_happens (wsV RX12 347 RX12 yX12_isWaiting wsX12_isWaiting) := goodIn_app (goodIn_of _ (by decide +kernel)) ggX12_happens_X12_isWaiting
set_option maxRecDepth 20000 in
theorem ggX12_happens_X12_askNow : GoodIn wsX12_happens wsX12_askNow := goodIn_r _ [32, 1, 33, 34, 35, 36, 5, 37, 18, 19, 20, 21, 38, 39, 40, 41, 42, 43, 44, 45, 46, 47, 48, 49, 50, 51, 52, 53, 54, 55, 56, 57, 58, 59, 60, 61, 62, 63, 64, 65, 66, 67, 68, 69, 70, 71, 72, 73, 74, 75, 76, 77, 78, 79, 80, 81, 82, 83, 84, 85, 86, 87, 88, 89, 90, 91, 92, 93, 94, 95, 96, 97, 98, 99, 100, 101, 102, 103, 104, 105, 106, 107, 108, 109, 110, 111, 131, 132, 133, 134, 135, 136, 137, 138, 139, 140, 141, 142, 143, 144, 145, 146, 147, 148, 149, 150, 151, 152, 153, 154, 155, 156, 157, 158, 159, 160, 161, 162, 163, 164, 165, 166] (by decide +kernel) (by decide +kernel)
set_option maxRecDepth 20000 in
theorem gX12_happens_X12_askNow : GoodIn wsX12_happens (wsV RX12 353 RX12 yX12_askNow wsX12_askNow) := goodIn_app (goodIn_of _ (by decide +kernel)) ggX12_happens_X12_askNow
set_option maxRecDepth 20000 in
theorem ggX12_happens_X12_canGive : GoodIn wsX12_happens wsX12_canGive := goodIn_r _ [115, 7, 8, 9, 5, 10, 11, 12, 13, 14, 1, 15, 16, 17, 18, 19, 20, 21, 116, 117, 118, 38, 39, 40, 131, 132, 133, 134, 135, 136, 137, 138, 139, 140, 141, 142, 143, 144, 145, 146, 147, 148, 149, 150, 151, 152, 153, 154, 155, 156, 157, 158, 159, 160, 161, 162, 163, 164, 165, 166] (by decide +kernel) (by decide +kernel)
set_option maxRecDepth 20000 in
theorem gX12_happens_X12_canGive : GoodIn wsX12_happens (wsV RX12 359 RX12 yX12_canGive wsX12_canGive) := goodIn_app (goodIn_of _ (by decide +kernel)) ggX12_happens_X12_canGive
set_option maxRecDepth 20000 in
theorem ggX12_happens_X12_giveNow : GoodIn wsX12_happens wsX12_giveNow := goodIn_r _ [122, 18, 19, 20, 5, 21, 1, 95, 96, 97, 98, 99, 100, 101, 102, 92, 93, 94, 131, 132, 133, 134, 135, 136, 137, 138, 139, 140, 141, 142, 143, 144, 145, 146, 147, 148, 149, 150, 151, 152, 153, 154, 155, 156, 157, 158, 159, 160, 161, 162, 163, 164, 165, 166] (by decide +kernel) (by decide +kernel)
set_option maxRecDepth 20000 in
theorem gX12_happens_X12_giveNow : GoodIn wsX12_happens (wsV RX12 362 RX12 yX12_giveNow wsX12_giveNow) := goodIn_app (goodIn_of _ (by decide +kernel)) ggX12_happens_X12_giveNow
set_option maxRecDepth 20000 in
theorem ggX12_happens_X12_canCome : GoodIn wsX12_happens wsX12_canCome := goodIn_r _ [126, 11, 12, 13, 5, 14, 1, 15, 16, 17, 7, 8, 9, 10, 18, 19, 20, 21, 116, 117, 118, 131, 132, 133, 134, 135, 136, 137, 138, 139, 140, 141, 142, 143, 144, 145, 146, 147, 148, 149, 150, 151, 152, 153, 154, 155, 156, 157, 158, 159, 160, 161, 162, 163, 164, 165, 166] (by decide +kernel) (by decide +kernel)
set_option maxRecDepth 20000 in
theorem gX12_happens_X12_canCome : GoodIn wsX12_happens (wsV RX12 365 RX12 yX12_canCome wsX12_canCome) := goodIn_app (goodIn_of _ (by decide +kernel)) ggX12_happens_X12_canCome
set_option maxRecDepth 20000 in
theorem ggX12_happens_X12_begin : GoodIn wsX12_happens wsX12_begin := goodIn_r _ [130, 95, 96, 97, 5, 98, 1, 131, 132, 133, 134, 135, 136, 137, 138, 139, 140, 141, 142, 143, 144, 145, 146, 147, 148, 149, 150, 151, 152, 153, 154, 155, 156, 157, 158, 159, 160, 161, 162, 163, 164, 165, 166] (by decide +kernel) (by decide +kernel)
set_option maxRecDepth 20000 in
theorem gX12_happens_X12_begin : GoodIn wsX12_happens (wsV RX12 107 RX12 yX12_begin wsX12_begin) := goodIn_app (goodIn_of _ (by decide +kernel)) ggX12_happens_X12_begin
theorem dX12_happens_0 : decode cX12_happens 0 = .ok (.iload_n 1, 1) := by decide +kernel
theorem dX12_happens_1 : decode cX12_happens 1 = .ok (.bipush 6, 2) := by decide +kernel
theorem dX12_happens_3 : decode cX12_happens 3 = .ok (.irem, 1) := by decide +kernel
theorem dX12_happens_4 : decode cX12_happens 4 = .ok (.iconst 3, 1) := by decide +kernel
theorem dX12_happens_5 : decode cX12_happens 5 = .ok (.if_icmp .le 20, 3) := by decide +kernel
theorem dX12_happens_8 : decode cX12_happens 8 = .ok (.aload_n 0, 1) := by decide +kernel
theorem dX12_happens_9 : decode cX12_happens 9 = .ok (.getfield 7, 3) := by decide +kernel
theorem dX12_happens_12 : decode cX12_happens 12 = .ok (.iconst 5, 1) := by decide +kernel
theorem dX12_happens_13 : decode cX12_happens 13 = .ok (.iaload, 1) := by decide +kernel
theorem dX12_happens_14 : decode cX12_happens 14 = .ok (.sipush 9999, 3) := by decide +kernel
theorem dX12_happens_17 : decode cX12_happens 17 = .ok (.if_icmp .ge 7, 3) := by decide +kernel
theorem dX12_happens_20 : decode cX12_happens 20 = .ok (.aload_n 0, 1) := by decide +kernel
theorem dX12_happens_21 : decode cX12_happens 21 = .ok (.invokevirtual 368, 3) := by decide +kernel
theorem dX12_happens_24 : decode cX12_happens 24 = .ok (.return_, 1) := by decide +kernel
theorem dX12_happens_25 : decode cX12_happens 25 = .ok (.aload_n 0, 1) := by decide +kernel
theorem dX12_happens_26 : decode cX12_happens 26 = .ok (.getfield 7, 3) := by decide +kernel
theorem dX12_happens_29 : decode cX12_happens 29 = .ok (.iconst 0, 1) := by decide +kernel
theorem dX12_happens_30 : decode cX12_happens 30 = .ok (.iaload, 1) := by decide +kernel
theorem dX12_happens_31 : decode cX12_happens 31 = .ok (.ifCond .ne 4, 3) := by decide +kernel
theorem dX12_happens_34 : decode cX12_happens 34 = .ok (.return_, 1) := by decide +kernel
theorem dX12_happens_35 : decode cX12_happens 35 = .ok (.iload_n 1, 1) := by decide +kernel
theorem dX12_happens_36 : decode cX12_happens 36 = .ok (.aload_n 0, 1) := by decide +kernel
theorem dX12_happens_37 : decode cX12_happens 37 = .ok (.getfield 7, 3) := by decide +kernel
theorem dX12_happens_40 : decode cX12_happens 40 = .ok (.iconst 0, 1) := by decide +kernel
theorem dX12_happens_41 : decode cX12_happens 41 = .ok (.iaload, 1) := by decide +kernel
theorem dX12_happens_42 : decode cX12_happens 42 = .ok (.irem, 1) := by decide +kernel
theorem dX12_happens_43 : decode cX12_happens 43 = .ok (.istore_n 2, 1) := by decide +kernel
theorem dX12_happens_44 : decode cX12_happens 44 = .ok (.iload_n 1, 1) := by decide +kernel
theorem dX12_happens_45 : decode cX12_happens 45 = .ok (.bipush 6, 2) := by decide +kernel
theorem dX12_happens_47 : decode cX12_happens 47 = .ok (.idiv, 1) := by decide +kernel
theorem dX12_happens_48 : decode cX12_happens 48 = .ok (.bipush 12, 2) := by decide +kernel
theorem dX12_happens_50 : decode cX12_happens 50 = .ok (.irem, 1) := by decide +kernel
theorem dX12_happens_51 : decode cX12_happens 51 = .ok (.istore_n 3, 1) := by decide +kernel
theorem dX12_happens_52 : decode cX12_happens 52 = .ok (.iload_n 1, 1) := by decide +kernel
theorem dX12_happens_53 : decode cX12_happens 53 = .ok (.bipush 6, 2) := by decide +kernel
theorem dX12_happens_55 : decode cX12_happens 55 = .ok (.irem, 1) := by decide +kernel
theorem dX12_happens_56 : decode cX12_happens 56 = .ok (.iconst 2, 1) := by decide +kernel
theorem dX12_happens_57 : decode cX12_happens 57 = .ok (.if_icmp .ge 19, 3) := by decide +kernel
theorem dX12_happens_60 : decode cX12_happens 60 = .ok (.aload_n 0, 1) := by decide +kernel
theorem dX12_happens_61 : decode cX12_happens 61 = .ok (.iload_n 2, 1) := by decide +kernel
theorem dX12_happens_62 : decode cX12_happens 62 = .ok (.invokevirtual 347, 3) := by decide +kernel
theorem dX12_happens_65 : decode cX12_happens 65 = .ok (.ifCond .eq 52, 3) := by decide +kernel
theorem dX12_happens_68 : decode cX12_happens 68 = .ok (.aload_n 0, 1) := by decide +kernel
theorem dX12_happens_69 : decode cX12_happens 69 = .ok (.iload_n 2, 1) := by decide +kernel
theorem dX12_happens_70 : decode cX12_happens 70 = .ok (.invokevirtual 353, 3) := by decide +kernel
theorem dX12_happens_73 : decode cX12_happens 73 = .ok (.goto 44, 3) := by decide +kernel
theorem dX12_happens_76 : decode cX12_happens 76 = .ok (.iload_n 1, 1) := by decide +kernel
theorem dX12_happens_77 : decode cX12_happens 77 = .ok (.bipush 6, 2) := by decide +kernel
theorem dX12_happens_79 : decode cX12_happens 79 = .ok (.irem, 1) := by decide +kernel
theorem dX12_happens_80 : decode cX12_happens 80 = .ok (.iconst 2, 1) := by decide +kernel
theorem dX12_happens_81 : decode cX12_happens 81 = .ok (.if_icmp .ne 21, 3) := by decide +kernel
theorem dX12_happens_84 : decode cX12_happens 84 = .ok (.aload_n 0, 1) := by decide +kernel
theorem dX12_happens_85 : decode cX12_happens 85 = .ok (.iload_n 2, 1) := by decide +kernel
theorem dX12_happens_86 : decode cX12_happens 86 = .ok (.iload_n 3, 1) := by decide +kernel
theorem dX12_happens_87 : decode cX12_happens 87 = .ok (.invokevirtual 359, 3) := by decide +kernel
theorem dX12_happens_90 : decode cX12_happens 90 = .ok (.ifCond .eq 27, 3) := by decide +kernel
theorem dX12_happens_93 : decode cX12_happens 93 = .ok (.aload_n 0, 1) := by decide +kernel
theorem dX12_happens_94 : decode cX12_happens 94 = .ok (.iload_n 2, 1) := by decide +kernel
theorem dX12_happens_95 : decode cX12_happens 95 = .ok (.iload_n 3, 1) := by decide +kernel
theorem dX12_happens_96 : decode cX12_happens 96 = .ok (.invokevirtual 362, 3) := by decide +kernel
theorem dX12_happens_99 : decode cX12_happens 99 = .ok (.goto 18, 3) := by decide +kernel
theorem dX12_happens_102 : decode cX12_happens 102 = .ok (.aload_n 0, 1) := by decide +kernel
theorem dX12_happens_103 : decode cX12_happens 103 = .ok (.iload_n 2, 1) := by decide +kernel
theorem dX12_happens_104 : decode cX12_happens 104 = .ok (.iload_n 3, 1) := by decide +kernel
theorem dX12_happens_105 : decode cX12_happens 105 = .ok (.invokevirtual 365, 3) := by decide +kernel
theorem dX12_happens_108 : decode cX12_happens 108 = .ok (.ifCond .eq 9, 3) := by decide +kernel
theorem dX12_happens_111 : decode cX12_happens 111 = .ok (.aload_n 0, 1) := by decide +kernel
theorem dX12_happens_112 : decode cX12_happens 112 = .ok (.iload_n 2, 1) := by decide +kernel
theorem dX12_happens_113 : decode cX12_happens 113 = .ok (.iload_n 3, 1) := by decide +kernel
theorem dX12_happens_114 : decode cX12_happens 114 = .ok (.invokevirtual 107, 3) := by decide +kernel
theorem dX12_happens_117 : decode cX12_happens 117 = .ok (.return_, 1) := by decide +kernel
set_option maxRecDepth 20000 in
theorem ggX12_years_X12_isIn : GoodIn wsX12_years wsX12_isIn := goodIn_r _ [5] (by decide +kernel) (by decide +kernel)
set_option maxRecDepth 20000 in
theorem gX12_years_X12_isIn : GoodIn wsX12_years (va_wsS RX12 84 yX12_isIn wsX12_isIn) := goodIn_app (goodIn_of _ (by decide +kernel)) ggX12_years_X12_isIn
set_option maxRecDepth 20000 in
theorem ggX12_years_X12_keep : GoodIn wsX12_years wsX12_keep := goodIn_r _ [9, 1, 10, 11, 12, 4, 13, 139, 140, 141, 142, 143, 144, 145, 146, 147, 148, 149, 150, 151, 152, 153, 154, 155, 156, 157, 158, 159, 160, 161, 162, 163, 164, 165, 166, 167, 168, 169, 170, 171, 172, 173, 174] (by decide +kernel) (by decide +kernel)
set_option maxRecDepth 20000 in
theorem gX12_years_X12_keep : GoodIn wsX12_years (wsV RX12 356 RX12 yX12_keep wsX12_keep) := goodIn_app (goodIn_of _ (by decide +kernel)) ggX12_years_X12_keep
set_option maxRecDepth 20000 in
theorem ggX12_years_X12_anew : GoodIn wsX12_years wsX12_anew := goodIn_r _ [17, 1, 18, 19, 20, 139, 140, 141, 142, 143, 144, 145, 146, 147, 148, 149, 150, 151, 152, 153, 154, 155, 156, 157, 158, 159, 160, 161, 162, 163, 164, 165, 166, 167, 168, 169, 170, 171, 172, 173, 174] (by decide +kernel) (by decide +kernel)
set_option maxRecDepth 20000 in
theorem gX12_years_X12_anew : GoodIn wsX12_years (wsV RX12 350 RX12 yX12_anew wsX12_anew) := goodIn_app (goodIn_of _ (by decide +kernel)) ggX12_years_X12_anew
set_option maxRecDepth 20000 in
theorem ggX12_years_X12_happens : GoodIn wsX12_years wsX12_happens := goodIn_r _ [24, 1, 25, 26, 27, 4, 28, 29, 30, 31, 32, 33, 34, 35, 36, 2, 3, 5, 10, 11, 12, 13, 14, 15, 16, 17, 18, 19, 20, 37, 38, 39, 40, 41, 42, 43, 44, 45, 46, 47, 48, 49, 50, 51, 52, 53, 54, 55, 56, 57, 58, 59, 60, 61, 62, 63, 64, 65, 66, 67, 68, 69, 70, 71, 72, 73, 74, 75, 76, 77, 78, 79, 80, 81, 82, 83, 84, 85, 86, 87, 88, 89, 90, 91, 92, 93, 94, 95, 96, 97, 98, 99, 100, 101, 102, 103, 104, 105, 106, 107, 108, 109, 110, 111, 112, 113, 114, 115, 116, 117, 118, 119, 120, 121, 122, 123, 124, 125, 126, 127, 128, 129, 130, 131, 132, 133, 134, 135, 136, 137, 138, 139, 140, 141, 142, 143, 144, 145, 146, 147, 148, 149, 150, 151, 152, 153, 154, 155, 156, 157, 158, 159, 160, 161, 162, 163, 164, 165, 166, 167, 168, 169, 170, 171, 172, 173, 174] (by decide +kernel) (by decide +kernel)
set_option maxRecDepth 20000 in
theorem gX12_years_X12_happens : GoodIn wsX12_years (wsV RX12 396 RX12 yX12_happens wsX12_happens) := goodIn_app (goodIn_of _ (by decide +kernel)) ggX12_years_X12_happens
theorem dX12_years_0 : decode cX12_years 0 = .ok (.iload_n 1, 1) := by decide +kernel
theorem dX12_years_1 : decode cX12_years 1 = .ok (.iconst 0, 1) := by decide +kernel
theorem dX12_years_2 : decode cX12_years 2 = .ok (.sipush 9999, 3) := by decide +kernel
theorem dX12_years_5 : decode cX12_years 5 = .ok (.invokestatic 84, 3) := by decide +kernel
theorem dX12_years_8 : decode cX12_years 8 = .ok (.ifCond .eq 13, 3) := by decide +kernel
theorem dX12_years_11 : decode cX12_years 11 = .ok (.iload_n 2, 1) := by decide +kernel
theorem dX12_years_12 : decode cX12_years 12 = .ok (.iconst 1, 1) := by decide +kernel
theorem dX12_years_13 : decode cX12_years 13 = .ok (.bipush 40, 2) := by decide +kernel
theorem dX12_years_15 : decode cX12_years 15 = .ok (.invokestatic 84, 3) := by decide +kernel
theorem dX12_years_18 : decode cX12_years 18 = .ok (.ifCond .ne 5, 3) := by decide +kernel
theorem dX12_years_21 : decode cX12_years 21 = .ok (.iconst (-1), 1) := by decide +kernel
theorem dX12_years_22 : decode cX12_years 22 = .ok (.ireturn, 1) := by decide +kernel
theorem dX12_years_23 : decode cX12_years 23 = .ok (.aload_n 0, 1) := by decide +kernel
theorem dX12_years_24 : decode cX12_years 24 = .ok (.invokevirtual 356, 3) := by decide +kernel
theorem dX12_years_27 : decode cX12_years 27 = .ok (.aload_n 0, 1) := by decide +kernel
theorem dX12_years_28 : decode cX12_years 28 = .ok (.getfield 7, 3) := by decide +kernel
theorem dX12_years_31 : decode cX12_years 31 = .ok (.bipush 6, 2) := by decide +kernel
theorem dX12_years_33 : decode cX12_years 33 = .ok (.iload_n 1, 1) := by decide +kernel
theorem dX12_years_34 : decode cX12_years 34 = .ok (.iconst 2, 1) := by decide +kernel
theorem dX12_years_35 : decode cX12_years 35 = .ok (.imul, 1) := by decide +kernel
theorem dX12_years_36 : decode cX12_years 36 = .ok (.sipush 251, 3) := by decide +kernel
theorem dX12_years_39 : decode cX12_years 39 = .ok (.iadd, 1) := by decide +kernel
theorem dX12_years_40 : decode cX12_years 40 = .ok (.iastore, 1) := by decide +kernel
theorem dX12_years_41 : decode cX12_years 41 = .ok (.iconst 0, 1) := by decide +kernel
theorem dX12_years_42 : decode cX12_years 42 = .ok (.istore_n 3, 1) := by decide +kernel
theorem dX12_years_43 : decode cX12_years 43 = .ok (.iload_n 3, 1) := by decide +kernel
theorem dX12_years_44 : decode cX12_years 44 = .ok (.iload_n 2, 1) := by decide +kernel
theorem dX12_years_45 : decode cX12_years 45 = .ok (.if_icmp .ge 28, 3) := by decide +kernel
theorem dX12_years_48 : decode cX12_years 48 = .ok (.aload_n 0, 1) := by decide +kernel
theorem dX12_years_49 : decode cX12_years 49 = .ok (.getfield 7, 3) := by decide +kernel
theorem dX12_years_52 : decode cX12_years 52 = .ok (.bipush 6, 2) := by decide +kernel
theorem dX12_years_54 : decode cX12_years 54 = .ok (.iaload, 1) := by decide +kernel
theorem dX12_years_55 : decode cX12_years 55 = .ok (.istore 4, 2) := by decide +kernel
theorem dX12_years_57 : decode cX12_years 57 = .ok (.aload_n 0, 1) := by decide +kernel
theorem dX12_years_58 : decode cX12_years 58 = .ok (.invokevirtual 350, 3) := by decide +kernel
theorem dX12_years_61 : decode cX12_years 61 = .ok (.aload_n 0, 1) := by decide +kernel
theorem dX12_years_62 : decode cX12_years 62 = .ok (.iload 4, 2) := by decide +kernel
theorem dX12_years_64 : decode cX12_years 64 = .ok (.invokevirtual 396, 3) := by decide +kernel
theorem dX12_years_67 : decode cX12_years 67 = .ok (.iinc 3 1, 3) := by decide +kernel
theorem dX12_years_70 : decode cX12_years 70 = .ok (.goto (-27), 3) := by decide +kernel
theorem dX12_years_73 : decode cX12_years 73 = .ok (.aload_n 0, 1) := by decide +kernel
theorem dX12_years_74 : decode cX12_years 74 = .ok (.getfield 7, 3) := by decide +kernel
theorem dX12_years_77 : decode cX12_years 77 = .ok (.iconst 5, 1) := by decide +kernel
theorem dX12_years_78 : decode cX12_years 78 = .ok (.iaload, 1) := by decide +kernel
theorem dX12_years_79 : decode cX12_years 79 = .ok (.ireturn, 1) := by decide +kernel
set_option maxRecDepth 20000 in
theorem ggX12_of_X12_isPerson : GoodIn wsX12_of wsX12_isPerson := goodIn_r _ [6, 1, 7, 8, 5, 9, 79, 80, 81, 82, 83, 84, 85, 86, 87, 88, 89, 90, 91, 92, 93, 94, 95, 96, 97, 98, 99, 100, 101, 102, 103, 104, 105, 106, 107, 108, 109, 110, 111, 112, 113, 114] (by decide +kernel) (by decide +kernel)
set_option maxRecDepth 20000 in
theorem gX12_of_X12_isPerson : GoodIn wsX12_of (wsV RX12 88 RX12 yX12_isPerson wsX12_isPerson) := goodIn_app (goodIn_of _ (by decide +kernel)) ggX12_of_X12_isPerson
set_option maxRecDepth 20000 in
theorem ggX12_of_X12_get : GoodIn wsX12_of wsX12_get := goodIn_r _ [13, 1, 79, 80, 81, 82, 83, 84, 85, 86, 87, 88, 89, 90, 91, 92, 93, 94, 95, 96, 97, 98, 99, 100, 101, 102, 103, 104, 105, 106, 107, 108, 109, 110, 111, 112, 113, 114] (by decide +kernel) (by decide +kernel)
set_option maxRecDepth 20000 in
theorem gX12_of_X12_get : GoodIn wsX12_of (wsV RX12 92 RX12 yX12_get wsX12_get) := goodIn_app (goodIn_of _ (by decide +kernel)) ggX12_of_X12_get
set_option maxRecDepth 20000 in
theorem ggX12_of_X12_needsOf : GoodIn wsX12_of wsX12_needsOf := goodIn_r _ [17, 18, 19, 20, 21, 5, 22, 1, 23, 24, 25, 26, 27, 28, 29, 30, 31, 10, 11, 12, 13, 32, 33, 34, 35, 36, 37, 38, 39, 40, 41, 42, 43, 44, 45, 46, 47, 48, 49, 50, 51, 52, 53, 54, 55, 56, 57, 58, 59, 60, 61, 62, 63, 64, 65, 66, 67, 68, 69, 70, 79, 80, 81, 82, 83, 84, 85, 86, 87, 88, 89, 90, 91, 92, 93, 94, 95, 96, 97, 98, 99, 100, 101, 102, 103, 104, 105, 106, 107, 108, 109, 110, 111, 112, 113, 114] (by decide +kernel) (by decide +kernel)
set_option maxRecDepth 20000 in
theorem gX12_of_X12_needsOf : GoodIn wsX12_of (wsV RX12 337 RX12 yX12_needsOf wsX12_needsOf) := goodIn_app (goodIn_of _ (by decide +kernel)) ggX12_of_X12_needsOf
set_option maxRecDepth 20000 in
theorem ggX12_of_X12_nextOf : GoodIn wsX12_of wsX12_nextOf := goodIn_r _ [74, 1, 10, 11, 12, 5, 13, 29, 30, 31, 75, 76, 77, 78, 18, 28, 19, 20, 21, 22, 23, 24, 25, 26, 27, 32, 33, 34, 35, 36, 37, 38, 39, 40, 41, 42, 43, 44, 45, 46, 47, 48, 49, 50, 51, 52, 53, 54, 55, 56, 57, 58, 59, 60, 61, 62, 63, 64, 65, 66, 67, 68, 69, 70, 79, 80, 81, 82, 83, 84, 85, 86, 87, 88, 89, 90, 91, 92, 93, 94, 95, 96, 97, 98, 99, 100, 101, 102, 103, 104, 105, 106, 107, 108, 109, 110, 111, 112, 113, 114] (by decide +kernel) (by decide +kernel)
set_option maxRecDepth 20000 in
theorem gX12_of_X12_nextOf : GoodIn wsX12_of (wsV RX12 331 RX12 yX12_nextOf wsX12_nextOf) := goodIn_app (goodIn_of _ (by decide +kernel)) ggX12_of_X12_nextOf
set_option maxRecDepth 20000 in
theorem ggX12_of_X12_isIn : GoodIn wsX12_of wsX12_isIn := goodIn_r _ [9] (by decide +kernel) (by decide +kernel)
set_option maxRecDepth 20000 in
theorem gX12_of_X12_isIn : GoodIn wsX12_of (va_wsS RX12 84 yX12_isIn wsX12_isIn) := goodIn_app (goodIn_of _ (by decide +kernel)) ggX12_of_X12_isIn
theorem dX12_of_0 : decode cX12_of 0 = .ok (.aload_n 0, 1) := by decide +kernel
theorem dX12_of_1 : decode cX12_of 1 = .ok (.iload_n 1, 1) := by decide +kernel
theorem dX12_of_2 : decode cX12_of 2 = .ok (.invokevirtual 88, 3) := by decide +kernel
theorem dX12_of_5 : decode cX12_of 5 = .ok (.ifCond .ne 5, 3) := by decide +kernel
theorem dX12_of_8 : decode cX12_of 8 = .ok (.iconst (-1), 1) := by decide +kernel
theorem dX12_of_9 : decode cX12_of 9 = .ok (.ireturn, 1) := by decide +kernel
theorem dX12_of_10 : decode cX12_of 10 = .ok (.iload_n 2, 1) := by decide +kernel
theorem dX12_of_11 : decode cX12_of 11 = .ok (.tableswitch 72 3 7 #[33, 40, 47, 54, 66], 33) := by decide +kernel
theorem dX12_of_44 : decode cX12_of 44 = .ok (.aload_n 0, 1) := by decide +kernel
theorem dX12_of_45 : decode cX12_of 45 = .ok (.iload_n 1, 1) := by decide +kernel
theorem dX12_of_46 : decode cX12_of 46 = .ok (.iconst 4, 1) := by decide +kernel
theorem dX12_of_47 : decode cX12_of 47 = .ok (.invokevirtual 92, 3) := by decide +kernel
theorem dX12_of_50 : decode cX12_of 50 = .ok (.ireturn, 1) := by decide +kernel
theorem dX12_of_51 : decode cX12_of 51 = .ok (.aload_n 0, 1) := by decide +kernel
theorem dX12_of_52 : decode cX12_of 52 = .ok (.iload_n 1, 1) := by decide +kernel
theorem dX12_of_53 : decode cX12_of 53 = .ok (.iconst 5, 1) := by decide +kernel
theorem dX12_of_54 : decode cX12_of 54 = .ok (.invokevirtual 92, 3) := by decide +kernel
theorem dX12_of_57 : decode cX12_of 57 = .ok (.ireturn, 1) := by decide +kernel
theorem dX12_of_58 : decode cX12_of 58 = .ok (.aload_n 0, 1) := by decide +kernel
theorem dX12_of_59 : decode cX12_of 59 = .ok (.iload_n 1, 1) := by decide +kernel
theorem dX12_of_60 : decode cX12_of 60 = .ok (.iconst 3, 1) := by decide +kernel
theorem dX12_of_61 : decode cX12_of 61 = .ok (.invokevirtual 92, 3) := by decide +kernel
theorem dX12_of_64 : decode cX12_of 64 = .ok (.ireturn, 1) := by decide +kernel
theorem dX12_of_65 : decode cX12_of 65 = .ok (.aload_n 0, 1) := by decide +kernel
theorem dX12_of_66 : decode cX12_of 66 = .ok (.aload_n 0, 1) := by decide +kernel
theorem dX12_of_67 : decode cX12_of 67 = .ok (.getfield 7, 3) := by decide +kernel
theorem dX12_of_70 : decode cX12_of 70 = .ok (.iconst 2, 1) := by decide +kernel
theorem dX12_of_71 : decode cX12_of 71 = .ok (.iaload, 1) := by decide +kernel
theorem dX12_of_72 : decode cX12_of 72 = .ok (.iload_n 1, 1) := by decide +kernel
theorem dX12_of_73 : decode cX12_of 73 = .ok (.invokevirtual 337, 3) := by decide +kernel
theorem dX12_of_76 : decode cX12_of 76 = .ok (.ireturn, 1) := by decide +kernel
theorem dX12_of_77 : decode cX12_of 77 = .ok (.aload_n 0, 1) := by decide +kernel
theorem dX12_of_78 : decode cX12_of 78 = .ok (.iload_n 1, 1) := by decide +kernel
theorem dX12_of_79 : decode cX12_of 79 = .ok (.invokevirtual 331, 3) := by decide +kernel
theorem dX12_of_82 : decode cX12_of 82 = .ok (.ireturn, 1) := by decide +kernel
theorem dX12_of_83 : decode cX12_of 83 = .ok (.iload_n 2, 1) := by decide +kernel
theorem dX12_of_84 : decode cX12_of 84 = .ok (.iconst 0, 1) := by decide +kernel
theorem dX12_of_85 : decode cX12_of 85 = .ok (.iconst 2, 1) := by decide +kernel
theorem dX12_of_86 : decode cX12_of 86 = .ok (.invokestatic 84, 3) := by decide +kernel
theorem dX12_of_89 : decode cX12_of 89 = .ok (.ifCond .eq 12, 3) := by decide +kernel
theorem dX12_of_92 : decode cX12_of 92 = .ok (.aload_n 0, 1) := by decide +kernel
theorem dX12_of_93 : decode cX12_of 93 = .ok (.iload_n 1, 1) := by decide +kernel
theorem dX12_of_94 : decode cX12_of 94 = .ok (.iload_n 2, 1) := by decide +kernel
theorem dX12_of_95 : decode cX12_of 95 = .ok (.invokevirtual 92, 3) := by decide +kernel
theorem dX12_of_98 : decode cX12_of 98 = .ok (.goto 4, 3) := by decide +kernel
theorem dX12_of_101 : decode cX12_of 101 = .ok (.iconst (-1), 1) := by decide +kernel
theorem dX12_of_102 : decode cX12_of 102 = .ok (.ireturn, 1) := by decide +kernel
set_option maxRecDepth 20000 in
theorem ggX12_ofWant_X12_isWant : GoodIn wsX12_ofWant wsX12_isWant := goodIn_r _ [7, 8, 9, 6, 10] (by decide +kernel) (by decide +kernel)
set_option maxRecDepth 20000 in
theorem gX12_ofWant_X12_isWant : GoodIn wsX12_ofWant (va_wsS RX12 100 yX12_isWant wsX12_isWant) := goodIn_app (goodIn_of _ (by decide +kernel)) ggX12_ofWant_X12_isWant
set_option maxRecDepth 20000 in
theorem ggX12_ofWant_X12_layLows : GoodIn wsX12_ofWant wsX12_layLows := goodIn_r _ [14, 2, 1, 3, 15, 16, 6, 17, 18, 19, 20, 21, 22, 23, 24, 25, 26, 27, 28, 29, 30, 31, 32, 33, 34, 35, 36, 37, 38, 39, 40, 41, 42, 43, 44, 45, 46, 47, 48, 49, 50, 51, 52, 53] (by decide +kernel) (by decide +kernel)
set_option maxRecDepth 20000 in
theorem gX12_ofWant_X12_layLows : GoodIn wsX12_ofWant (wsV RX12 313 RX12 yX12_layLows wsX12_layLows) := goodIn_app (goodIn_of _ (by decide +kernel)) ggX12_ofWant_X12_layLows
theorem dX12_ofWant_0 : decode cX12_ofWant 0 = .ok (.iload_n 1, 1) := by decide +kernel
theorem dX12_ofWant_1 : decode cX12_ofWant 1 = .ok (.invokestatic 100, 3) := by decide +kernel
theorem dX12_ofWant_4 : decode cX12_ofWant 4 = .ok (.ifCond .ne 5, 3) := by decide +kernel
theorem dX12_ofWant_7 : decode cX12_ofWant 7 = .ok (.iconst (-1), 1) := by decide +kernel
theorem dX12_ofWant_8 : decode cX12_ofWant 8 = .ok (.ireturn, 1) := by decide +kernel
theorem dX12_ofWant_9 : decode cX12_ofWant 9 = .ok (.aload_n 0, 1) := by decide +kernel
theorem dX12_ofWant_10 : decode cX12_ofWant 10 = .ok (.invokevirtual 313, 3) := by decide +kernel
theorem dX12_ofWant_13 : decode cX12_ofWant 13 = .ok (.iload_n 2, 1) := by decide +kernel
theorem dX12_ofWant_14 : decode cX12_ofWant 14 = .ok (.ifCond .ne 15, 3) := by decide +kernel
theorem dX12_ofWant_17 : decode cX12_ofWant 17 = .ok (.aload_n 0, 1) := by decide +kernel
theorem dX12_ofWant_18 : decode cX12_ofWant 18 = .ok (.getfield 7, 3) := by decide +kernel
theorem dX12_ofWant_21 : decode cX12_ofWant 21 = .ok (.bipush 49, 2) := by decide +kernel
theorem dX12_ofWant_23 : decode cX12_ofWant 23 = .ok (.iload_n 1, 1) := by decide +kernel
theorem dX12_ofWant_24 : decode cX12_ofWant 24 = .ok (.iadd, 1) := by decide +kernel
theorem dX12_ofWant_25 : decode cX12_ofWant 25 = .ok (.iaload, 1) := by decide +kernel
theorem dX12_ofWant_26 : decode cX12_ofWant 26 = .ok (.goto 49, 3) := by decide +kernel
theorem dX12_ofWant_29 : decode cX12_ofWant 29 = .ok (.iload_n 2, 1) := by decide +kernel
theorem dX12_ofWant_30 : decode cX12_ofWant 30 = .ok (.iconst 1, 1) := by decide +kernel
theorem dX12_ofWant_31 : decode cX12_ofWant 31 = .ok (.if_icmp .ne 15, 3) := by decide +kernel
theorem dX12_ofWant_34 : decode cX12_ofWant 34 = .ok (.aload_n 0, 1) := by decide +kernel
theorem dX12_ofWant_35 : decode cX12_ofWant 35 = .ok (.getfield 7, 3) := by decide +kernel
theorem dX12_ofWant_38 : decode cX12_ofWant 38 = .ok (.bipush 61, 2) := by decide +kernel
theorem dX12_ofWant_40 : decode cX12_ofWant 40 = .ok (.iload_n 1, 1) := by decide +kernel
theorem dX12_ofWant_41 : decode cX12_ofWant 41 = .ok (.iadd, 1) := by decide +kernel
theorem dX12_ofWant_42 : decode cX12_ofWant 42 = .ok (.iaload, 1) := by decide +kernel
theorem dX12_ofWant_43 : decode cX12_ofWant 43 = .ok (.goto 32, 3) := by decide +kernel
theorem dX12_ofWant_46 : decode cX12_ofWant 46 = .ok (.iload_n 2, 1) := by decide +kernel
theorem dX12_ofWant_47 : decode cX12_ofWant 47 = .ok (.iconst 2, 1) := by decide +kernel
theorem dX12_ofWant_48 : decode cX12_ofWant 48 = .ok (.if_icmp .ne 12, 3) := by decide +kernel
theorem dX12_ofWant_51 : decode cX12_ofWant 51 = .ok (.aload_n 0, 1) := by decide +kernel
theorem dX12_ofWant_52 : decode cX12_ofWant 52 = .ok (.getfield 19, 3) := by decide +kernel
theorem dX12_ofWant_55 : decode cX12_ofWant 55 = .ok (.iload_n 1, 1) := by decide +kernel
theorem dX12_ofWant_56 : decode cX12_ofWant 56 = .ok (.iaload, 1) := by decide +kernel
theorem dX12_ofWant_57 : decode cX12_ofWant 57 = .ok (.goto 18, 3) := by decide +kernel
theorem dX12_ofWant_60 : decode cX12_ofWant 60 = .ok (.iload_n 2, 1) := by decide +kernel
theorem dX12_ofWant_61 : decode cX12_ofWant 61 = .ok (.iconst 3, 1) := by decide +kernel
theorem dX12_ofWant_62 : decode cX12_ofWant 62 = .ok (.if_icmp .ne 12, 3) := by decide +kernel
theorem dX12_ofWant_65 : decode cX12_ofWant 65 = .ok (.aload_n 0, 1) := by decide +kernel
theorem dX12_ofWant_66 : decode cX12_ofWant 66 = .ok (.getfield 22, 3) := by decide +kernel
theorem dX12_ofWant_69 : decode cX12_ofWant 69 = .ok (.iload_n 1, 1) := by decide +kernel
theorem dX12_ofWant_70 : decode cX12_ofWant 70 = .ok (.iaload, 1) := by decide +kernel
theorem dX12_ofWant_71 : decode cX12_ofWant 71 = .ok (.goto 4, 3) := by decide +kernel
theorem dX12_ofWant_74 : decode cX12_ofWant 74 = .ok (.iconst (-1), 1) := by decide +kernel
theorem dX12_ofWant_75 : decode cX12_ofWant 75 = .ok (.ireturn, 1) := by decide +kernel
set_option maxRecDepth 20000 in
theorem ggX12_tells_X12_isPerson : GoodIn wsX12_tells wsX12_isPerson := goodIn_r _ [5, 6, 7, 8, 4, 9, 74, 75, 76, 77, 78, 79, 80, 81, 82, 83, 84, 85, 86, 87, 88, 89, 90, 91, 92, 93, 94, 95, 96, 97, 98, 99, 100, 101, 102, 103, 104, 105, 106, 107, 108, 109] (by decide +kernel) (by decide +kernel)
set_option maxRecDepth 20000 in
theorem gX12_tells_X12_isPerson : GoodIn wsX12_tells (wsV RX12 88 RX12 yX12_isPerson wsX12_isPerson) := goodIn_app (goodIn_of _ (by decide +kernel)) ggX12_tells_X12_isPerson
set_option maxRecDepth 20000 in
theorem ggX12_tells_X12_isWant : GoodIn wsX12_tells wsX12_isWant := goodIn_r _ [12, 7, 8, 4, 9] (by decide +kernel) (by decide +kernel)
set_option maxRecDepth 20000 in
theorem gX12_tells_X12_isWant : GoodIn wsX12_tells (va_wsS RX12 100 yX12_isWant wsX12_isWant) := goodIn_app (goodIn_of _ (by decide +kernel)) ggX12_tells_X12_isWant
set_option maxRecDepth 20000 in
theorem ggX12_tells_X12_tellsOf : GoodIn wsX12_tells wsX12_tellsOf := goodIn_r _ [16, 17, 6, 18, 19, 20, 21, 4, 22, 23, 24, 25, 26, 27, 28, 29, 30, 31, 32, 33, 34, 35, 36, 37, 38, 39, 40, 41, 42, 43, 44, 45, 46, 47, 48, 49, 50, 51, 52, 53, 54, 55, 56, 57, 58, 59, 60, 61, 62, 63, 64, 65, 66, 67, 68, 69, 70, 71, 72, 73, 74, 75, 76, 77, 78, 79, 80, 81, 82, 83, 84, 85, 86, 87, 88, 89, 90, 91, 92, 93, 94, 95, 96, 97, 98, 99, 100, 101, 102, 103, 104, 105, 106, 107, 108, 109] (by decide +kernel) (by decide +kernel)
set_option maxRecDepth 20000 in
theorem gX12_tells_X12_tellsOf : GoodIn wsX12_tells (wsV RX12 322 RX12 yX12_tellsOf wsX12_tellsOf) := goodIn_app (goodIn_of _ (by decide +kernel)) ggX12_tells_X12_tellsOf
theorem dX12_tells_0 : decode cX12_tells 0 = .ok (.aload_n 0, 1) := by decide +kernel
theorem dX12_tells_1 : decode cX12_tells 1 = .ok (.iload_n 1, 1) := by decide +kernel
theorem dX12_tells_2 : decode cX12_tells 2 = .ok (.invokevirtual 88, 3) := by decide +kernel
theorem dX12_tells_5 : decode cX12_tells 5 = .ok (.ifCond .eq 19, 3) := by decide +kernel
theorem dX12_tells_8 : decode cX12_tells 8 = .ok (.iload_n 2, 1) := by decide +kernel
theorem dX12_tells_9 : decode cX12_tells 9 = .ok (.invokestatic 100, 3) := by decide +kernel
theorem dX12_tells_12 : decode cX12_tells 12 = .ok (.ifCond .eq 12, 3) := by decide +kernel
theorem dX12_tells_15 : decode cX12_tells 15 = .ok (.aload_n 0, 1) := by decide +kernel
theorem dX12_tells_16 : decode cX12_tells 16 = .ok (.iload_n 1, 1) := by decide +kernel
theorem dX12_tells_17 : decode cX12_tells 17 = .ok (.iload_n 2, 1) := by decide +kernel
theorem dX12_tells_18 : decode cX12_tells 18 = .ok (.invokevirtual 322, 3) := by decide +kernel
theorem dX12_tells_21 : decode cX12_tells 21 = .ok (.goto 6, 3) := by decide +kernel
theorem dX12_tells_24 : decode cX12_tells 24 = .ok (.sipush (-1000), 3) := by decide +kernel
theorem dX12_tells_27 : decode cX12_tells 27 = .ok (.ireturn, 1) := by decide +kernel
set_option maxRecDepth 20000 in
theorem ggX12_waiting_X12_isWaiting : GoodIn wsX12_waiting wsX12_isWaiting := goodIn_r _ [6, 7, 8, 9, 5, 10, 1, 11, 12, 13, 14, 15, 16, 17, 18, 19, 20, 21, 22, 23, 24, 25, 26, 27, 28, 29, 30, 31, 32, 33, 34, 35, 36, 37, 38, 39, 40, 41, 42, 43, 44, 45, 46, 47, 48, 49, 50, 51, 52, 53] (by decide +kernel) (by decide +kernel)
set_option maxRecDepth 20000 in
theorem gX12_waiting_X12_isWaiting : GoodIn wsX12_waiting (wsV RX12 347 RX12 yX12_isWaiting wsX12_isWaiting) := goodIn_app (goodIn_of _ (by decide +kernel)) ggX12_waiting_X12_isWaiting
theorem dX12_waiting_0 : decode cX12_waiting 0 = .ok (.iconst 0, 1) := by decide +kernel
theorem dX12_waiting_1 : decode cX12_waiting 1 = .ok (.istore_n 1, 1) := by decide +kernel
theorem dX12_waiting_2 : decode cX12_waiting 2 = .ok (.iconst 0, 1) := by decide +kernel
theorem dX12_waiting_3 : decode cX12_waiting 3 = .ok (.istore_n 2, 1) := by decide +kernel
theorem dX12_waiting_4 : decode cX12_waiting 4 = .ok (.iload_n 2, 1) := by decide +kernel
theorem dX12_waiting_5 : decode cX12_waiting 5 = .ok (.aload_n 0, 1) := by decide +kernel
theorem dX12_waiting_6 : decode cX12_waiting 6 = .ok (.getfield 7, 3) := by decide +kernel
theorem dX12_waiting_9 : decode cX12_waiting 9 = .ok (.iconst 0, 1) := by decide +kernel
theorem dX12_waiting_10 : decode cX12_waiting 10 = .ok (.iaload, 1) := by decide +kernel
theorem dX12_waiting_11 : decode cX12_waiting 11 = .ok (.if_icmp .ge 27, 3) := by decide +kernel
theorem dX12_waiting_14 : decode cX12_waiting 14 = .ok (.iload_n 1, 1) := by decide +kernel
theorem dX12_waiting_15 : decode cX12_waiting 15 = .ok (.aload_n 0, 1) := by decide +kernel
theorem dX12_waiting_16 : decode cX12_waiting 16 = .ok (.iload_n 2, 1) := by decide +kernel
theorem dX12_waiting_17 : decode cX12_waiting 17 = .ok (.invokevirtual 347, 3) := by decide +kernel
theorem dX12_waiting_20 : decode cX12_waiting 20 = .ok (.ifCond .eq 9, 3) := by decide +kernel
theorem dX12_waiting_23 : decode cX12_waiting 23 = .ok (.iconst 1, 1) := by decide +kernel
theorem dX12_waiting_24 : decode cX12_waiting 24 = .ok (.iload_n 2, 1) := by decide +kernel
theorem dX12_waiting_25 : decode cX12_waiting 25 = .ok (.ishl, 1) := by decide +kernel
theorem dX12_waiting_26 : decode cX12_waiting 26 = .ok (.goto 4, 3) := by decide +kernel
theorem dX12_waiting_29 : decode cX12_waiting 29 = .ok (.iconst 0, 1) := by decide +kernel
theorem dX12_waiting_30 : decode cX12_waiting 30 = .ok (.ior, 1) := by decide +kernel
theorem dX12_waiting_31 : decode cX12_waiting 31 = .ok (.istore_n 1, 1) := by decide +kernel
theorem dX12_waiting_32 : decode cX12_waiting 32 = .ok (.iinc 2 1, 3) := by decide +kernel
theorem dX12_waiting_35 : decode cX12_waiting 35 = .ok (.goto (-31), 3) := by decide +kernel
theorem dX12_waiting_38 : decode cX12_waiting 38 = .ok (.iload_n 1, 1) := by decide +kernel
theorem dX12_waiting_39 : decode cX12_waiting 39 = .ok (.ireturn, 1) := by decide +kernel
set_option maxRecDepth 20000 in
theorem ggX12_is_X12_isIn : GoodIn wsX12_is wsX12_isIn := goodIn_r _ [5] (by decide +kernel) (by decide +kernel)
set_option maxRecDepth 20000 in
theorem gX12_is_X12_isIn : GoodIn wsX12_is (va_wsS RX12 84 yX12_isIn wsX12_isIn) := goodIn_app (goodIn_of _ (by decide +kernel)) ggX12_is_X12_isIn
set_option maxRecDepth 20000 in
theorem ggX12_is_X12_waiting : GoodIn wsX12_is wsX12_waiting := goodIn_r _ [9, 1, 10, 11, 12, 4, 13, 14, 15, 16, 17, 2, 3, 5, 18, 19, 20, 21, 22, 23, 24, 25, 26, 27, 28, 29, 30, 31, 32, 33, 34, 35, 36, 37, 38, 39, 40, 41, 42, 43, 44, 45, 46, 47, 48, 49, 50, 51, 52, 53, 54, 55, 56, 57] (by decide +kernel) (by decide +kernel)
set_option maxRecDepth 20000 in
theorem gX12_is_X12_waiting : GoodIn wsX12_is (wsV RX12 399 RX12 yX12_waiting wsX12_waiting) := goodIn_app (goodIn_of _ (by decide +kernel)) ggX12_is_X12_waiting
theorem dX12_is_0 : decode cX12_is 0 = .ok (.iload_n 1, 1) := by decide +kernel
theorem dX12_is_1 : decode cX12_is 1 = .ok (.iconst 0, 1) := by decide +kernel
theorem dX12_is_2 : decode cX12_is 2 = .ok (.iconst 1, 1) := by decide +kernel
theorem dX12_is_3 : decode cX12_is 3 = .ok (.invokestatic 84, 3) := by decide +kernel
theorem dX12_is_6 : decode cX12_is 6 = .ok (.ifCond .eq 14, 3) := by decide +kernel
theorem dX12_is_9 : decode cX12_is 9 = .ok (.aload_n 0, 1) := by decide +kernel
theorem dX12_is_10 : decode cX12_is 10 = .ok (.getfield 7, 3) := by decide +kernel
theorem dX12_is_13 : decode cX12_is 13 = .ok (.iconst 5, 1) := by decide +kernel
theorem dX12_is_14 : decode cX12_is 14 = .ok (.iload_n 1, 1) := by decide +kernel
theorem dX12_is_15 : decode cX12_is 15 = .ok (.iadd, 1) := by decide +kernel
theorem dX12_is_16 : decode cX12_is 16 = .ok (.iaload, 1) := by decide +kernel
theorem dX12_is_17 : decode cX12_is 17 = .ok (.goto 32, 3) := by decide +kernel
theorem dX12_is_20 : decode cX12_is 20 = .ok (.iload_n 1, 1) := by decide +kernel
theorem dX12_is_21 : decode cX12_is 21 = .ok (.iconst 2, 1) := by decide +kernel
theorem dX12_is_22 : decode cX12_is 22 = .ok (.if_icmp .ne 10, 3) := by decide +kernel
theorem dX12_is_25 : decode cX12_is 25 = .ok (.aload_n 0, 1) := by decide +kernel
theorem dX12_is_26 : decode cX12_is 26 = .ok (.invokevirtual 399, 3) := by decide +kernel
theorem dX12_is_29 : decode cX12_is 29 = .ok (.goto 20, 3) := by decide +kernel
theorem dX12_is_32 : decode cX12_is 32 = .ok (.iload_n 1, 1) := by decide +kernel
theorem dX12_is_33 : decode cX12_is 33 = .ok (.iconst 3, 1) := by decide +kernel
theorem dX12_is_34 : decode cX12_is 34 = .ok (.if_icmp .ne 13, 3) := by decide +kernel
theorem dX12_is_37 : decode cX12_is 37 = .ok (.aload_n 0, 1) := by decide +kernel
theorem dX12_is_38 : decode cX12_is 38 = .ok (.getfield 7, 3) := by decide +kernel
theorem dX12_is_41 : decode cX12_is 41 = .ok (.bipush 7, 2) := by decide +kernel
theorem dX12_is_43 : decode cX12_is 43 = .ok (.iaload, 1) := by decide +kernel
theorem dX12_is_44 : decode cX12_is 44 = .ok (.goto 5, 3) := by decide +kernel
theorem dX12_is_47 : decode cX12_is 47 = .ok (.bipush (-2), 2) := by decide +kernel
theorem dX12_is_49 : decode cX12_is 49 = .ok (.ireturn, 1) := by decide +kernel
theorem dX12_entry_0 : decode cX12_entry 0 = .ok (.aload_n 0, 1) := by decide +kernel
theorem dX12_entry_1 : decode cX12_entry 1 = .ok (.getfield 7, 3) := by decide +kernel
theorem dX12_entry_4 : decode cX12_entry 4 = .ok (.sipush 2054, 3) := by decide +kernel
theorem dX12_entry_7 : decode cX12_entry 7 = .ok (.iload_n 1, 1) := by decide +kernel
theorem dX12_entry_8 : decode cX12_entry 8 = .ok (.iadd, 1) := by decide +kernel
theorem dX12_entry_9 : decode cX12_entry 9 = .ok (.iaload, 1) := by decide +kernel
theorem dX12_entry_10 : decode cX12_entry 10 = .ok (.istore_n 3, 1) := by decide +kernel
theorem dX12_entry_11 : decode cX12_entry 11 = .ok (.iload_n 2, 1) := by decide +kernel
theorem dX12_entry_12 : decode cX12_entry 12 = .ok (.ifCond .ne 11, 3) := by decide +kernel
theorem dX12_entry_15 : decode cX12_entry 15 = .ok (.iload_n 3, 1) := by decide +kernel
theorem dX12_entry_16 : decode cX12_entry 16 = .ok (.sipush 256, 3) := by decide +kernel
theorem dX12_entry_19 : decode cX12_entry 19 = .ok (.idiv, 1) := by decide +kernel
theorem dX12_entry_20 : decode cX12_entry 20 = .ok (.goto 35, 3) := by decide +kernel
theorem dX12_entry_23 : decode cX12_entry 23 = .ok (.iload_n 2, 1) := by decide +kernel
theorem dX12_entry_24 : decode cX12_entry 24 = .ok (.iconst 1, 1) := by decide +kernel
theorem dX12_entry_25 : decode cX12_entry 25 = .ok (.if_icmp .ne 13, 3) := by decide +kernel
theorem dX12_entry_28 : decode cX12_entry 28 = .ok (.iload_n 3, 1) := by decide +kernel
theorem dX12_entry_29 : decode cX12_entry 29 = .ok (.bipush 32, 2) := by decide +kernel
theorem dX12_entry_31 : decode cX12_entry 31 = .ok (.idiv, 1) := by decide +kernel
theorem dX12_entry_32 : decode cX12_entry 32 = .ok (.bipush 8, 2) := by decide +kernel
theorem dX12_entry_34 : decode cX12_entry 34 = .ok (.irem, 1) := by decide +kernel
theorem dX12_entry_35 : decode cX12_entry 35 = .ok (.goto 20, 3) := by decide +kernel
theorem dX12_entry_38 : decode cX12_entry 38 = .ok (.iload_n 2, 1) := by decide +kernel
theorem dX12_entry_39 : decode cX12_entry 39 = .ok (.iconst 2, 1) := by decide +kernel
theorem dX12_entry_40 : decode cX12_entry 40 = .ok (.if_icmp .ne 12, 3) := by decide +kernel
theorem dX12_entry_43 : decode cX12_entry 43 = .ok (.iload_n 3, 1) := by decide +kernel
theorem dX12_entry_44 : decode cX12_entry 44 = .ok (.iconst 2, 1) := by decide +kernel
theorem dX12_entry_45 : decode cX12_entry 45 = .ok (.idiv, 1) := by decide +kernel
theorem dX12_entry_46 : decode cX12_entry 46 = .ok (.bipush 16, 2) := by decide +kernel
theorem dX12_entry_48 : decode cX12_entry 48 = .ok (.irem, 1) := by decide +kernel
theorem dX12_entry_49 : decode cX12_entry 49 = .ok (.goto 6, 3) := by decide +kernel
theorem dX12_entry_52 : decode cX12_entry 52 = .ok (.iload_n 3, 1) := by decide +kernel
theorem dX12_entry_53 : decode cX12_entry 53 = .ok (.iconst 2, 1) := by decide +kernel
theorem dX12_entry_54 : decode cX12_entry 54 = .ok (.irem, 1) := by decide +kernel
theorem dX12_entry_55 : decode cX12_entry 55 = .ok (.ireturn, 1) := by decide +kernel
set_option maxRecDepth 20000 in
theorem ggX12_book_X12_isIn : GoodIn wsX12_book wsX12_isIn := goodIn_r _ [5] (by decide +kernel) (by decide +kernel)
set_option maxRecDepth 20000 in
theorem gX12_book_X12_isIn : GoodIn wsX12_book (va_wsS RX12 84 yX12_isIn wsX12_isIn) := goodIn_app (goodIn_of _ (by decide +kernel)) ggX12_book_X12_isIn
set_option maxRecDepth 20000 in
theorem ggX12_book_X12_entry : GoodIn wsX12_book wsX12_entry := goodIn_r _ [9, 1, 10, 11, 12, 13, 14, 15, 16, 17, 18, 19, 20, 21, 22, 23, 24, 25, 26, 27, 28, 29, 30, 31, 32, 33, 34, 35, 36, 37, 38, 39, 40, 41, 42, 43, 44, 45] (by decide +kernel) (by decide +kernel)
set_option maxRecDepth 20000 in
theorem gX12_book_X12_entry : GoodIn wsX12_book (wsV RX12 402 RX12 yX12_entry wsX12_entry) := goodIn_app (goodIn_of _ (by decide +kernel)) ggX12_book_X12_entry
theorem dX12_book_0 : decode cX12_book 0 = .ok (.iload_n 1, 1) := by decide +kernel
theorem dX12_book_1 : decode cX12_book 1 = .ok (.iconst (-1), 1) := by decide +kernel
theorem dX12_book_2 : decode cX12_book 2 = .ok (.if_icmp .ne 11, 3) := by decide +kernel
theorem dX12_book_5 : decode cX12_book 5 = .ok (.aload_n 0, 1) := by decide +kernel
theorem dX12_book_6 : decode cX12_book 6 = .ok (.getfield 7, 3) := by decide +kernel
theorem dX12_book_9 : decode cX12_book 9 = .ok (.bipush 8, 2) := by decide +kernel
theorem dX12_book_11 : decode cX12_book 11 = .ok (.iaload, 1) := by decide +kernel
theorem dX12_book_12 : decode cX12_book 12 = .ok (.ireturn, 1) := by decide +kernel
theorem dX12_book_13 : decode cX12_book 13 = .ok (.iload_n 1, 1) := by decide +kernel
theorem dX12_book_14 : decode cX12_book 14 = .ok (.iconst 0, 1) := by decide +kernel
theorem dX12_book_15 : decode cX12_book 15 = .ok (.aload_n 0, 1) := by decide +kernel
theorem dX12_book_16 : decode cX12_book 16 = .ok (.getfield 7, 3) := by decide +kernel
theorem dX12_book_19 : decode cX12_book 19 = .ok (.bipush 8, 2) := by decide +kernel
theorem dX12_book_21 : decode cX12_book 21 = .ok (.iaload, 1) := by decide +kernel
theorem dX12_book_22 : decode cX12_book 22 = .ok (.iconst 1, 1) := by decide +kernel
theorem dX12_book_23 : decode cX12_book 23 = .ok (.isub, 1) := by decide +kernel
theorem dX12_book_24 : decode cX12_book 24 = .ok (.invokestatic 84, 3) := by decide +kernel
theorem dX12_book_27 : decode cX12_book 27 = .ok (.ifCond .eq 21, 3) := by decide +kernel
theorem dX12_book_30 : decode cX12_book 30 = .ok (.iload_n 2, 1) := by decide +kernel
theorem dX12_book_31 : decode cX12_book 31 = .ok (.iconst 0, 1) := by decide +kernel
theorem dX12_book_32 : decode cX12_book 32 = .ok (.iconst 3, 1) := by decide +kernel
theorem dX12_book_33 : decode cX12_book 33 = .ok (.invokestatic 84, 3) := by decide +kernel
theorem dX12_book_36 : decode cX12_book 36 = .ok (.ifCond .eq 12, 3) := by decide +kernel
theorem dX12_book_39 : decode cX12_book 39 = .ok (.aload_n 0, 1) := by decide +kernel
theorem dX12_book_40 : decode cX12_book 40 = .ok (.iload_n 1, 1) := by decide +kernel
theorem dX12_book_41 : decode cX12_book 41 = .ok (.iload_n 2, 1) := by decide +kernel
theorem dX12_book_42 : decode cX12_book 42 = .ok (.invokevirtual 402, 3) := by decide +kernel
theorem dX12_book_45 : decode cX12_book 45 = .ok (.goto 5, 3) := by decide +kernel
theorem dX12_book_48 : decode cX12_book 48 = .ok (.bipush (-2), 2) := by decide +kernel
theorem dX12_book_50 : decode cX12_book 50 = .ok (.ireturn, 1) := by decide +kernel
set_option maxRecDepth 20000 in
theorem ggX12_ledger_X12_entry : GoodIn wsX12_ledger wsX12_entry := goodIn_r _ [6, 1, 7, 8, 9, 10, 11, 12, 13, 14, 15, 16, 17, 18, 19, 20, 21, 22, 23, 24, 25, 26, 27, 28, 29, 30, 31, 32, 33, 34, 35, 36, 37, 38, 39, 40, 41, 42] (by decide +kernel) (by decide +kernel)
set_option maxRecDepth 20000 in
theorem gX12_ledger_X12_entry : GoodIn wsX12_ledger (wsV RX12 402 RX12 yX12_entry wsX12_entry) := goodIn_app (goodIn_of _ (by decide +kernel)) ggX12_ledger_X12_entry
theorem dX12_ledger_0 : decode cX12_ledger 0 = .ok (.iconst 0, 1) := by decide +kernel
theorem dX12_ledger_1 : decode cX12_ledger 1 = .ok (.istore_n 2, 1) := by decide +kernel
theorem dX12_ledger_2 : decode cX12_ledger 2 = .ok (.iconst 0, 1) := by decide +kernel
theorem dX12_ledger_3 : decode cX12_ledger 3 = .ok (.istore_n 3, 1) := by decide +kernel
theorem dX12_ledger_4 : decode cX12_ledger 4 = .ok (.iload_n 3, 1) := by decide +kernel
theorem dX12_ledger_5 : decode cX12_ledger 5 = .ok (.aload_n 0, 1) := by decide +kernel
theorem dX12_ledger_6 : decode cX12_ledger 6 = .ok (.getfield 7, 3) := by decide +kernel
theorem dX12_ledger_9 : decode cX12_ledger 9 = .ok (.bipush 8, 2) := by decide +kernel
theorem dX12_ledger_11 : decode cX12_ledger 11 = .ok (.iaload, 1) := by decide +kernel
theorem dX12_ledger_12 : decode cX12_ledger 12 = .ok (.if_icmp .ge 36, 3) := by decide +kernel
theorem dX12_ledger_15 : decode cX12_ledger 15 = .ok (.iload_n 2, 1) := by decide +kernel
theorem dX12_ledger_16 : decode cX12_ledger 16 = .ok (.aload_n 0, 1) := by decide +kernel
theorem dX12_ledger_17 : decode cX12_ledger 17 = .ok (.iload_n 3, 1) := by decide +kernel
theorem dX12_ledger_18 : decode cX12_ledger 18 = .ok (.iconst 3, 1) := by decide +kernel
theorem dX12_ledger_19 : decode cX12_ledger 19 = .ok (.invokevirtual 402, 3) := by decide +kernel
theorem dX12_ledger_22 : decode cX12_ledger 22 = .ok (.iconst 1, 1) := by decide +kernel
theorem dX12_ledger_23 : decode cX12_ledger 23 = .ok (.if_icmp .ne 7, 3) := by decide +kernel
theorem dX12_ledger_26 : decode cX12_ledger 26 = .ok (.iconst 1, 1) := by decide +kernel
theorem dX12_ledger_27 : decode cX12_ledger 27 = .ok (.goto 4, 3) := by decide +kernel
theorem dX12_ledger_30 : decode cX12_ledger 30 = .ok (.iconst 0, 1) := by decide +kernel
theorem dX12_ledger_31 : decode cX12_ledger 31 = .ok (.iload_n 1, 1) := by decide +kernel
theorem dX12_ledger_32 : decode cX12_ledger 32 = .ok (.if_icmp .ne 7, 3) := by decide +kernel
theorem dX12_ledger_35 : decode cX12_ledger 35 = .ok (.iconst 1, 1) := by decide +kernel
theorem dX12_ledger_36 : decode cX12_ledger 36 = .ok (.goto 4, 3) := by decide +kernel
theorem dX12_ledger_39 : decode cX12_ledger 39 = .ok (.iconst 0, 1) := by decide +kernel
theorem dX12_ledger_40 : decode cX12_ledger 40 = .ok (.iadd, 1) := by decide +kernel
theorem dX12_ledger_41 : decode cX12_ledger 41 = .ok (.istore_n 2, 1) := by decide +kernel
theorem dX12_ledger_42 : decode cX12_ledger 42 = .ok (.iinc 3 1, 3) := by decide +kernel
theorem dX12_ledger_45 : decode cX12_ledger 45 = .ok (.goto (-41), 3) := by decide +kernel
theorem dX12_ledger_48 : decode cX12_ledger 48 = .ok (.iload_n 2, 1) := by decide +kernel
theorem dX12_ledger_49 : decode cX12_ledger 49 = .ok (.ireturn, 1) := by decide +kernel
set_option maxRecDepth 20000 in
theorem ggX12_saddest_X12_get : GoodIn wsX12_saddest wsX12_get := goodIn_r _ [6, 1, 7, 8, 9, 10, 11, 12, 13, 14, 15, 16, 17, 18, 19, 20, 21, 22, 23, 24, 25, 26, 27, 28, 29, 30, 31, 32, 33, 34, 35, 36, 37, 38, 39, 40, 41, 42] (by decide +kernel) (by decide +kernel)
set_option maxRecDepth 20000 in
theorem gX12_saddest_X12_get : GoodIn wsX12_saddest (wsV RX12 92 RX12 yX12_get wsX12_get) := goodIn_app (goodIn_of _ (by decide +kernel)) ggX12_saddest_X12_get
theorem dX12_saddest_0 : decode cX12_saddest 0 = .ok (.iconst (-1), 1) := by decide +kernel
theorem dX12_saddest_1 : decode cX12_saddest 1 = .ok (.istore_n 1, 1) := by decide +kernel
theorem dX12_saddest_2 : decode cX12_saddest 2 = .ok (.iconst 0, 1) := by decide +kernel
theorem dX12_saddest_3 : decode cX12_saddest 3 = .ok (.istore_n 2, 1) := by decide +kernel
theorem dX12_saddest_4 : decode cX12_saddest 4 = .ok (.iload_n 2, 1) := by decide +kernel
theorem dX12_saddest_5 : decode cX12_saddest 5 = .ok (.aload_n 0, 1) := by decide +kernel
theorem dX12_saddest_6 : decode cX12_saddest 6 = .ok (.getfield 7, 3) := by decide +kernel
theorem dX12_saddest_9 : decode cX12_saddest 9 = .ok (.iconst 0, 1) := by decide +kernel
theorem dX12_saddest_10 : decode cX12_saddest 10 = .ok (.iaload, 1) := by decide +kernel
theorem dX12_saddest_11 : decode cX12_saddest 11 = .ok (.if_icmp .ge 35, 3) := by decide +kernel
theorem dX12_saddest_14 : decode cX12_saddest 14 = .ok (.aload_n 0, 1) := by decide +kernel
theorem dX12_saddest_15 : decode cX12_saddest 15 = .ok (.iload_n 2, 1) := by decide +kernel
theorem dX12_saddest_16 : decode cX12_saddest 16 = .ok (.iconst 2, 1) := by decide +kernel
theorem dX12_saddest_17 : decode cX12_saddest 17 = .ok (.invokevirtual 92, 3) := by decide +kernel
theorem dX12_saddest_20 : decode cX12_saddest 20 = .ok (.iload_n 1, 1) := by decide +kernel
theorem dX12_saddest_21 : decode cX12_saddest 21 = .ok (.iconst (-1), 1) := by decide +kernel
theorem dX12_saddest_22 : decode cX12_saddest 22 = .ok (.if_icmp .ne 7, 3) := by decide +kernel
theorem dX12_saddest_25 : decode cX12_saddest 25 = .ok (.iconst 0, 1) := by decide +kernel
theorem dX12_saddest_26 : decode cX12_saddest 26 = .ok (.goto 9, 3) := by decide +kernel
theorem dX12_saddest_29 : decode cX12_saddest 29 = .ok (.aload_n 0, 1) := by decide +kernel
theorem dX12_saddest_30 : decode cX12_saddest 30 = .ok (.iload_n 1, 1) := by decide +kernel
theorem dX12_saddest_31 : decode cX12_saddest 31 = .ok (.iconst 2, 1) := by decide +kernel
theorem dX12_saddest_32 : decode cX12_saddest 32 = .ok (.invokevirtual 92, 3) := by decide +kernel
theorem dX12_saddest_35 : decode cX12_saddest 35 = .ok (.if_icmp .le 5, 3) := by decide +kernel
theorem dX12_saddest_38 : decode cX12_saddest 38 = .ok (.iload_n 2, 1) := by decide +kernel
theorem dX12_saddest_39 : decode cX12_saddest 39 = .ok (.istore_n 1, 1) := by decide +kernel
theorem dX12_saddest_40 : decode cX12_saddest 40 = .ok (.iinc 2 1, 3) := by decide +kernel
theorem dX12_saddest_43 : decode cX12_saddest 43 = .ok (.goto (-39), 3) := by decide +kernel
theorem dX12_saddest_46 : decode cX12_saddest 46 = .ok (.iload_n 1, 1) := by decide +kernel
theorem dX12_saddest_47 : decode cX12_saddest 47 = .ok (.ireturn, 1) := by decide +kernel
theorem dX12_setAside_0 : decode cX12_setAside 0 = .ok (.iconst 5, 1) := by decide +kernel
theorem dX12_setAside_1 : decode cX12_setAside 1 = .ok (.istore_n 1, 1) := by decide +kernel
theorem dX12_setAside_2 : decode cX12_setAside 2 = .ok (.iload_n 1, 1) := by decide +kernel
theorem dX12_setAside_3 : decode cX12_setAside 3 = .ok (.bipush 49, 2) := by decide +kernel
theorem dX12_setAside_5 : decode cX12_setAside 5 = .ok (.if_icmp .ge 21, 3) := by decide +kernel
theorem dX12_setAside_8 : decode cX12_setAside 8 = .ok (.aload_n 0, 1) := by decide +kernel
theorem dX12_setAside_9 : decode cX12_setAside 9 = .ok (.getfield 53, 3) := by decide +kernel
theorem dX12_setAside_12 : decode cX12_setAside 12 = .ok (.iload_n 1, 1) := by decide +kernel
theorem dX12_setAside_13 : decode cX12_setAside 13 = .ok (.aload_n 0, 1) := by decide +kernel
theorem dX12_setAside_14 : decode cX12_setAside 14 = .ok (.getfield 7, 3) := by decide +kernel
theorem dX12_setAside_17 : decode cX12_setAside 17 = .ok (.iload_n 1, 1) := by decide +kernel
theorem dX12_setAside_18 : decode cX12_setAside 18 = .ok (.iaload, 1) := by decide +kernel
theorem dX12_setAside_19 : decode cX12_setAside 19 = .ok (.iastore, 1) := by decide +kernel
theorem dX12_setAside_20 : decode cX12_setAside 20 = .ok (.iinc 1 1, 3) := by decide +kernel
theorem dX12_setAside_23 : decode cX12_setAside 23 = .ok (.goto (-21), 3) := by decide +kernel
theorem dX12_setAside_26 : decode cX12_setAside 26 = .ok (.aload_n 0, 1) := by decide +kernel
theorem dX12_setAside_27 : decode cX12_setAside 27 = .ok (.iconst 0, 1) := by decide +kernel
theorem dX12_setAside_28 : decode cX12_setAside 28 = .ok (.putfield 49, 3) := by decide +kernel
theorem dX12_setAside_31 : decode cX12_setAside 31 = .ok (.return_, 1) := by decide +kernel
theorem dX12_putBack_0 : decode cX12_putBack 0 = .ok (.iconst 5, 1) := by decide +kernel
theorem dX12_putBack_1 : decode cX12_putBack 1 = .ok (.istore_n 1, 1) := by decide +kernel
theorem dX12_putBack_2 : decode cX12_putBack 2 = .ok (.iload_n 1, 1) := by decide +kernel
theorem dX12_putBack_3 : decode cX12_putBack 3 = .ok (.bipush 49, 2) := by decide +kernel
theorem dX12_putBack_5 : decode cX12_putBack 5 = .ok (.if_icmp .ge 21, 3) := by decide +kernel
theorem dX12_putBack_8 : decode cX12_putBack 8 = .ok (.aload_n 0, 1) := by decide +kernel
theorem dX12_putBack_9 : decode cX12_putBack 9 = .ok (.getfield 7, 3) := by decide +kernel
theorem dX12_putBack_12 : decode cX12_putBack 12 = .ok (.iload_n 1, 1) := by decide +kernel
theorem dX12_putBack_13 : decode cX12_putBack 13 = .ok (.aload_n 0, 1) := by decide +kernel
theorem dX12_putBack_14 : decode cX12_putBack 14 = .ok (.getfield 53, 3) := by decide +kernel
theorem dX12_putBack_17 : decode cX12_putBack 17 = .ok (.iload_n 1, 1) := by decide +kernel
theorem dX12_putBack_18 : decode cX12_putBack 18 = .ok (.iaload, 1) := by decide +kernel
theorem dX12_putBack_19 : decode cX12_putBack 19 = .ok (.iastore, 1) := by decide +kernel
theorem dX12_putBack_20 : decode cX12_putBack 20 = .ok (.iinc 1 1, 3) := by decide +kernel
theorem dX12_putBack_23 : decode cX12_putBack 23 = .ok (.goto (-21), 3) := by decide +kernel
theorem dX12_putBack_26 : decode cX12_putBack 26 = .ok (.aload_n 0, 1) := by decide +kernel
theorem dX12_putBack_27 : decode cX12_putBack 27 = .ok (.iconst 1, 1) := by decide +kernel
theorem dX12_putBack_28 : decode cX12_putBack 28 = .ok (.putfield 49, 3) := by decide +kernel
theorem dX12_putBack_31 : decode cX12_putBack 31 = .ok (.return_, 1) := by decide +kernel
set_option maxRecDepth 20000 in
theorem ggX12_foretold_X12_isIn : GoodIn wsX12_foretold wsX12_isIn := goodIn_r _ [5] (by decide +kernel) (by decide +kernel)
set_option maxRecDepth 20000 in
theorem gX12_foretold_X12_isIn : GoodIn wsX12_foretold (va_wsS RX12 84 yX12_isIn wsX12_isIn) := goodIn_app (goodIn_of _ (by decide +kernel)) ggX12_foretold_X12_isIn
set_option maxRecDepth 20000 in
theorem ggX12_foretold_X12_isPerson : GoodIn wsX12_foretold wsX12_isPerson := goodIn_r _ [9, 1, 2, 3, 4, 5, 121, 122, 123, 124, 125, 126, 127, 128, 129, 130, 131, 132, 133, 134, 135, 136, 137, 138, 139, 140, 141, 142, 143, 144, 145, 146, 147, 148, 149, 150, 151, 152, 153, 154, 155, 156] (by decide +kernel) (by decide +kernel)
set_option maxRecDepth 20000 in
theorem gX12_foretold_X12_isPerson : GoodIn wsX12_foretold (wsV RX12 88 RX12 yX12_isPerson wsX12_isPerson) := goodIn_app (goodIn_of _ (by decide +kernel)) ggX12_foretold_X12_isPerson
set_option maxRecDepth 20000 in
theorem ggX12_foretold_X12_setAside : GoodIn wsX12_foretold wsX12_setAside := goodIn_r _ [13, 14, 1, 15, 121, 122, 123, 124, 125, 126, 127, 128, 129, 130, 131, 132, 133, 134, 135, 136, 137, 138, 139, 140, 141, 142, 143, 144, 145, 146, 147, 148, 149, 150, 151, 152, 153, 154, 155, 156] (by decide +kernel) (by decide +kernel)
set_option maxRecDepth 20000 in
theorem gX12_foretold_X12_setAside : GoodIn wsX12_foretold (wsV RX12 405 RX12 yX12_setAside wsX12_setAside) := goodIn_app (goodIn_of _ (by decide +kernel)) ggX12_foretold_X12_setAside
set_option maxRecDepth 20000 in
theorem ggX12_foretold_X12_pass : GoodIn wsX12_foretold wsX12_pass := goodIn_r _ [19, 1, 20, 21, 22, 4, 23, 6, 7, 8, 9, 2, 3, 5, 24, 25, 26, 27, 28, 29, 30, 31, 32, 33, 34, 35, 36, 37, 38, 39, 40, 41, 42, 43, 44, 45, 46, 47, 48, 49, 50, 51, 52, 53, 54, 55, 56, 57, 58, 59, 60, 61, 62, 63, 64, 65, 66, 67, 68, 69, 70, 71, 72, 73, 74, 75, 76, 77, 78, 79, 80, 81, 82, 83, 84, 85, 86, 87, 88, 89, 90, 91, 92, 93, 94, 95, 96, 97, 98, 99, 100, 101, 102, 103, 104, 105, 106, 107, 108, 109, 110, 111, 112, 113, 114, 115, 116, 15, 121, 122, 123, 124, 125, 126, 127, 128, 129, 130, 131, 132, 133, 134, 135, 136, 137, 138, 139, 140, 141, 142, 143, 144, 145, 146, 147, 148, 149, 150, 151, 152, 153, 154, 155, 156] (by decide +kernel) (by decide +kernel)
set_option maxRecDepth 20000 in
theorem gX12_foretold_X12_pass : GoodIn wsX12_foretold (wsV RX12 368 RX12 yX12_pass wsX12_pass) := goodIn_app (goodIn_of _ (by decide +kernel)) ggX12_foretold_X12_pass
set_option maxRecDepth 20000 in
theorem ggX12_foretold_X12_get : GoodIn wsX12_foretold wsX12_get := goodIn_r _ [27, 1, 121, 122, 123, 124, 125, 126, 127, 128, 129, 130, 131, 132, 133, 134, 135, 136, 137, 138, 139, 140, 141, 142, 143, 144, 145, 146, 147, 148, 149, 150, 151, 152, 153, 154, 155, 156] (by decide +kernel) (by decide +kernel)
set_option maxRecDepth 20000 in
theorem gX12_foretold_X12_get : GoodIn wsX12_foretold (wsV RX12 92 RX12 yX12_get wsX12_get) := goodIn_app (goodIn_of _ (by decide +kernel)) ggX12_foretold_X12_get
set_option maxRecDepth 20000 in
theorem ggX12_foretold_X12_putBack : GoodIn wsX12_foretold wsX12_putBack := goodIn_r _ [120, 1, 14, 15, 121, 122, 123, 124, 125, 126, 127, 128, 129, 130, 131, 132, 133, 134, 135, 136, 137, 138, 139, 140, 141, 142, 143, 144, 145, 146, 147, 148, 149, 150, 151, 152, 153, 154, 155, 156] (by decide +kernel) (by decide +kernel)
set_option maxRecDepth 20000 in
theorem gX12_foretold_X12_putBack : GoodIn wsX12_foretold (wsV RX12 408 RX12 yX12_putBack wsX12_putBack) := goodIn_app (goodIn_of _ (by decide +kernel)) ggX12_foretold_X12_putBack
theorem dX12_foretold_0 : decode cX12_foretold 0 = .ok (.iload_n 1, 1) := by decide +kernel
theorem dX12_foretold_1 : decode cX12_foretold 1 = .ok (.iconst 1, 1) := by decide +kernel
theorem dX12_foretold_2 : decode cX12_foretold 2 = .ok (.bipush 60, 2) := by decide +kernel
theorem dX12_foretold_4 : decode cX12_foretold 4 = .ok (.invokestatic 84, 3) := by decide +kernel
theorem dX12_foretold_7 : decode cX12_foretold 7 = .ok (.ifCond .eq 20, 3) := by decide +kernel
theorem dX12_foretold_10 : decode cX12_foretold 10 = .ok (.aload_n 0, 1) := by decide +kernel
theorem dX12_foretold_11 : decode cX12_foretold 11 = .ok (.iload_n 2, 1) := by decide +kernel
theorem dX12_foretold_12 : decode cX12_foretold 12 = .ok (.invokevirtual 88, 3) := by decide +kernel
theorem dX12_foretold_15 : decode cX12_foretold 15 = .ok (.ifCond .eq 12, 3) := by decide +kernel
theorem dX12_foretold_18 : decode cX12_foretold 18 = .ok (.iload_n 3, 1) := by decide +kernel
theorem dX12_foretold_19 : decode cX12_foretold 19 = .ok (.iconst 0, 1) := by decide +kernel
theorem dX12_foretold_20 : decode cX12_foretold 20 = .ok (.iconst 2, 1) := by decide +kernel
theorem dX12_foretold_21 : decode cX12_foretold 21 = .ok (.invokestatic 84, 3) := by decide +kernel
theorem dX12_foretold_24 : decode cX12_foretold 24 = .ok (.ifCond .ne 5, 3) := by decide +kernel
theorem dX12_foretold_27 : decode cX12_foretold 27 = .ok (.iconst (-1), 1) := by decide +kernel
theorem dX12_foretold_28 : decode cX12_foretold 28 = .ok (.ireturn, 1) := by decide +kernel
theorem dX12_foretold_29 : decode cX12_foretold 29 = .ok (.aload_n 0, 1) := by decide +kernel
theorem dX12_foretold_30 : decode cX12_foretold 30 = .ok (.invokevirtual 405, 3) := by decide +kernel
theorem dX12_foretold_33 : decode cX12_foretold 33 = .ok (.iconst 0, 1) := by decide +kernel
theorem dX12_foretold_34 : decode cX12_foretold 34 = .ok (.istore 4, 2) := by decide +kernel
theorem dX12_foretold_36 : decode cX12_foretold 36 = .ok (.iload 4, 2) := by decide +kernel
theorem dX12_foretold_38 : decode cX12_foretold 38 = .ok (.iload_n 1, 1) := by decide +kernel
theorem dX12_foretold_39 : decode cX12_foretold 39 = .ok (.if_icmp .ge 25, 3) := by decide +kernel
theorem dX12_foretold_42 : decode cX12_foretold 42 = .ok (.aload_n 0, 1) := by decide +kernel
theorem dX12_foretold_43 : decode cX12_foretold 43 = .ok (.getfield 7, 3) := by decide +kernel
theorem dX12_foretold_46 : decode cX12_foretold 46 = .ok (.iconst 5, 1) := by decide +kernel
theorem dX12_foretold_47 : decode cX12_foretold 47 = .ok (.iaload, 1) := by decide +kernel
theorem dX12_foretold_48 : decode cX12_foretold 48 = .ok (.sipush 9999, 3) := by decide +kernel
theorem dX12_foretold_51 : decode cX12_foretold 51 = .ok (.if_icmp .ge 7, 3) := by decide +kernel
theorem dX12_foretold_54 : decode cX12_foretold 54 = .ok (.aload_n 0, 1) := by decide +kernel
theorem dX12_foretold_55 : decode cX12_foretold 55 = .ok (.invokevirtual 368, 3) := by decide +kernel
theorem dX12_foretold_58 : decode cX12_foretold 58 = .ok (.iinc 4 1, 3) := by decide +kernel
theorem dX12_foretold_61 : decode cX12_foretold 61 = .ok (.goto (-25), 3) := by decide +kernel
theorem dX12_foretold_64 : decode cX12_foretold 64 = .ok (.aload_n 0, 1) := by decide +kernel
theorem dX12_foretold_65 : decode cX12_foretold 65 = .ok (.iload_n 2, 1) := by decide +kernel
theorem dX12_foretold_66 : decode cX12_foretold 66 = .ok (.iload_n 3, 1) := by decide +kernel
theorem dX12_foretold_67 : decode cX12_foretold 67 = .ok (.invokevirtual 92, 3) := by decide +kernel
theorem dX12_foretold_70 : decode cX12_foretold 70 = .ok (.istore 4, 2) := by decide +kernel
theorem dX12_foretold_72 : decode cX12_foretold 72 = .ok (.aload_n 0, 1) := by decide +kernel
theorem dX12_foretold_73 : decode cX12_foretold 73 = .ok (.invokevirtual 408, 3) := by decide +kernel
theorem dX12_foretold_76 : decode cX12_foretold 76 = .ok (.iload 4, 2) := by decide +kernel
theorem dX12_foretold_78 : decode cX12_foretold 78 = .ok (.ireturn, 1) := by decide +kernel
set_option maxRecDepth 20000 in
theorem ggX12_bottom_X12_isWaiting : GoodIn wsX12_bottom wsX12_isWaiting := goodIn_r _ [5, 6, 7, 8, 4, 9, 10, 11, 12, 13, 14, 15, 16, 17, 110, 111, 112, 113, 114, 115, 116, 117, 118, 119, 120, 121, 122, 123, 124, 125, 126, 127, 128, 129, 130, 131, 132, 133, 134, 135, 136, 137, 138, 139, 140, 141, 142, 143, 144, 145] (by decide +kernel) (by decide +kernel)
set_option maxRecDepth 20000 in
theorem gX12_bottom_X12_isWaiting : GoodIn wsX12_bottom (wsV RX12 347 RX12 yX12_isWaiting wsX12_isWaiting) := goodIn_app (goodIn_of _ (by decide +kernel)) ggX12_bottom_X12_isWaiting
set_option maxRecDepth 20000 in
theorem ggX12_bottom_X12_setAside : GoodIn wsX12_bottom wsX12_setAside := goodIn_r _ [21, 22, 10, 23, 110, 111, 112, 113, 114, 115, 116, 117, 118, 119, 120, 121, 122, 123, 124, 125, 126, 127, 128, 129, 130, 131, 132, 133, 134, 135, 136, 137, 138, 139, 140, 141, 142, 143, 144, 145] (by decide +kernel) (by decide +kernel)
set_option maxRecDepth 20000 in
theorem gX12_bottom_X12_setAside : GoodIn wsX12_bottom (wsV RX12 405 RX12 yX12_setAside wsX12_setAside) := goodIn_app (goodIn_of _ (by decide +kernel)) ggX12_bottom_X12_setAside
set_option maxRecDepth 20000 in
theorem ggX12_bottom_X12_askNow : GoodIn wsX12_bottom wsX12_askNow := goodIn_r _ [27, 10, 28, 29, 30, 31, 4, 32, 14, 15, 16, 17, 33, 34, 35, 36, 37, 38, 39, 40, 41, 42, 43, 44, 45, 46, 47, 48, 49, 50, 51, 52, 53, 54, 55, 56, 57, 58, 59, 60, 61, 62, 63, 64, 65, 66, 67, 68, 69, 70, 71, 72, 73, 74, 75, 76, 77, 78, 79, 80, 81, 82, 83, 84, 85, 86, 87, 88, 89, 90, 91, 92, 93, 94, 95, 96, 97, 98, 99, 100, 101, 102, 103, 104, 105, 23, 110, 111, 112, 113, 114, 115, 116, 117, 118, 119, 120, 121, 122, 123, 124, 125, 126, 127, 128, 129, 130, 131, 132, 133, 134, 135, 136, 137, 138, 139, 140, 141, 142, 143, 144, 145] (by decide +kernel) (by decide +kernel)
set_option maxRecDepth 20000 in
theorem gX12_bottom_X12_askNow : GoodIn wsX12_bottom (wsV RX12 353 RX12 yX12_askNow wsX12_askNow) := goodIn_app (goodIn_of _ (by decide +kernel)) ggX12_bottom_X12_askNow
set_option maxRecDepth 20000 in
theorem ggX12_bottom_X12_get : GoodIn wsX12_bottom wsX12_get := goodIn_r _ [17, 10, 110, 111, 112, 113, 114, 115, 116, 117, 118, 119, 120, 121, 122, 123, 124, 125, 126, 127, 128, 129, 130, 131, 132, 133, 134, 135, 136, 137, 138, 139, 140, 141, 142, 143, 144, 145] (by decide +kernel) (by decide +kernel)
set_option maxRecDepth 20000 in
theorem gX12_bottom_X12_get : GoodIn wsX12_bottom (wsV RX12 92 RX12 yX12_get wsX12_get) := goodIn_app (goodIn_of _ (by decide +kernel)) ggX12_bottom_X12_get
set_option maxRecDepth 20000 in
theorem ggX12_bottom_X12_putBack : GoodIn wsX12_bottom wsX12_putBack := goodIn_r _ [109, 10, 22, 23, 110, 111, 112, 113, 114, 115, 116, 117, 118, 119, 120, 121, 122, 123, 124, 125, 126, 127, 128, 129, 130, 131, 132, 133, 134, 135, 136, 137, 138, 139, 140, 141, 142, 143, 144, 145] (by decide +kernel) (by decide +kernel)
set_option maxRecDepth 20000 in
theorem gX12_bottom_X12_putBack : GoodIn wsX12_bottom (wsV RX12 408 RX12 yX12_putBack wsX12_putBack) := goodIn_app (goodIn_of _ (by decide +kernel)) ggX12_bottom_X12_putBack
theorem dX12_bottom_0 : decode cX12_bottom 0 = .ok (.aload_n 0, 1) := by decide +kernel
theorem dX12_bottom_1 : decode cX12_bottom 1 = .ok (.iload_n 1, 1) := by decide +kernel
theorem dX12_bottom_2 : decode cX12_bottom 2 = .ok (.invokevirtual 347, 3) := by decide +kernel
theorem dX12_bottom_5 : decode cX12_bottom 5 = .ok (.ifCond .ne 5, 3) := by decide +kernel
theorem dX12_bottom_8 : decode cX12_bottom 8 = .ok (.iconst (-1), 1) := by decide +kernel
theorem dX12_bottom_9 : decode cX12_bottom 9 = .ok (.ireturn, 1) := by decide +kernel
theorem dX12_bottom_10 : decode cX12_bottom 10 = .ok (.aload_n 0, 1) := by decide +kernel
theorem dX12_bottom_11 : decode cX12_bottom 11 = .ok (.invokevirtual 405, 3) := by decide +kernel
theorem dX12_bottom_14 : decode cX12_bottom 14 = .ok (.aload_n 0, 1) := by decide +kernel
theorem dX12_bottom_15 : decode cX12_bottom 15 = .ok (.iload_n 1, 1) := by decide +kernel
theorem dX12_bottom_16 : decode cX12_bottom 16 = .ok (.invokevirtual 347, 3) := by decide +kernel
theorem dX12_bottom_19 : decode cX12_bottom 19 = .ok (.ifCond .eq 11, 3) := by decide +kernel
theorem dX12_bottom_22 : decode cX12_bottom 22 = .ok (.aload_n 0, 1) := by decide +kernel
theorem dX12_bottom_23 : decode cX12_bottom 23 = .ok (.iload_n 1, 1) := by decide +kernel
theorem dX12_bottom_24 : decode cX12_bottom 24 = .ok (.invokevirtual 353, 3) := by decide +kernel
theorem dX12_bottom_27 : decode cX12_bottom 27 = .ok (.goto (-13), 3) := by decide +kernel
theorem dX12_bottom_30 : decode cX12_bottom 30 = .ok (.aload_n 0, 1) := by decide +kernel
theorem dX12_bottom_31 : decode cX12_bottom 31 = .ok (.iload_n 1, 1) := by decide +kernel
theorem dX12_bottom_32 : decode cX12_bottom 32 = .ok (.iconst 0, 1) := by decide +kernel
theorem dX12_bottom_33 : decode cX12_bottom 33 = .ok (.invokevirtual 92, 3) := by decide +kernel
theorem dX12_bottom_36 : decode cX12_bottom 36 = .ok (.istore_n 2, 1) := by decide +kernel
theorem dX12_bottom_37 : decode cX12_bottom 37 = .ok (.aload_n 0, 1) := by decide +kernel
theorem dX12_bottom_38 : decode cX12_bottom 38 = .ok (.invokevirtual 408, 3) := by decide +kernel
theorem dX12_bottom_41 : decode cX12_bottom 41 = .ok (.iload_n 2, 1) := by decide +kernel
theorem dX12_bottom_42 : decode cX12_bottom 42 = .ok (.ireturn, 1) := by decide +kernel
set_option maxRecDepth 20000 in
theorem ggX12_layWays_X12_has : GoodIn wsX12_layWays wsX12_has := goodIn_r _ [6] (by decide +kernel) (by decide +kernel)
set_option maxRecDepth 20000 in
theorem gX12_layWays_X12_has : GoodIn wsX12_layWays (va_wsS RX12 96 yX12_has wsX12_has) := goodIn_app (goodIn_of _ (by decide +kernel)) ggX12_layWays_X12_has
theorem dX12_layWays_0 : decode cX12_layWays 0 = .ok (.bipush 11, 2) := by decide +kernel
theorem dX12_layWays_2 : decode cX12_layWays 2 = .ok (.istore_n 3, 1) := by decide +kernel
theorem dX12_layWays_3 : decode cX12_layWays 3 = .ok (.iload_n 3, 1) := by decide +kernel
theorem dX12_layWays_4 : decode cX12_layWays 4 = .ok (.ifCond .lt 96, 3) := by decide +kernel
theorem dX12_layWays_7 : decode cX12_layWays 7 = .ok (.aload_n 0, 1) := by decide +kernel
theorem dX12_layWays_8 : decode cX12_layWays 8 = .ok (.getfield 56, 3) := by decide +kernel
theorem dX12_layWays_11 : decode cX12_layWays 11 = .ok (.iload_n 3, 1) := by decide +kernel
theorem dX12_layWays_12 : decode cX12_layWays 12 = .ok (.iload_n 3, 1) := by decide +kernel
theorem dX12_layWays_13 : decode cX12_layWays 13 = .ok (.iload_n 1, 1) := by decide +kernel
theorem dX12_layWays_14 : decode cX12_layWays 14 = .ok (.if_icmp .ne 7, 3) := by decide +kernel
theorem dX12_layWays_17 : decode cX12_layWays 17 = .ok (.lconst 1, 1) := by decide +kernel
theorem dX12_layWays_18 : decode cX12_layWays 18 = .ok (.goto 4, 3) := by decide +kernel
theorem dX12_layWays_21 : decode cX12_layWays 21 = .ok (.lconst 0, 1) := by decide +kernel
theorem dX12_layWays_22 : decode cX12_layWays 22 = .ok (.lastore, 1) := by decide +kernel
theorem dX12_layWays_23 : decode cX12_layWays 23 = .ok (.iload_n 3, 1) := by decide +kernel
theorem dX12_layWays_24 : decode cX12_layWays 24 = .ok (.iconst 1, 1) := by decide +kernel
theorem dX12_layWays_25 : decode cX12_layWays 25 = .ok (.iadd, 1) := by decide +kernel
theorem dX12_layWays_26 : decode cX12_layWays 26 = .ok (.istore 4, 2) := by decide +kernel
theorem dX12_layWays_28 : decode cX12_layWays 28 = .ok (.iload 4, 2) := by decide +kernel
theorem dX12_layWays_30 : decode cX12_layWays 30 = .ok (.bipush 12, 2) := by decide +kernel
theorem dX12_layWays_32 : decode cX12_layWays 32 = .ok (.if_icmp .ge 47, 3) := by decide +kernel
theorem dX12_layWays_35 : decode cX12_layWays 35 = .ok (.iload_n 3, 1) := by decide +kernel
theorem dX12_layWays_36 : decode cX12_layWays 36 = .ok (.iload_n 1, 1) := by decide +kernel
theorem dX12_layWays_37 : decode cX12_layWays 37 = .ok (.if_icmp .eq 42, 3) := by decide +kernel
theorem dX12_layWays_40 : decode cX12_layWays 40 = .ok (.aload_n 0, 1) := by decide +kernel
theorem dX12_layWays_41 : decode cX12_layWays 41 = .ok (.getfield 7, 3) := by decide +kernel
theorem dX12_layWays_44 : decode cX12_layWays 44 = .ok (.bipush 61, 2) := by decide +kernel
theorem dX12_layWays_46 : decode cX12_layWays 46 = .ok (.iload_n 3, 1) := by decide +kernel
theorem dX12_layWays_47 : decode cX12_layWays 47 = .ok (.iadd, 1) := by decide +kernel
theorem dX12_layWays_48 : decode cX12_layWays 48 = .ok (.iaload, 1) := by decide +kernel
theorem dX12_layWays_49 : decode cX12_layWays 49 = .ok (.iload 4, 2) := by decide +kernel
theorem dX12_layWays_51 : decode cX12_layWays 51 = .ok (.invokestatic 96, 3) := by decide +kernel
theorem dX12_layWays_54 : decode cX12_layWays 54 = .ok (.ifCond .eq 19, 3) := by decide +kernel
theorem dX12_layWays_57 : decode cX12_layWays 57 = .ok (.aload_n 0, 1) := by decide +kernel
theorem dX12_layWays_58 : decode cX12_layWays 58 = .ok (.getfield 56, 3) := by decide +kernel
theorem dX12_layWays_61 : decode cX12_layWays 61 = .ok (.iload_n 3, 1) := by decide +kernel
theorem dX12_layWays_62 : decode cX12_layWays 62 = .ok (.dup2, 1) := by decide +kernel
theorem dX12_layWays_63 : decode cX12_layWays 63 = .ok (.laload, 1) := by decide +kernel
theorem dX12_layWays_64 : decode cX12_layWays 64 = .ok (.aload_n 0, 1) := by decide +kernel
theorem dX12_layWays_65 : decode cX12_layWays 65 = .ok (.getfield 56, 3) := by decide +kernel
theorem dX12_layWays_68 : decode cX12_layWays 68 = .ok (.iload 4, 2) := by decide +kernel
theorem dX12_layWays_70 : decode cX12_layWays 70 = .ok (.laload, 1) := by decide +kernel
theorem dX12_layWays_71 : decode cX12_layWays 71 = .ok (.ladd, 1) := by decide +kernel
theorem dX12_layWays_72 : decode cX12_layWays 72 = .ok (.lastore, 1) := by decide +kernel
theorem dX12_layWays_73 : decode cX12_layWays 73 = .ok (.iinc 4 1, 3) := by decide +kernel
theorem dX12_layWays_76 : decode cX12_layWays 76 = .ok (.goto (-48), 3) := by decide +kernel
theorem dX12_layWays_79 : decode cX12_layWays 79 = .ok (.iload_n 2, 1) := by decide +kernel
theorem dX12_layWays_80 : decode cX12_layWays 80 = .ok (.iload_n 3, 1) := by decide +kernel
theorem dX12_layWays_81 : decode cX12_layWays 81 = .ok (.invokestatic 96, 3) := by decide +kernel
theorem dX12_layWays_84 : decode cX12_layWays 84 = .ok (.ifCond .eq 10, 3) := by decide +kernel
theorem dX12_layWays_87 : decode cX12_layWays 87 = .ok (.aload_n 0, 1) := by decide +kernel
theorem dX12_layWays_88 : decode cX12_layWays 88 = .ok (.getfield 56, 3) := by decide +kernel
theorem dX12_layWays_91 : decode cX12_layWays 91 = .ok (.iload_n 3, 1) := by decide +kernel
theorem dX12_layWays_92 : decode cX12_layWays 92 = .ok (.lconst 0, 1) := by decide +kernel
theorem dX12_layWays_93 : decode cX12_layWays 93 = .ok (.lastore, 1) := by decide +kernel
theorem dX12_layWays_94 : decode cX12_layWays 94 = .ok (.iinc 3 (-1), 3) := by decide +kernel
theorem dX12_layWays_97 : decode cX12_layWays 97 = .ok (.goto (-94), 3) := by decide +kernel
theorem dX12_layWays_100 : decode cX12_layWays 100 = .ok (.return_, 1) := by decide +kernel
set_option maxRecDepth 20000 in
theorem ggX12_ways_X12_isWant : GoodIn wsX12_ways wsX12_isWant := goodIn_r _ [6, 7, 8, 5, 9] (by decide +kernel) (by decide +kernel)
set_option maxRecDepth 20000 in
theorem gX12_ways_X12_isWant : GoodIn wsX12_ways (va_wsS RX12 100 yX12_isWant wsX12_isWant) := goodIn_app (goodIn_of _ (by decide +kernel)) ggX12_ways_X12_isWant
set_option maxRecDepth 20000 in
theorem ggX12_ways_X12_layWays : GoodIn wsX12_ways wsX12_layWays := goodIn_r _ [13, 2, 14, 15, 16, 5, 17, 18, 19, 20, 21, 22, 23, 24, 25, 26, 27, 28, 29, 30, 31, 32, 33, 34, 35, 36, 37, 38, 39, 40, 41, 42, 43, 44, 45, 46, 47, 48, 49, 50, 51, 52, 53] (by decide +kernel) (by decide +kernel)
set_option maxRecDepth 20000 in
theorem gX12_ways_X12_layWays : GoodIn wsX12_ways (wsV RX12 413 RX12 yX12_layWays wsX12_layWays) := goodIn_app (goodIn_of _ (by decide +kernel)) ggX12_ways_X12_layWays
theorem dX12_ways_0 : decode cX12_ways 0 = .ok (.iload_n 1, 1) := by decide +kernel
theorem dX12_ways_1 : decode cX12_ways 1 = .ok (.invokestatic 100, 3) := by decide +kernel
theorem dX12_ways_4 : decode cX12_ways 4 = .ok (.ifCond .eq 10, 3) := by decide +kernel
theorem dX12_ways_7 : decode cX12_ways 7 = .ok (.iload_n 2, 1) := by decide +kernel
theorem dX12_ways_8 : decode cX12_ways 8 = .ok (.invokestatic 100, 3) := by decide +kernel
theorem dX12_ways_11 : decode cX12_ways 11 = .ok (.ifCond .ne 7, 3) := by decide +kernel
theorem dX12_ways_14 : decode cX12_ways 14 = .ok (.ldc2_w 411, 3) := by decide +kernel
theorem dX12_ways_17 : decode cX12_ways 17 = .ok (.lreturn, 1) := by decide +kernel
theorem dX12_ways_18 : decode cX12_ways 18 = .ok (.aload_n 0, 1) := by decide +kernel
theorem dX12_ways_19 : decode cX12_ways 19 = .ok (.iload_n 2, 1) := by decide +kernel
theorem dX12_ways_20 : decode cX12_ways 20 = .ok (.iconst 0, 1) := by decide +kernel
theorem dX12_ways_21 : decode cX12_ways 21 = .ok (.invokevirtual 413, 3) := by decide +kernel
theorem dX12_ways_24 : decode cX12_ways 24 = .ok (.aload_n 0, 1) := by decide +kernel
theorem dX12_ways_25 : decode cX12_ways 25 = .ok (.getfield 56, 3) := by decide +kernel
theorem dX12_ways_28 : decode cX12_ways 28 = .ok (.iload_n 1, 1) := by decide +kernel
theorem dX12_ways_29 : decode cX12_ways 29 = .ok (.laload, 1) := by decide +kernel
theorem dX12_ways_30 : decode cX12_ways 30 = .ok (.lreturn, 1) := by decide +kernel
set_option maxRecDepth 20000 in
theorem ggX12_isLeading_X12_layWays : GoodIn wsX12_isLeading wsX12_layWays := goodIn_r _ [6, 1, 7, 8, 9, 5, 10, 11, 12, 13, 14, 15, 16, 17, 18, 19, 20, 21, 22, 23, 24, 25, 26, 27, 28, 29, 30, 31, 32, 33, 34, 35, 36, 37, 38, 39, 40, 41, 42, 43, 44, 45, 46] (by decide +kernel) (by decide +kernel)
set_option maxRecDepth 20000 in
theorem gX12_isLeading_X12_layWays : GoodIn wsX12_isLeading (wsV RX12 413 RX12 yX12_layWays wsX12_layWays) := goodIn_app (goodIn_of _ (by decide +kernel)) ggX12_isLeading_X12_layWays
theorem dX12_isLeading_0 : decode cX12_isLeading 0 = .ok (.aload_n 0, 1) := by decide +kernel
theorem dX12_isLeading_1 : decode cX12_isLeading 1 = .ok (.iload_n 2, 1) := by decide +kernel
theorem dX12_isLeading_2 : decode cX12_isLeading 2 = .ok (.iload_n 3, 1) := by decide +kernel
theorem dX12_isLeading_3 : decode cX12_isLeading 3 = .ok (.invokevirtual 413, 3) := by decide +kernel
theorem dX12_isLeading_6 : decode cX12_isLeading 6 = .ok (.aload_n 0, 1) := by decide +kernel
theorem dX12_isLeading_7 : decode cX12_isLeading 7 = .ok (.getfield 56, 3) := by decide +kernel
theorem dX12_isLeading_10 : decode cX12_isLeading 10 = .ok (.iload_n 1, 1) := by decide +kernel
theorem dX12_isLeading_11 : decode cX12_isLeading 11 = .ok (.laload, 1) := by decide +kernel
theorem dX12_isLeading_12 : decode cX12_isLeading 12 = .ok (.lconst 0, 1) := by decide +kernel
theorem dX12_isLeading_13 : decode cX12_isLeading 13 = .ok (.lcmp, 1) := by decide +kernel
theorem dX12_isLeading_14 : decode cX12_isLeading 14 = .ok (.ifCond .le 7, 3) := by decide +kernel
theorem dX12_isLeading_17 : decode cX12_isLeading 17 = .ok (.iconst 1, 1) := by decide +kernel
theorem dX12_isLeading_18 : decode cX12_isLeading 18 = .ok (.goto 4, 3) := by decide +kernel
theorem dX12_isLeading_21 : decode cX12_isLeading 21 = .ok (.iconst 0, 1) := by decide +kernel
theorem dX12_isLeading_22 : decode cX12_isLeading 22 = .ok (.ireturn, 1) := by decide +kernel
set_option maxRecDepth 20000 in
theorem ggX12_must_X12_isWant : GoodIn wsX12_must wsX12_isWant := goodIn_r _ [4, 5, 6, 3, 7] (by decide +kernel) (by decide +kernel)
set_option maxRecDepth 20000 in
theorem gX12_must_X12_isWant : GoodIn wsX12_must (va_wsS RX12 100 yX12_isWant wsX12_isWant) := goodIn_app (goodIn_of _ (by decide +kernel)) ggX12_must_X12_isWant
set_option maxRecDepth 20000 in
theorem ggX12_must_X12_isLeading : GoodIn wsX12_must wsX12_isLeading := goodIn_r _ [11, 12, 13, 14, 15, 3, 16, 17, 18, 19, 20, 21, 22, 23, 24, 25, 26, 27, 28, 29, 30, 31, 32, 33, 34, 35, 36, 37, 38, 39, 40, 41, 42, 43, 44, 45, 46, 47, 48, 49, 50, 51, 52, 53, 54, 55, 56] (by decide +kernel) (by decide +kernel)
set_option maxRecDepth 20000 in
theorem gX12_must_X12_isLeading : GoodIn wsX12_must (wsV RX12 416 RX12 yX12_isLeading wsX12_isLeading) := goodIn_app (goodIn_of _ (by decide +kernel)) ggX12_must_X12_isLeading
theorem dX12_must_0 : decode cX12_must 0 = .ok (.iload_n 1, 1) := by decide +kernel
theorem dX12_must_1 : decode cX12_must 1 = .ok (.invokestatic 100, 3) := by decide +kernel
theorem dX12_must_4 : decode cX12_must 4 = .ok (.ifCond .eq 20, 3) := by decide +kernel
theorem dX12_must_7 : decode cX12_must 7 = .ok (.iload_n 2, 1) := by decide +kernel
theorem dX12_must_8 : decode cX12_must 8 = .ok (.invokestatic 100, 3) := by decide +kernel
theorem dX12_must_11 : decode cX12_must 11 = .ok (.ifCond .eq 13, 3) := by decide +kernel
theorem dX12_must_14 : decode cX12_must 14 = .ok (.aload_n 0, 1) := by decide +kernel
theorem dX12_must_15 : decode cX12_must 15 = .ok (.iload_n 1, 1) := by decide +kernel
theorem dX12_must_16 : decode cX12_must 16 = .ok (.iload_n 2, 1) := by decide +kernel
theorem dX12_must_17 : decode cX12_must 17 = .ok (.iconst 0, 1) := by decide +kernel
theorem dX12_must_18 : decode cX12_must 18 = .ok (.invokevirtual 416, 3) := by decide +kernel
theorem dX12_must_21 : decode cX12_must 21 = .ok (.ifCond .ne 5, 3) := by decide +kernel
theorem dX12_must_24 : decode cX12_must 24 = .ok (.iconst (-1), 1) := by decide +kernel
theorem dX12_must_25 : decode cX12_must 25 = .ok (.ireturn, 1) := by decide +kernel
theorem dX12_must_26 : decode cX12_must 26 = .ok (.iconst 0, 1) := by decide +kernel
theorem dX12_must_27 : decode cX12_must 27 = .ok (.istore_n 3, 1) := by decide +kernel
theorem dX12_must_28 : decode cX12_must 28 = .ok (.iconst 0, 1) := by decide +kernel
theorem dX12_must_29 : decode cX12_must 29 = .ok (.istore 4, 2) := by decide +kernel
theorem dX12_must_31 : decode cX12_must 31 = .ok (.iload 4, 2) := by decide +kernel
theorem dX12_must_33 : decode cX12_must 33 = .ok (.bipush 12, 2) := by decide +kernel
theorem dX12_must_35 : decode cX12_must 35 = .ok (.if_icmp .ge 33, 3) := by decide +kernel
theorem dX12_must_38 : decode cX12_must 38 = .ok (.iload_n 3, 1) := by decide +kernel
theorem dX12_must_39 : decode cX12_must 39 = .ok (.aload_n 0, 1) := by decide +kernel
theorem dX12_must_40 : decode cX12_must 40 = .ok (.iload_n 1, 1) := by decide +kernel
theorem dX12_must_41 : decode cX12_must 41 = .ok (.iload_n 2, 1) := by decide +kernel
theorem dX12_must_42 : decode cX12_must 42 = .ok (.iconst 1, 1) := by decide +kernel
theorem dX12_must_43 : decode cX12_must 43 = .ok (.iload 4, 2) := by decide +kernel
theorem dX12_must_45 : decode cX12_must 45 = .ok (.ishl, 1) := by decide +kernel
theorem dX12_must_46 : decode cX12_must 46 = .ok (.invokevirtual 416, 3) := by decide +kernel
theorem dX12_must_49 : decode cX12_must 49 = .ok (.ifCond .eq 7, 3) := by decide +kernel
theorem dX12_must_52 : decode cX12_must 52 = .ok (.iconst 0, 1) := by decide +kernel
theorem dX12_must_53 : decode cX12_must 53 = .ok (.goto 7, 3) := by decide +kernel
theorem dX12_must_56 : decode cX12_must 56 = .ok (.iconst 1, 1) := by decide +kernel
theorem dX12_must_57 : decode cX12_must 57 = .ok (.iload 4, 2) := by decide +kernel
theorem dX12_must_59 : decode cX12_must 59 = .ok (.ishl, 1) := by decide +kernel
theorem dX12_must_60 : decode cX12_must 60 = .ok (.ior, 1) := by decide +kernel
theorem dX12_must_61 : decode cX12_must 61 = .ok (.istore_n 3, 1) := by decide +kernel
theorem dX12_must_62 : decode cX12_must 62 = .ok (.iinc 4 1, 3) := by decide +kernel
theorem dX12_must_65 : decode cX12_must 65 = .ok (.goto (-34), 3) := by decide +kernel
theorem dX12_must_68 : decode cX12_must 68 = .ok (.iload_n 3, 1) := by decide +kernel
theorem dX12_must_69 : decode cX12_must 69 = .ok (.ireturn, 1) := by decide +kernel
set_option maxRecDepth 20000 in
theorem ggX12_between_X12_isWant : GoodIn wsX12_between wsX12_isWant := goodIn_r _ [4, 5, 6, 3, 7] (by decide +kernel) (by decide +kernel)
set_option maxRecDepth 20000 in
theorem gX12_between_X12_isWant : GoodIn wsX12_between (va_wsS RX12 100 yX12_isWant wsX12_isWant) := goodIn_app (goodIn_of _ (by decide +kernel)) ggX12_between_X12_isWant
set_option maxRecDepth 20000 in
theorem ggX12_between_X12_isLeading : GoodIn wsX12_between wsX12_isLeading := goodIn_r _ [11, 12, 13, 14, 15, 3, 16, 17, 18, 19, 20, 21, 22, 23, 24, 25, 26, 27, 28, 29, 30, 31, 32, 33, 34, 35, 36, 37, 38, 39, 40, 41, 42, 43, 44, 45, 46, 47, 48, 49, 50, 51, 52, 53, 54, 55, 56] (by decide +kernel) (by decide +kernel)
set_option maxRecDepth 20000 in
theorem gX12_between_X12_isLeading : GoodIn wsX12_between (wsV RX12 416 RX12 yX12_isLeading wsX12_isLeading) := goodIn_app (goodIn_of _ (by decide +kernel)) ggX12_between_X12_isLeading
theorem dX12_between_0 : decode cX12_between 0 = .ok (.iload_n 1, 1) := by decide +kernel
theorem dX12_between_1 : decode cX12_between 1 = .ok (.invokestatic 100, 3) := by decide +kernel
theorem dX12_between_4 : decode cX12_between 4 = .ok (.ifCond .eq 10, 3) := by decide +kernel
theorem dX12_between_7 : decode cX12_between 7 = .ok (.iload_n 2, 1) := by decide +kernel
theorem dX12_between_8 : decode cX12_between 8 = .ok (.invokestatic 100, 3) := by decide +kernel
theorem dX12_between_11 : decode cX12_between 11 = .ok (.ifCond .ne 5, 3) := by decide +kernel
theorem dX12_between_14 : decode cX12_between 14 = .ok (.iconst (-1), 1) := by decide +kernel
theorem dX12_between_15 : decode cX12_between 15 = .ok (.ireturn, 1) := by decide +kernel
theorem dX12_between_16 : decode cX12_between 16 = .ok (.iconst 0, 1) := by decide +kernel
theorem dX12_between_17 : decode cX12_between 17 = .ok (.istore_n 3, 1) := by decide +kernel
theorem dX12_between_18 : decode cX12_between 18 = .ok (.iconst 0, 1) := by decide +kernel
theorem dX12_between_19 : decode cX12_between 19 = .ok (.istore 4, 2) := by decide +kernel
theorem dX12_between_21 : decode cX12_between 21 = .ok (.iload 4, 2) := by decide +kernel
theorem dX12_between_23 : decode cX12_between 23 = .ok (.bipush 12, 2) := by decide +kernel
theorem dX12_between_25 : decode cX12_between 25 = .ok (.if_icmp .ge 42, 3) := by decide +kernel
theorem dX12_between_28 : decode cX12_between 28 = .ok (.iload_n 3, 1) := by decide +kernel
theorem dX12_between_29 : decode cX12_between 29 = .ok (.aload_n 0, 1) := by decide +kernel
theorem dX12_between_30 : decode cX12_between 30 = .ok (.iload_n 1, 1) := by decide +kernel
theorem dX12_between_31 : decode cX12_between 31 = .ok (.iload 4, 2) := by decide +kernel
theorem dX12_between_33 : decode cX12_between 33 = .ok (.iconst 0, 1) := by decide +kernel
theorem dX12_between_34 : decode cX12_between 34 = .ok (.invokevirtual 416, 3) := by decide +kernel
theorem dX12_between_37 : decode cX12_between 37 = .ok (.ifCond .eq 21, 3) := by decide +kernel
theorem dX12_between_40 : decode cX12_between 40 = .ok (.aload_n 0, 1) := by decide +kernel
theorem dX12_between_41 : decode cX12_between 41 = .ok (.iload 4, 2) := by decide +kernel
theorem dX12_between_43 : decode cX12_between 43 = .ok (.iload_n 2, 1) := by decide +kernel
theorem dX12_between_44 : decode cX12_between 44 = .ok (.iconst 0, 1) := by decide +kernel
theorem dX12_between_45 : decode cX12_between 45 = .ok (.invokevirtual 416, 3) := by decide +kernel
theorem dX12_between_48 : decode cX12_between 48 = .ok (.ifCond .eq 10, 3) := by decide +kernel
theorem dX12_between_51 : decode cX12_between 51 = .ok (.iconst 1, 1) := by decide +kernel
theorem dX12_between_52 : decode cX12_between 52 = .ok (.iload 4, 2) := by decide +kernel
theorem dX12_between_54 : decode cX12_between 54 = .ok (.ishl, 1) := by decide +kernel
theorem dX12_between_55 : decode cX12_between 55 = .ok (.goto 4, 3) := by decide +kernel
theorem dX12_between_58 : decode cX12_between 58 = .ok (.iconst 0, 1) := by decide +kernel
theorem dX12_between_59 : decode cX12_between 59 = .ok (.ior, 1) := by decide +kernel
theorem dX12_between_60 : decode cX12_between 60 = .ok (.istore_n 3, 1) := by decide +kernel
theorem dX12_between_61 : decode cX12_between 61 = .ok (.iinc 4 1, 3) := by decide +kernel
theorem dX12_between_64 : decode cX12_between 64 = .ok (.goto (-43), 3) := by decide +kernel
theorem dX12_between_67 : decode cX12_between 67 = .ok (.iload_n 3, 1) := by decide +kernel
theorem dX12_between_68 : decode cX12_between 68 = .ok (.ireturn, 1) := by decide +kernel
set_option maxRecDepth 20000 in
theorem ggX12_heaviest_X12_isWant : GoodIn wsX12_heaviest wsX12_isWant := goodIn_r _ [6, 7, 8, 5, 9] (by decide +kernel) (by decide +kernel)
set_option maxRecDepth 20000 in
theorem gX12_heaviest_X12_isWant : GoodIn wsX12_heaviest (va_wsS RX12 100 yX12_isWant wsX12_isWant) := goodIn_app (goodIn_of _ (by decide +kernel)) ggX12_heaviest_X12_isWant
set_option maxRecDepth 20000 in
theorem ggX12_heaviest_X12_has : GoodIn wsX12_heaviest wsX12_has := goodIn_r _ [12] (by decide +kernel) (by decide +kernel)
set_option maxRecDepth 20000 in
theorem gX12_heaviest_X12_has : GoodIn wsX12_heaviest (va_wsS RX12 96 yX12_has wsX12_has) := goodIn_app (goodIn_of _ (by decide +kernel)) ggX12_heaviest_X12_has
theorem dX12_heaviest_0 : decode cX12_heaviest 0 = .ok (.iload_n 1, 1) := by decide +kernel
theorem dX12_heaviest_1 : decode cX12_heaviest 1 = .ok (.invokestatic 100, 3) := by decide +kernel
theorem dX12_heaviest_4 : decode cX12_heaviest 4 = .ok (.ifCond .eq 10, 3) := by decide +kernel
theorem dX12_heaviest_7 : decode cX12_heaviest 7 = .ok (.iload_n 2, 1) := by decide +kernel
theorem dX12_heaviest_8 : decode cX12_heaviest 8 = .ok (.invokestatic 100, 3) := by decide +kernel
theorem dX12_heaviest_11 : decode cX12_heaviest 11 = .ok (.ifCond .ne 5, 3) := by decide +kernel
theorem dX12_heaviest_14 : decode cX12_heaviest 14 = .ok (.iconst (-1), 1) := by decide +kernel
theorem dX12_heaviest_15 : decode cX12_heaviest 15 = .ok (.ireturn, 1) := by decide +kernel
theorem dX12_heaviest_16 : decode cX12_heaviest 16 = .ok (.bipush 11, 2) := by decide +kernel
theorem dX12_heaviest_18 : decode cX12_heaviest 18 = .ok (.istore_n 3, 1) := by decide +kernel
theorem dX12_heaviest_19 : decode cX12_heaviest 19 = .ok (.iload_n 3, 1) := by decide +kernel
theorem dX12_heaviest_20 : decode cX12_heaviest 20 = .ok (.ifCond .lt 127, 3) := by decide +kernel
theorem dX12_heaviest_23 : decode cX12_heaviest 23 = .ok (.aload_n 0, 1) := by decide +kernel
theorem dX12_heaviest_24 : decode cX12_heaviest 24 = .ok (.getfield 59, 3) := by decide +kernel
theorem dX12_heaviest_27 : decode cX12_heaviest 27 = .ok (.iload_n 3, 1) := by decide +kernel
theorem dX12_heaviest_28 : decode cX12_heaviest 28 = .ok (.iload_n 3, 1) := by decide +kernel
theorem dX12_heaviest_29 : decode cX12_heaviest 29 = .ok (.iload_n 2, 1) := by decide +kernel
theorem dX12_heaviest_30 : decode cX12_heaviest 30 = .ok (.if_icmp .ne 7, 3) := by decide +kernel
theorem dX12_heaviest_33 : decode cX12_heaviest 33 = .ok (.iconst 0, 1) := by decide +kernel
theorem dX12_heaviest_34 : decode cX12_heaviest 34 = .ok (.goto 4, 3) := by decide +kernel
theorem dX12_heaviest_37 : decode cX12_heaviest 37 = .ok (.iconst (-1), 1) := by decide +kernel
theorem dX12_heaviest_38 : decode cX12_heaviest 38 = .ok (.iastore, 1) := by decide +kernel
theorem dX12_heaviest_39 : decode cX12_heaviest 39 = .ok (.iload_n 3, 1) := by decide +kernel
theorem dX12_heaviest_40 : decode cX12_heaviest 40 = .ok (.iconst 1, 1) := by decide +kernel
theorem dX12_heaviest_41 : decode cX12_heaviest 41 = .ok (.iadd, 1) := by decide +kernel
theorem dX12_heaviest_42 : decode cX12_heaviest 42 = .ok (.istore 4, 2) := by decide +kernel
theorem dX12_heaviest_44 : decode cX12_heaviest 44 = .ok (.iload 4, 2) := by decide +kernel
theorem dX12_heaviest_46 : decode cX12_heaviest 46 = .ok (.bipush 12, 2) := by decide +kernel
theorem dX12_heaviest_48 : decode cX12_heaviest 48 = .ok (.if_icmp .ge 93, 3) := by decide +kernel
theorem dX12_heaviest_51 : decode cX12_heaviest 51 = .ok (.iload_n 3, 1) := by decide +kernel
theorem dX12_heaviest_52 : decode cX12_heaviest 52 = .ok (.iload_n 2, 1) := by decide +kernel
theorem dX12_heaviest_53 : decode cX12_heaviest 53 = .ok (.if_icmp .eq 88, 3) := by decide +kernel
theorem dX12_heaviest_56 : decode cX12_heaviest 56 = .ok (.aload_n 0, 1) := by decide +kernel
theorem dX12_heaviest_57 : decode cX12_heaviest 57 = .ok (.getfield 7, 3) := by decide +kernel
theorem dX12_heaviest_60 : decode cX12_heaviest 60 = .ok (.bipush 61, 2) := by decide +kernel
theorem dX12_heaviest_62 : decode cX12_heaviest 62 = .ok (.iload_n 3, 1) := by decide +kernel
theorem dX12_heaviest_63 : decode cX12_heaviest 63 = .ok (.iadd, 1) := by decide +kernel
theorem dX12_heaviest_64 : decode cX12_heaviest 64 = .ok (.iaload, 1) := by decide +kernel
theorem dX12_heaviest_65 : decode cX12_heaviest 65 = .ok (.iload 4, 2) := by decide +kernel
theorem dX12_heaviest_67 : decode cX12_heaviest 67 = .ok (.invokestatic 96, 3) := by decide +kernel
theorem dX12_heaviest_70 : decode cX12_heaviest 70 = .ok (.ifCond .eq 65, 3) := by decide +kernel
theorem dX12_heaviest_73 : decode cX12_heaviest 73 = .ok (.aload_n 0, 1) := by decide +kernel
theorem dX12_heaviest_74 : decode cX12_heaviest 74 = .ok (.getfield 59, 3) := by decide +kernel
theorem dX12_heaviest_77 : decode cX12_heaviest 77 = .ok (.iload 4, 2) := by decide +kernel
theorem dX12_heaviest_79 : decode cX12_heaviest 79 = .ok (.iaload, 1) := by decide +kernel
theorem dX12_heaviest_80 : decode cX12_heaviest 80 = .ok (.iconst (-1), 1) := by decide +kernel
theorem dX12_heaviest_81 : decode cX12_heaviest 81 = .ok (.if_icmp .eq 54, 3) := by decide +kernel
theorem dX12_heaviest_84 : decode cX12_heaviest 84 = .ok (.aload_n 0, 1) := by decide +kernel
theorem dX12_heaviest_85 : decode cX12_heaviest 85 = .ok (.getfield 59, 3) := by decide +kernel
theorem dX12_heaviest_88 : decode cX12_heaviest 88 = .ok (.iload 4, 2) := by decide +kernel
theorem dX12_heaviest_90 : decode cX12_heaviest 90 = .ok (.iaload, 1) := by decide +kernel
theorem dX12_heaviest_91 : decode cX12_heaviest 91 = .ok (.aload_n 0, 1) := by decide +kernel
theorem dX12_heaviest_92 : decode cX12_heaviest 92 = .ok (.getfield 7, 3) := by decide +kernel
theorem dX12_heaviest_95 : decode cX12_heaviest 95 = .ok (.bipush 49, 2) := by decide +kernel
theorem dX12_heaviest_97 : decode cX12_heaviest 97 = .ok (.iload 4, 2) := by decide +kernel
theorem dX12_heaviest_99 : decode cX12_heaviest 99 = .ok (.iadd, 1) := by decide +kernel
theorem dX12_heaviest_100 : decode cX12_heaviest 100 = .ok (.iaload, 1) := by decide +kernel
theorem dX12_heaviest_101 : decode cX12_heaviest 101 = .ok (.iadd, 1) := by decide +kernel
theorem dX12_heaviest_102 : decode cX12_heaviest 102 = .ok (.aload_n 0, 1) := by decide +kernel
theorem dX12_heaviest_103 : decode cX12_heaviest 103 = .ok (.getfield 59, 3) := by decide +kernel
theorem dX12_heaviest_106 : decode cX12_heaviest 106 = .ok (.iload_n 3, 1) := by decide +kernel
theorem dX12_heaviest_107 : decode cX12_heaviest 107 = .ok (.iaload, 1) := by decide +kernel
theorem dX12_heaviest_108 : decode cX12_heaviest 108 = .ok (.if_icmp .le 27, 3) := by decide +kernel
theorem dX12_heaviest_111 : decode cX12_heaviest 111 = .ok (.aload_n 0, 1) := by decide +kernel
theorem dX12_heaviest_112 : decode cX12_heaviest 112 = .ok (.getfield 59, 3) := by decide +kernel
theorem dX12_heaviest_115 : decode cX12_heaviest 115 = .ok (.iload_n 3, 1) := by decide +kernel
theorem dX12_heaviest_116 : decode cX12_heaviest 116 = .ok (.aload_n 0, 1) := by decide +kernel
theorem dX12_heaviest_117 : decode cX12_heaviest 117 = .ok (.getfield 59, 3) := by decide +kernel
theorem dX12_heaviest_120 : decode cX12_heaviest 120 = .ok (.iload 4, 2) := by decide +kernel
theorem dX12_heaviest_122 : decode cX12_heaviest 122 = .ok (.iaload, 1) := by decide +kernel
theorem dX12_heaviest_123 : decode cX12_heaviest 123 = .ok (.aload_n 0, 1) := by decide +kernel
theorem dX12_heaviest_124 : decode cX12_heaviest 124 = .ok (.getfield 7, 3) := by decide +kernel
theorem dX12_heaviest_127 : decode cX12_heaviest 127 = .ok (.bipush 49, 2) := by decide +kernel
theorem dX12_heaviest_129 : decode cX12_heaviest 129 = .ok (.iload 4, 2) := by decide +kernel
theorem dX12_heaviest_131 : decode cX12_heaviest 131 = .ok (.iadd, 1) := by decide +kernel
theorem dX12_heaviest_132 : decode cX12_heaviest 132 = .ok (.iaload, 1) := by decide +kernel
theorem dX12_heaviest_133 : decode cX12_heaviest 133 = .ok (.iadd, 1) := by decide +kernel
theorem dX12_heaviest_134 : decode cX12_heaviest 134 = .ok (.iastore, 1) := by decide +kernel
theorem dX12_heaviest_135 : decode cX12_heaviest 135 = .ok (.iinc 4 1, 3) := by decide +kernel
theorem dX12_heaviest_138 : decode cX12_heaviest 138 = .ok (.goto (-94), 3) := by decide +kernel
theorem dX12_heaviest_141 : decode cX12_heaviest 141 = .ok (.iinc 3 (-1), 3) := by decide +kernel
theorem dX12_heaviest_144 : decode cX12_heaviest 144 = .ok (.goto (-125), 3) := by decide +kernel
theorem dX12_heaviest_147 : decode cX12_heaviest 147 = .ok (.aload_n 0, 1) := by decide +kernel
theorem dX12_heaviest_148 : decode cX12_heaviest 148 = .ok (.getfield 59, 3) := by decide +kernel
theorem dX12_heaviest_151 : decode cX12_heaviest 151 = .ok (.iload_n 1, 1) := by decide +kernel
theorem dX12_heaviest_152 : decode cX12_heaviest 152 = .ok (.iaload, 1) := by decide +kernel
theorem dX12_heaviest_153 : decode cX12_heaviest 153 = .ok (.ireturn, 1) := by decide +kernel
set_option maxRecDepth 20000 in
theorem ggX12_under_X12_isWant : GoodIn wsX12_under wsX12_isWant := goodIn_r _ [5, 6, 7, 4, 8] (by decide +kernel) (by decide +kernel)
set_option maxRecDepth 20000 in
theorem gX12_under_X12_isWant : GoodIn wsX12_under (va_wsS RX12 100 yX12_isWant wsX12_isWant) := goodIn_app (goodIn_of _ (by decide +kernel)) ggX12_under_X12_isWant
set_option maxRecDepth 20000 in
theorem ggX12_under_X12_layLows : GoodIn wsX12_under wsX12_layLows := goodIn_r _ [12, 1, 13, 14, 15, 16, 4, 17, 27, 28, 29, 30, 31, 32, 33, 34, 35, 36, 37, 38, 39, 40, 41, 42, 43, 44, 45, 46, 47, 48, 49, 50, 51, 52, 53, 54, 55, 56, 57, 58, 59, 60, 61, 62] (by decide +kernel) (by decide +kernel)
set_option maxRecDepth 20000 in
theorem gX12_under_X12_layLows : GoodIn wsX12_under (wsV RX12 313 RX12 yX12_layLows wsX12_layLows) := goodIn_app (goodIn_of _ (by decide +kernel)) ggX12_under_X12_layLows
set_option maxRecDepth 20000 in
theorem ggX12_under_X12_has : GoodIn wsX12_under wsX12_has := goodIn_r _ [17] (by decide +kernel) (by decide +kernel)
set_option maxRecDepth 20000 in
theorem gX12_under_X12_has : GoodIn wsX12_under (va_wsS RX12 96 yX12_has wsX12_has) := goodIn_app (goodIn_of _ (by decide +kernel)) ggX12_under_X12_has
set_option maxRecDepth 20000 in
theorem ggX12_under_X12_isLeading : GoodIn wsX12_under wsX12_isLeading := goodIn_r _ [21, 22, 23, 24, 25, 4, 26, 13, 15, 16, 17, 27, 28, 29, 30, 31, 32, 33, 34, 35, 36, 37, 38, 39, 40, 41, 42, 43, 44, 45, 46, 47, 48, 49, 50, 51, 52, 53, 54, 55, 56, 57, 58, 59, 60, 61, 62] (by decide +kernel) (by decide +kernel)
set_option maxRecDepth 20000 in
theorem gX12_under_X12_isLeading : GoodIn wsX12_under (wsV RX12 416 RX12 yX12_isLeading wsX12_isLeading) := goodIn_app (goodIn_of _ (by decide +kernel)) ggX12_under_X12_isLeading
theorem dX12_under_0 : decode cX12_under 0 = .ok (.iload_n 1, 1) := by decide +kernel
theorem dX12_under_1 : decode cX12_under 1 = .ok (.invokestatic 100, 3) := by decide +kernel
theorem dX12_under_4 : decode cX12_under 4 = .ok (.ifCond .eq 10, 3) := by decide +kernel
theorem dX12_under_7 : decode cX12_under 7 = .ok (.iload_n 2, 1) := by decide +kernel
theorem dX12_under_8 : decode cX12_under 8 = .ok (.invokestatic 100, 3) := by decide +kernel
theorem dX12_under_11 : decode cX12_under 11 = .ok (.ifCond .ne 5, 3) := by decide +kernel
theorem dX12_under_14 : decode cX12_under 14 = .ok (.iconst (-1), 1) := by decide +kernel
theorem dX12_under_15 : decode cX12_under 15 = .ok (.ireturn, 1) := by decide +kernel
theorem dX12_under_16 : decode cX12_under 16 = .ok (.aload_n 0, 1) := by decide +kernel
theorem dX12_under_17 : decode cX12_under 17 = .ok (.invokevirtual 313, 3) := by decide +kernel
theorem dX12_under_20 : decode cX12_under 20 = .ok (.iconst 0, 1) := by decide +kernel
theorem dX12_under_21 : decode cX12_under 21 = .ok (.istore_n 3, 1) := by decide +kernel
theorem dX12_under_22 : decode cX12_under 22 = .ok (.iconst 0, 1) := by decide +kernel
theorem dX12_under_23 : decode cX12_under 23 = .ok (.istore 4, 2) := by decide +kernel
theorem dX12_under_25 : decode cX12_under 25 = .ok (.iload 4, 2) := by decide +kernel
theorem dX12_under_27 : decode cX12_under 27 = .ok (.bipush 12, 2) := by decide +kernel
theorem dX12_under_29 : decode cX12_under 29 = .ok (.if_icmp .ge 47, 3) := by decide +kernel
theorem dX12_under_32 : decode cX12_under 32 = .ok (.iload_n 3, 1) := by decide +kernel
theorem dX12_under_33 : decode cX12_under 33 = .ok (.aload_n 0, 1) := by decide +kernel
theorem dX12_under_34 : decode cX12_under 34 = .ok (.getfield 19, 3) := by decide +kernel
theorem dX12_under_37 : decode cX12_under 37 = .ok (.iload_n 1, 1) := by decide +kernel
theorem dX12_under_38 : decode cX12_under 38 = .ok (.iaload, 1) := by decide +kernel
theorem dX12_under_39 : decode cX12_under 39 = .ok (.iload 4, 2) := by decide +kernel
theorem dX12_under_41 : decode cX12_under 41 = .ok (.invokestatic 96, 3) := by decide +kernel
theorem dX12_under_44 : decode cX12_under 44 = .ok (.ifCond .eq 23, 3) := by decide +kernel
theorem dX12_under_47 : decode cX12_under 47 = .ok (.aload_n 0, 1) := by decide +kernel
theorem dX12_under_48 : decode cX12_under 48 = .ok (.iload_n 1, 1) := by decide +kernel
theorem dX12_under_49 : decode cX12_under 49 = .ok (.iload 4, 2) := by decide +kernel
theorem dX12_under_51 : decode cX12_under 51 = .ok (.iconst 1, 1) := by decide +kernel
theorem dX12_under_52 : decode cX12_under 52 = .ok (.iload_n 2, 1) := by decide +kernel
theorem dX12_under_53 : decode cX12_under 53 = .ok (.ishl, 1) := by decide +kernel
theorem dX12_under_54 : decode cX12_under 54 = .ok (.invokevirtual 416, 3) := by decide +kernel
theorem dX12_under_57 : decode cX12_under 57 = .ok (.ifCond .ne 10, 3) := by decide +kernel
theorem dX12_under_60 : decode cX12_under 60 = .ok (.iconst 1, 1) := by decide +kernel
theorem dX12_under_61 : decode cX12_under 61 = .ok (.iload 4, 2) := by decide +kernel
theorem dX12_under_63 : decode cX12_under 63 = .ok (.ishl, 1) := by decide +kernel
theorem dX12_under_64 : decode cX12_under 64 = .ok (.goto 4, 3) := by decide +kernel
theorem dX12_under_67 : decode cX12_under 67 = .ok (.iconst 0, 1) := by decide +kernel
theorem dX12_under_68 : decode cX12_under 68 = .ok (.ior, 1) := by decide +kernel
theorem dX12_under_69 : decode cX12_under 69 = .ok (.istore_n 3, 1) := by decide +kernel
theorem dX12_under_70 : decode cX12_under 70 = .ok (.iinc 4 1, 3) := by decide +kernel
theorem dX12_under_73 : decode cX12_under 73 = .ok (.goto (-48), 3) := by decide +kernel
theorem dX12_under_76 : decode cX12_under 76 = .ok (.iload_n 3, 1) := by decide +kernel
theorem dX12_under_77 : decode cX12_under 77 = .ok (.ireturn, 1) := by decide +kernel
set_option maxRecDepth 20000 in
theorem ggX12_needless_X12_isWant : GoodIn wsX12_needless wsX12_isWant := goodIn_r _ [6, 7, 8, 5, 9] (by decide +kernel) (by decide +kernel)
set_option maxRecDepth 20000 in
theorem gX12_needless_X12_isWant : GoodIn wsX12_needless (va_wsS RX12 100 yX12_isWant wsX12_isWant) := goodIn_app (goodIn_of _ (by decide +kernel)) ggX12_needless_X12_isWant
set_option maxRecDepth 20000 in
theorem ggX12_needless_X12_layLows : GoodIn wsX12_needless wsX12_layLows := goodIn_r _ [13, 2, 1, 14, 15, 16, 5, 17, 18, 19, 20, 21, 22, 23, 24, 25, 26, 27, 28, 29, 30, 31, 32, 33, 34, 35, 36, 37, 38, 39, 40, 41, 42, 43, 44, 45, 46, 47, 48, 49, 50, 51, 52, 53] (by decide +kernel) (by decide +kernel)
set_option maxRecDepth 20000 in
theorem gX12_needless_X12_layLows : GoodIn wsX12_needless (wsV RX12 313 RX12 yX12_layLows wsX12_layLows) := goodIn_app (goodIn_of _ (by decide +kernel)) ggX12_needless_X12_layLows
set_option maxRecDepth 20000 in
theorem ggX12_needless_X12_has : GoodIn wsX12_needless wsX12_has := goodIn_r _ [17] (by decide +kernel) (by decide +kernel)
set_option maxRecDepth 20000 in
theorem gX12_needless_X12_has : GoodIn wsX12_needless (va_wsS RX12 96 yX12_has wsX12_has) := goodIn_app (goodIn_of _ (by decide +kernel)) ggX12_needless_X12_has
theorem dX12_needless_0 : decode cX12_needless 0 = .ok (.iload_n 1, 1) := by decide +kernel
theorem dX12_needless_1 : decode cX12_needless 1 = .ok (.invokestatic 100, 3) := by decide +kernel
theorem dX12_needless_4 : decode cX12_needless 4 = .ok (.ifCond .ne 5, 3) := by decide +kernel
theorem dX12_needless_7 : decode cX12_needless 7 = .ok (.iconst (-1), 1) := by decide +kernel
theorem dX12_needless_8 : decode cX12_needless 8 = .ok (.ireturn, 1) := by decide +kernel
theorem dX12_needless_9 : decode cX12_needless 9 = .ok (.aload_n 0, 1) := by decide +kernel
theorem dX12_needless_10 : decode cX12_needless 10 = .ok (.invokevirtual 313, 3) := by decide +kernel
theorem dX12_needless_13 : decode cX12_needless 13 = .ok (.iconst 0, 1) := by decide +kernel
theorem dX12_needless_14 : decode cX12_needless 14 = .ok (.istore_n 2, 1) := by decide +kernel
theorem dX12_needless_15 : decode cX12_needless 15 = .ok (.iconst 0, 1) := by decide +kernel
theorem dX12_needless_16 : decode cX12_needless 16 = .ok (.istore_n 3, 1) := by decide +kernel
theorem dX12_needless_17 : decode cX12_needless 17 = .ok (.iload_n 3, 1) := by decide +kernel
theorem dX12_needless_18 : decode cX12_needless 18 = .ok (.bipush 12, 2) := by decide +kernel
theorem dX12_needless_20 : decode cX12_needless 20 = .ok (.if_icmp .ge 44, 3) := by decide +kernel
theorem dX12_needless_23 : decode cX12_needless 23 = .ok (.aload_n 0, 1) := by decide +kernel
theorem dX12_needless_24 : decode cX12_needless 24 = .ok (.getfield 7, 3) := by decide +kernel
theorem dX12_needless_27 : decode cX12_needless 27 = .ok (.bipush 61, 2) := by decide +kernel
theorem dX12_needless_29 : decode cX12_needless 29 = .ok (.iload_n 1, 1) := by decide +kernel
theorem dX12_needless_30 : decode cX12_needless 30 = .ok (.iadd, 1) := by decide +kernel
theorem dX12_needless_31 : decode cX12_needless 31 = .ok (.iaload, 1) := by decide +kernel
theorem dX12_needless_32 : decode cX12_needless 32 = .ok (.iload_n 3, 1) := by decide +kernel
theorem dX12_needless_33 : decode cX12_needless 33 = .ok (.invokestatic 96, 3) := by decide +kernel
theorem dX12_needless_36 : decode cX12_needless 36 = .ok (.ifCond .eq 22, 3) := by decide +kernel
theorem dX12_needless_39 : decode cX12_needless 39 = .ok (.iload_n 2, 1) := by decide +kernel
theorem dX12_needless_40 : decode cX12_needless 40 = .ok (.aload_n 0, 1) := by decide +kernel
theorem dX12_needless_41 : decode cX12_needless 41 = .ok (.getfield 7, 3) := by decide +kernel
theorem dX12_needless_44 : decode cX12_needless 44 = .ok (.bipush 61, 2) := by decide +kernel
theorem dX12_needless_46 : decode cX12_needless 46 = .ok (.iload_n 1, 1) := by decide +kernel
theorem dX12_needless_47 : decode cX12_needless 47 = .ok (.iadd, 1) := by decide +kernel
theorem dX12_needless_48 : decode cX12_needless 48 = .ok (.iaload, 1) := by decide +kernel
theorem dX12_needless_49 : decode cX12_needless 49 = .ok (.aload_n 0, 1) := by decide +kernel
theorem dX12_needless_50 : decode cX12_needless 50 = .ok (.getfield 19, 3) := by decide +kernel
theorem dX12_needless_53 : decode cX12_needless 53 = .ok (.iload_n 3, 1) := by decide +kernel
theorem dX12_needless_54 : decode cX12_needless 54 = .ok (.iaload, 1) := by decide +kernel
theorem dX12_needless_55 : decode cX12_needless 55 = .ok (.iand, 1) := by decide +kernel
theorem dX12_needless_56 : decode cX12_needless 56 = .ok (.ior, 1) := by decide +kernel
theorem dX12_needless_57 : decode cX12_needless 57 = .ok (.istore_n 2, 1) := by decide +kernel
theorem dX12_needless_58 : decode cX12_needless 58 = .ok (.iinc 3 1, 3) := by decide +kernel
theorem dX12_needless_61 : decode cX12_needless 61 = .ok (.goto (-44), 3) := by decide +kernel
theorem dX12_needless_64 : decode cX12_needless 64 = .ok (.iload_n 2, 1) := by decide +kernel
theorem dX12_needless_65 : decode cX12_needless 65 = .ok (.ireturn, 1) := by decide +kernel
set_option maxRecDepth 20000 in
theorem ggX12_shared_X12_isWant : GoodIn wsX12_shared wsX12_isWant := goodIn_r _ [5, 6, 7, 4, 8] (by decide +kernel) (by decide +kernel)
set_option maxRecDepth 20000 in
theorem gX12_shared_X12_isWant : GoodIn wsX12_shared (va_wsS RX12 100 yX12_isWant wsX12_isWant) := goodIn_app (goodIn_of _ (by decide +kernel)) ggX12_shared_X12_isWant
set_option maxRecDepth 20000 in
theorem ggX12_shared_X12_layLows : GoodIn wsX12_shared wsX12_layLows := goodIn_r _ [12, 1, 13, 14, 15, 16, 4, 17, 18, 19, 20, 21, 22, 23, 24, 25, 26, 27, 28, 29, 30, 31, 32, 33, 34, 35, 36, 37, 38, 39, 40, 41, 42, 43, 44, 45, 46, 47, 48, 49, 50, 51, 52, 53] (by decide +kernel) (by decide +kernel)
set_option maxRecDepth 20000 in
theorem gX12_shared_X12_layLows : GoodIn wsX12_shared (wsV RX12 313 RX12 yX12_layLows wsX12_layLows) := goodIn_app (goodIn_of _ (by decide +kernel)) ggX12_shared_X12_layLows
set_option maxRecDepth 20000 in
theorem ggX12_shared_X12_has : GoodIn wsX12_shared wsX12_has := goodIn_r _ [17] (by decide +kernel) (by decide +kernel)
set_option maxRecDepth 20000 in
theorem gX12_shared_X12_has : GoodIn wsX12_shared (va_wsS RX12 96 yX12_has wsX12_has) := goodIn_app (goodIn_of _ (by decide +kernel)) ggX12_shared_X12_has
theorem dX12_shared_0 : decode cX12_shared 0 = .ok (.iload_n 1, 1) := by decide +kernel
theorem dX12_shared_1 : decode cX12_shared 1 = .ok (.invokestatic 100, 3) := by decide +kernel
theorem dX12_shared_4 : decode cX12_shared 4 = .ok (.ifCond .eq 10, 3) := by decide +kernel
theorem dX12_shared_7 : decode cX12_shared 7 = .ok (.iload_n 2, 1) := by decide +kernel
theorem dX12_shared_8 : decode cX12_shared 8 = .ok (.invokestatic 100, 3) := by decide +kernel
theorem dX12_shared_11 : decode cX12_shared 11 = .ok (.ifCond .ne 5, 3) := by decide +kernel
theorem dX12_shared_14 : decode cX12_shared 14 = .ok (.iconst (-1), 1) := by decide +kernel
theorem dX12_shared_15 : decode cX12_shared 15 = .ok (.ireturn, 1) := by decide +kernel
theorem dX12_shared_16 : decode cX12_shared 16 = .ok (.aload_n 0, 1) := by decide +kernel
theorem dX12_shared_17 : decode cX12_shared 17 = .ok (.invokevirtual 313, 3) := by decide +kernel
theorem dX12_shared_20 : decode cX12_shared 20 = .ok (.aload_n 0, 1) := by decide +kernel
theorem dX12_shared_21 : decode cX12_shared 21 = .ok (.getfield 19, 3) := by decide +kernel
theorem dX12_shared_24 : decode cX12_shared 24 = .ok (.iload_n 1, 1) := by decide +kernel
theorem dX12_shared_25 : decode cX12_shared 25 = .ok (.iaload, 1) := by decide +kernel
theorem dX12_shared_26 : decode cX12_shared 26 = .ok (.iconst 1, 1) := by decide +kernel
theorem dX12_shared_27 : decode cX12_shared 27 = .ok (.iload_n 1, 1) := by decide +kernel
theorem dX12_shared_28 : decode cX12_shared 28 = .ok (.ishl, 1) := by decide +kernel
theorem dX12_shared_29 : decode cX12_shared 29 = .ok (.ior, 1) := by decide +kernel
theorem dX12_shared_30 : decode cX12_shared 30 = .ok (.aload_n 0, 1) := by decide +kernel
theorem dX12_shared_31 : decode cX12_shared 31 = .ok (.getfield 19, 3) := by decide +kernel
theorem dX12_shared_34 : decode cX12_shared 34 = .ok (.iload_n 2, 1) := by decide +kernel
theorem dX12_shared_35 : decode cX12_shared 35 = .ok (.iaload, 1) := by decide +kernel
theorem dX12_shared_36 : decode cX12_shared 36 = .ok (.iconst 1, 1) := by decide +kernel
theorem dX12_shared_37 : decode cX12_shared 37 = .ok (.iload_n 2, 1) := by decide +kernel
theorem dX12_shared_38 : decode cX12_shared 38 = .ok (.ishl, 1) := by decide +kernel
theorem dX12_shared_39 : decode cX12_shared 39 = .ok (.ior, 1) := by decide +kernel
theorem dX12_shared_40 : decode cX12_shared 40 = .ok (.iand, 1) := by decide +kernel
theorem dX12_shared_41 : decode cX12_shared 41 = .ok (.istore_n 3, 1) := by decide +kernel
theorem dX12_shared_42 : decode cX12_shared 42 = .ok (.iload_n 3, 1) := by decide +kernel
theorem dX12_shared_43 : decode cX12_shared 43 = .ok (.istore 4, 2) := by decide +kernel
theorem dX12_shared_45 : decode cX12_shared 45 = .ok (.iconst 0, 1) := by decide +kernel
theorem dX12_shared_46 : decode cX12_shared 46 = .ok (.istore 5, 2) := by decide +kernel
theorem dX12_shared_48 : decode cX12_shared 48 = .ok (.iload 5, 2) := by decide +kernel
theorem dX12_shared_50 : decode cX12_shared 50 = .ok (.bipush 12, 2) := by decide +kernel
theorem dX12_shared_52 : decode cX12_shared 52 = .ok (.if_icmp .ge 32, 3) := by decide +kernel
theorem dX12_shared_55 : decode cX12_shared 55 = .ok (.iload_n 3, 1) := by decide +kernel
theorem dX12_shared_56 : decode cX12_shared 56 = .ok (.iload 5, 2) := by decide +kernel
theorem dX12_shared_58 : decode cX12_shared 58 = .ok (.invokestatic 96, 3) := by decide +kernel
theorem dX12_shared_61 : decode cX12_shared 61 = .ok (.ifCond .eq 17, 3) := by decide +kernel
theorem dX12_shared_64 : decode cX12_shared 64 = .ok (.iload 4, 2) := by decide +kernel
theorem dX12_shared_66 : decode cX12_shared 66 = .ok (.aload_n 0, 1) := by decide +kernel
theorem dX12_shared_67 : decode cX12_shared 67 = .ok (.getfield 19, 3) := by decide +kernel
theorem dX12_shared_70 : decode cX12_shared 70 = .ok (.iload 5, 2) := by decide +kernel
theorem dX12_shared_72 : decode cX12_shared 72 = .ok (.iaload, 1) := by decide +kernel
theorem dX12_shared_73 : decode cX12_shared 73 = .ok (.iconst (-1), 1) := by decide +kernel
theorem dX12_shared_74 : decode cX12_shared 74 = .ok (.ixor, 1) := by decide +kernel
theorem dX12_shared_75 : decode cX12_shared 75 = .ok (.iand, 1) := by decide +kernel
theorem dX12_shared_76 : decode cX12_shared 76 = .ok (.istore 4, 2) := by decide +kernel
theorem dX12_shared_78 : decode cX12_shared 78 = .ok (.iinc 5 1, 3) := by decide +kernel
theorem dX12_shared_81 : decode cX12_shared 81 = .ok (.goto (-33), 3) := by decide +kernel
theorem dX12_shared_84 : decode cX12_shared 84 = .ok (.iload 4, 2) := by decide +kernel
theorem dX12_shared_86 : decode cX12_shared 86 = .ok (.ireturn, 1) := by decide +kernel
set_option maxRecDepth 20000 in
theorem ggX12_above_X12_isWant : GoodIn wsX12_above wsX12_isWant := goodIn_r _ [5, 6, 7, 4, 8] (by decide +kernel) (by decide +kernel)
set_option maxRecDepth 20000 in
theorem gX12_above_X12_isWant : GoodIn wsX12_above (va_wsS RX12 100 yX12_isWant wsX12_isWant) := goodIn_app (goodIn_of _ (by decide +kernel)) ggX12_above_X12_isWant
set_option maxRecDepth 20000 in
theorem ggX12_above_X12_layLows : GoodIn wsX12_above wsX12_layLows := goodIn_r _ [12, 1, 13, 14, 15, 16, 4, 17, 18, 19, 20, 21, 22, 23, 24, 25, 26, 27, 28, 29, 30, 31, 32, 33, 34, 35, 36, 37, 38, 39, 40, 41, 42, 43, 44, 45, 46, 47, 48, 49, 50, 51, 52, 53] (by decide +kernel) (by decide +kernel)
set_option maxRecDepth 20000 in
theorem gX12_above_X12_layLows : GoodIn wsX12_above (wsV RX12 313 RX12 yX12_layLows wsX12_layLows) := goodIn_app (goodIn_of _ (by decide +kernel)) ggX12_above_X12_layLows
set_option maxRecDepth 20000 in
theorem ggX12_above_X12_has : GoodIn wsX12_above wsX12_has := goodIn_r _ [17] (by decide +kernel) (by decide +kernel)
set_option maxRecDepth 20000 in
theorem gX12_above_X12_has : GoodIn wsX12_above (va_wsS RX12 96 yX12_has wsX12_has) := goodIn_app (goodIn_of _ (by decide +kernel)) ggX12_above_X12_has
theorem dX12_above_0 : decode cX12_above 0 = .ok (.iload_n 1, 1) := by decide +kernel
theorem dX12_above_1 : decode cX12_above 1 = .ok (.invokestatic 100, 3) := by decide +kernel
theorem dX12_above_4 : decode cX12_above 4 = .ok (.ifCond .ne 5, 3) := by decide +kernel
theorem dX12_above_7 : decode cX12_above 7 = .ok (.iconst (-1), 1) := by decide +kernel
theorem dX12_above_8 : decode cX12_above 8 = .ok (.ireturn, 1) := by decide +kernel
theorem dX12_above_9 : decode cX12_above 9 = .ok (.aload_n 0, 1) := by decide +kernel
theorem dX12_above_10 : decode cX12_above 10 = .ok (.invokevirtual 313, 3) := by decide +kernel
theorem dX12_above_13 : decode cX12_above 13 = .ok (.iconst 0, 1) := by decide +kernel
theorem dX12_above_14 : decode cX12_above 14 = .ok (.istore_n 2, 1) := by decide +kernel
theorem dX12_above_15 : decode cX12_above 15 = .ok (.iconst 0, 1) := by decide +kernel
theorem dX12_above_16 : decode cX12_above 16 = .ok (.istore_n 3, 1) := by decide +kernel
theorem dX12_above_17 : decode cX12_above 17 = .ok (.iload_n 3, 1) := by decide +kernel
theorem dX12_above_18 : decode cX12_above 18 = .ok (.bipush 12, 2) := by decide +kernel
theorem dX12_above_20 : decode cX12_above 20 = .ok (.if_icmp .ge 32, 3) := by decide +kernel
theorem dX12_above_23 : decode cX12_above 23 = .ok (.iload_n 2, 1) := by decide +kernel
theorem dX12_above_24 : decode cX12_above 24 = .ok (.aload_n 0, 1) := by decide +kernel
theorem dX12_above_25 : decode cX12_above 25 = .ok (.getfield 19, 3) := by decide +kernel
theorem dX12_above_28 : decode cX12_above 28 = .ok (.iload_n 3, 1) := by decide +kernel
theorem dX12_above_29 : decode cX12_above 29 = .ok (.iaload, 1) := by decide +kernel
theorem dX12_above_30 : decode cX12_above 30 = .ok (.iload_n 1, 1) := by decide +kernel
theorem dX12_above_31 : decode cX12_above 31 = .ok (.invokestatic 96, 3) := by decide +kernel
theorem dX12_above_34 : decode cX12_above 34 = .ok (.ifCond .eq 9, 3) := by decide +kernel
theorem dX12_above_37 : decode cX12_above 37 = .ok (.iconst 1, 1) := by decide +kernel
theorem dX12_above_38 : decode cX12_above 38 = .ok (.iload_n 3, 1) := by decide +kernel
theorem dX12_above_39 : decode cX12_above 39 = .ok (.ishl, 1) := by decide +kernel
theorem dX12_above_40 : decode cX12_above 40 = .ok (.goto 4, 3) := by decide +kernel
theorem dX12_above_43 : decode cX12_above 43 = .ok (.iconst 0, 1) := by decide +kernel
theorem dX12_above_44 : decode cX12_above 44 = .ok (.ior, 1) := by decide +kernel
theorem dX12_above_45 : decode cX12_above 45 = .ok (.istore_n 2, 1) := by decide +kernel
theorem dX12_above_46 : decode cX12_above 46 = .ok (.iinc 3 1, 3) := by decide +kernel
theorem dX12_above_49 : decode cX12_above 49 = .ok (.goto (-32), 3) := by decide +kernel
theorem dX12_above_52 : decode cX12_above 52 = .ok (.iload_n 2, 1) := by decide +kernel
theorem dX12_above_53 : decode cX12_above 53 = .ok (.ireturn, 1) := by decide +kernel
theorem dX12_plain_0 : decode cX12_plain 0 = .ok (.iconst 0, 1) := by decide +kernel
theorem dX12_plain_1 : decode cX12_plain 1 = .ok (.istore_n 1, 1) := by decide +kernel
theorem dX12_plain_2 : decode cX12_plain 2 = .ok (.iconst 0, 1) := by decide +kernel
theorem dX12_plain_3 : decode cX12_plain 3 = .ok (.istore_n 2, 1) := by decide +kernel
theorem dX12_plain_4 : decode cX12_plain 4 = .ok (.iload_n 2, 1) := by decide +kernel
theorem dX12_plain_5 : decode cX12_plain 5 = .ok (.bipush 12, 2) := by decide +kernel
theorem dX12_plain_7 : decode cX12_plain 7 = .ok (.if_icmp .ge 31, 3) := by decide +kernel
theorem dX12_plain_10 : decode cX12_plain 10 = .ok (.iload_n 1, 1) := by decide +kernel
theorem dX12_plain_11 : decode cX12_plain 11 = .ok (.aload_n 0, 1) := by decide +kernel
theorem dX12_plain_12 : decode cX12_plain 12 = .ok (.getfield 7, 3) := by decide +kernel
theorem dX12_plain_15 : decode cX12_plain 15 = .ok (.bipush 61, 2) := by decide +kernel
theorem dX12_plain_17 : decode cX12_plain 17 = .ok (.iload_n 2, 1) := by decide +kernel
theorem dX12_plain_18 : decode cX12_plain 18 = .ok (.iadd, 1) := by decide +kernel
theorem dX12_plain_19 : decode cX12_plain 19 = .ok (.iaload, 1) := by decide +kernel
theorem dX12_plain_20 : decode cX12_plain 20 = .ok (.ifCond .ne 9, 3) := by decide +kernel
theorem dX12_plain_23 : decode cX12_plain 23 = .ok (.iconst 1, 1) := by decide +kernel
theorem dX12_plain_24 : decode cX12_plain 24 = .ok (.iload_n 2, 1) := by decide +kernel
theorem dX12_plain_25 : decode cX12_plain 25 = .ok (.ishl, 1) := by decide +kernel
theorem dX12_plain_26 : decode cX12_plain 26 = .ok (.goto 4, 3) := by decide +kernel
theorem dX12_plain_29 : decode cX12_plain 29 = .ok (.iconst 0, 1) := by decide +kernel
theorem dX12_plain_30 : decode cX12_plain 30 = .ok (.ior, 1) := by decide +kernel
theorem dX12_plain_31 : decode cX12_plain 31 = .ok (.istore_n 1, 1) := by decide +kernel
theorem dX12_plain_32 : decode cX12_plain 32 = .ok (.iinc 2 1, 3) := by decide +kernel
theorem dX12_plain_35 : decode cX12_plain 35 = .ok (.goto (-31), 3) := by decide +kernel
theorem dX12_plain_38 : decode cX12_plain 38 = .ok (.iload_n 1, 1) := by decide +kernel
theorem dX12_plain_39 : decode cX12_plain 39 = .ok (.ireturn, 1) := by decide +kernel
theorem dX12_loose_0 : decode cX12_loose 0 = .ok (.sipush 4095, 3) := by decide +kernel
theorem dX12_loose_3 : decode cX12_loose 3 = .ok (.istore_n 1, 1) := by decide +kernel
theorem dX12_loose_4 : decode cX12_loose 4 = .ok (.iconst 0, 1) := by decide +kernel
theorem dX12_loose_5 : decode cX12_loose 5 = .ok (.istore_n 2, 1) := by decide +kernel
theorem dX12_loose_6 : decode cX12_loose 6 = .ok (.iload_n 2, 1) := by decide +kernel
theorem dX12_loose_7 : decode cX12_loose 7 = .ok (.bipush 12, 2) := by decide +kernel
theorem dX12_loose_9 : decode cX12_loose 9 = .ok (.if_icmp .ge 23, 3) := by decide +kernel
theorem dX12_loose_12 : decode cX12_loose 12 = .ok (.iload_n 1, 1) := by decide +kernel
theorem dX12_loose_13 : decode cX12_loose 13 = .ok (.aload_n 0, 1) := by decide +kernel
theorem dX12_loose_14 : decode cX12_loose 14 = .ok (.getfield 7, 3) := by decide +kernel
theorem dX12_loose_17 : decode cX12_loose 17 = .ok (.bipush 61, 2) := by decide +kernel
theorem dX12_loose_19 : decode cX12_loose 19 = .ok (.iload_n 2, 1) := by decide +kernel
theorem dX12_loose_20 : decode cX12_loose 20 = .ok (.iadd, 1) := by decide +kernel
theorem dX12_loose_21 : decode cX12_loose 21 = .ok (.iaload, 1) := by decide +kernel
theorem dX12_loose_22 : decode cX12_loose 22 = .ok (.iconst (-1), 1) := by decide +kernel
theorem dX12_loose_23 : decode cX12_loose 23 = .ok (.ixor, 1) := by decide +kernel
theorem dX12_loose_24 : decode cX12_loose 24 = .ok (.iand, 1) := by decide +kernel
theorem dX12_loose_25 : decode cX12_loose 25 = .ok (.istore_n 1, 1) := by decide +kernel
theorem dX12_loose_26 : decode cX12_loose 26 = .ok (.iinc 2 1, 3) := by decide +kernel
theorem dX12_loose_29 : decode cX12_loose 29 = .ok (.goto (-23), 3) := by decide +kernel
theorem dX12_loose_32 : decode cX12_loose 32 = .ok (.iload_n 1, 1) := by decide +kernel
theorem dX12_loose_33 : decode cX12_loose 33 = .ok (.ireturn, 1) := by decide +kernel
set_option maxRecDepth 20000 in
theorem ggX12_areApart_X12_has : GoodIn wsX12_areApart wsX12_has := goodIn_r _ [5] (by decide +kernel) (by decide +kernel)
set_option maxRecDepth 20000 in
theorem gX12_areApart_X12_has : GoodIn wsX12_areApart (va_wsS RX12 96 yX12_has wsX12_has) := goodIn_app (goodIn_of _ (by decide +kernel)) ggX12_areApart_X12_has
theorem dX12_areApart_0 : decode cX12_areApart 0 = .ok (.iconst 0, 1) := by decide +kernel
theorem dX12_areApart_1 : decode cX12_areApart 1 = .ok (.istore_n 2, 1) := by decide +kernel
theorem dX12_areApart_2 : decode cX12_areApart 2 = .ok (.iload_n 2, 1) := by decide +kernel
theorem dX12_areApart_3 : decode cX12_areApart 3 = .ok (.bipush 12, 2) := by decide +kernel
theorem dX12_areApart_5 : decode cX12_areApart 5 = .ok (.if_icmp .ge 30, 3) := by decide +kernel
theorem dX12_areApart_8 : decode cX12_areApart 8 = .ok (.iload_n 1, 1) := by decide +kernel
theorem dX12_areApart_9 : decode cX12_areApart 9 = .ok (.iload_n 2, 1) := by decide +kernel
theorem dX12_areApart_10 : decode cX12_areApart 10 = .ok (.invokestatic 96, 3) := by decide +kernel
theorem dX12_areApart_13 : decode cX12_areApart 13 = .ok (.ifCond .eq 16, 3) := by decide +kernel
theorem dX12_areApart_16 : decode cX12_areApart 16 = .ok (.aload_n 0, 1) := by decide +kernel
theorem dX12_areApart_17 : decode cX12_areApart 17 = .ok (.getfield 19, 3) := by decide +kernel
theorem dX12_areApart_20 : decode cX12_areApart 20 = .ok (.iload_n 2, 1) := by decide +kernel
theorem dX12_areApart_21 : decode cX12_areApart 21 = .ok (.iaload, 1) := by decide +kernel
theorem dX12_areApart_22 : decode cX12_areApart 22 = .ok (.iload_n 1, 1) := by decide +kernel
theorem dX12_areApart_23 : decode cX12_areApart 23 = .ok (.iand, 1) := by decide +kernel
theorem dX12_areApart_24 : decode cX12_areApart 24 = .ok (.ifCond .eq 5, 3) := by decide +kernel
theorem dX12_areApart_27 : decode cX12_areApart 27 = .ok (.iconst 0, 1) := by decide +kernel
theorem dX12_areApart_28 : decode cX12_areApart 28 = .ok (.ireturn, 1) := by decide +kernel
theorem dX12_areApart_29 : decode cX12_areApart 29 = .ok (.iinc 2 1, 3) := by decide +kernel
theorem dX12_areApart_32 : decode cX12_areApart 32 = .ok (.goto (-30), 3) := by decide +kernel
theorem dX12_areApart_35 : decode cX12_areApart 35 = .ok (.iconst 1, 1) := by decide +kernel
theorem dX12_areApart_36 : decode cX12_areApart 36 = .ok (.ireturn, 1) := by decide +kernel
set_option maxRecDepth 20000 in
theorem ggX12_apart_X12_layLows : GoodIn wsX12_apart wsX12_layLows := goodIn_r _ [5, 6, 7, 8, 9, 10, 4, 11, 19, 20, 21, 22, 23, 24, 25, 26, 27, 28, 29, 30, 31, 32, 33, 34, 35, 36, 37, 38, 39, 40, 41, 42, 43, 44, 45, 46, 47, 48, 49, 50, 51, 52, 53, 54] (by decide +kernel) (by decide +kernel)
set_option maxRecDepth 20000 in
theorem gX12_apart_X12_layLows : GoodIn wsX12_apart (wsV RX12 313 RX12 yX12_layLows wsX12_layLows) := goodIn_app (goodIn_of _ (by decide +kernel)) ggX12_apart_X12_layLows
set_option maxRecDepth 20000 in
theorem ggX12_apart_X12_bits : GoodIn wsX12_apart wsX12_bits := goodIn_r _ [14] (by decide +kernel) (by decide +kernel)
set_option maxRecDepth 20000 in
theorem gX12_apart_X12_bits : GoodIn wsX12_apart (va_wsS RX12 284 yX12_bits wsX12_bits) := goodIn_app (goodIn_of _ (by decide +kernel)) ggX12_apart_X12_bits
set_option maxRecDepth 20000 in
theorem ggX12_apart_X12_areApart : GoodIn wsX12_apart wsX12_areApart := goodIn_r _ [18, 6, 9, 10, 4, 11, 19, 20, 21, 22, 23, 24, 25, 26, 27, 28, 29, 30, 31, 32, 33, 34, 35, 36, 37, 38, 39, 40, 41, 42, 43, 44, 45, 46, 47, 48, 49, 50, 51, 52, 53, 54] (by decide +kernel) (by decide +kernel)
set_option maxRecDepth 20000 in
theorem gX12_apart_X12_areApart : GoodIn wsX12_apart (wsV RX12 419 RX12 yX12_areApart wsX12_areApart) := goodIn_app (goodIn_of _ (by decide +kernel)) ggX12_apart_X12_areApart
theorem dX12_apart_0 : decode cX12_apart 0 = .ok (.aload_n 0, 1) := by decide +kernel
theorem dX12_apart_1 : decode cX12_apart 1 = .ok (.invokevirtual 313, 3) := by decide +kernel
theorem dX12_apart_4 : decode cX12_apart 4 = .ok (.iconst 0, 1) := by decide +kernel
theorem dX12_apart_5 : decode cX12_apart 5 = .ok (.istore_n 2, 1) := by decide +kernel
theorem dX12_apart_6 : decode cX12_apart 6 = .ok (.iconst 1, 1) := by decide +kernel
theorem dX12_apart_7 : decode cX12_apart 7 = .ok (.istore_n 3, 1) := by decide +kernel
theorem dX12_apart_8 : decode cX12_apart 8 = .ok (.iload_n 3, 1) := by decide +kernel
theorem dX12_apart_9 : decode cX12_apart 9 = .ok (.sipush 4096, 3) := by decide +kernel
theorem dX12_apart_12 : decode cX12_apart 12 = .ok (.if_icmp .ge 30, 3) := by decide +kernel
theorem dX12_apart_15 : decode cX12_apart 15 = .ok (.iload_n 3, 1) := by decide +kernel
theorem dX12_apart_16 : decode cX12_apart 16 = .ok (.invokestatic 284, 3) := by decide +kernel
theorem dX12_apart_19 : decode cX12_apart 19 = .ok (.iload_n 2, 1) := by decide +kernel
theorem dX12_apart_20 : decode cX12_apart 20 = .ok (.invokestatic 284, 3) := by decide +kernel
theorem dX12_apart_23 : decode cX12_apart 23 = .ok (.if_icmp .le 13, 3) := by decide +kernel
theorem dX12_apart_26 : decode cX12_apart 26 = .ok (.aload_n 0, 1) := by decide +kernel
theorem dX12_apart_27 : decode cX12_apart 27 = .ok (.iload_n 3, 1) := by decide +kernel
theorem dX12_apart_28 : decode cX12_apart 28 = .ok (.invokevirtual 419, 3) := by decide +kernel
theorem dX12_apart_31 : decode cX12_apart 31 = .ok (.ifCond .eq 5, 3) := by decide +kernel
theorem dX12_apart_34 : decode cX12_apart 34 = .ok (.iload_n 3, 1) := by decide +kernel
theorem dX12_apart_35 : decode cX12_apart 35 = .ok (.istore_n 2, 1) := by decide +kernel
theorem dX12_apart_36 : decode cX12_apart 36 = .ok (.iinc 3 1, 3) := by decide +kernel
theorem dX12_apart_39 : decode cX12_apart 39 = .ok (.goto (-31), 3) := by decide +kernel
theorem dX12_apart_42 : decode cX12_apart 42 = .ok (.iload_n 1, 1) := by decide +kernel
theorem dX12_apart_43 : decode cX12_apart 43 = .ok (.ifCond .eq 10, 3) := by decide +kernel
theorem dX12_apart_46 : decode cX12_apart 46 = .ok (.iload_n 2, 1) := by decide +kernel
theorem dX12_apart_47 : decode cX12_apart 47 = .ok (.invokestatic 284, 3) := by decide +kernel
theorem dX12_apart_50 : decode cX12_apart 50 = .ok (.goto 4, 3) := by decide +kernel
theorem dX12_apart_53 : decode cX12_apart 53 = .ok (.iload_n 2, 1) := by decide +kernel
theorem dX12_apart_54 : decode cX12_apart 54 = .ok (.ireturn, 1) := by decide +kernel
set_option maxRecDepth 20000 in
theorem ggX12_levels_X12_layLows : GoodIn wsX12_levels wsX12_layLows := goodIn_r _ [6, 7, 8, 1, 9, 10, 5, 11, 12, 13, 14, 15, 16, 17, 18, 19, 20, 21, 22, 23, 24, 25, 26, 27, 28, 29, 30, 31, 32, 33, 34, 35, 36, 37, 38, 39, 40, 41, 42, 43, 44, 45, 46, 47] (by decide +kernel) (by decide +kernel)
set_option maxRecDepth 20000 in
theorem gX12_levels_X12_layLows : GoodIn wsX12_levels (wsV RX12 313 RX12 yX12_layLows wsX12_layLows) := goodIn_app (goodIn_of _ (by decide +kernel)) ggX12_levels_X12_layLows
theorem dX12_levels_0 : decode cX12_levels 0 = .ok (.aload_n 0, 1) := by decide +kernel
theorem dX12_levels_1 : decode cX12_levels 1 = .ok (.invokevirtual 313, 3) := by decide +kernel
theorem dX12_levels_4 : decode cX12_levels 4 = .ok (.iconst 0, 1) := by decide +kernel
theorem dX12_levels_5 : decode cX12_levels 5 = .ok (.istore_n 1, 1) := by decide +kernel
theorem dX12_levels_6 : decode cX12_levels 6 = .ok (.iconst 0, 1) := by decide +kernel
theorem dX12_levels_7 : decode cX12_levels 7 = .ok (.istore_n 2, 1) := by decide +kernel
theorem dX12_levels_8 : decode cX12_levels 8 = .ok (.iload_n 2, 1) := by decide +kernel
theorem dX12_levels_9 : decode cX12_levels 9 = .ok (.bipush 12, 2) := by decide +kernel
theorem dX12_levels_11 : decode cX12_levels 11 = .ok (.if_icmp .ge 32, 3) := by decide +kernel
theorem dX12_levels_14 : decode cX12_levels 14 = .ok (.aload_n 0, 1) := by decide +kernel
theorem dX12_levels_15 : decode cX12_levels 15 = .ok (.getfield 22, 3) := by decide +kernel
theorem dX12_levels_18 : decode cX12_levels 18 = .ok (.iload_n 2, 1) := by decide +kernel
theorem dX12_levels_19 : decode cX12_levels 19 = .ok (.iaload, 1) := by decide +kernel
theorem dX12_levels_20 : decode cX12_levels 20 = .ok (.iload_n 1, 1) := by decide +kernel
theorem dX12_levels_21 : decode cX12_levels 21 = .ok (.if_icmp .lt 14, 3) := by decide +kernel
theorem dX12_levels_24 : decode cX12_levels 24 = .ok (.aload_n 0, 1) := by decide +kernel
theorem dX12_levels_25 : decode cX12_levels 25 = .ok (.getfield 22, 3) := by decide +kernel
theorem dX12_levels_28 : decode cX12_levels 28 = .ok (.iload_n 2, 1) := by decide +kernel
theorem dX12_levels_29 : decode cX12_levels 29 = .ok (.iaload, 1) := by decide +kernel
theorem dX12_levels_30 : decode cX12_levels 30 = .ok (.iconst 1, 1) := by decide +kernel
theorem dX12_levels_31 : decode cX12_levels 31 = .ok (.iadd, 1) := by decide +kernel
theorem dX12_levels_32 : decode cX12_levels 32 = .ok (.goto 4, 3) := by decide +kernel
theorem dX12_levels_35 : decode cX12_levels 35 = .ok (.iload_n 1, 1) := by decide +kernel
theorem dX12_levels_36 : decode cX12_levels 36 = .ok (.istore_n 1, 1) := by decide +kernel
theorem dX12_levels_37 : decode cX12_levels 37 = .ok (.iinc 2 1, 3) := by decide +kernel
theorem dX12_levels_40 : decode cX12_levels 40 = .ok (.goto (-32), 3) := by decide +kernel
theorem dX12_levels_43 : decode cX12_levels 43 = .ok (.iload_n 1, 1) := by decide +kernel
theorem dX12_levels_44 : decode cX12_levels 44 = .ok (.ireturn, 1) := by decide +kernel
set_option maxRecDepth 20000 in
theorem ggX12_isOneMore_X12_has : GoodIn wsX12_isOneMore wsX12_has := goodIn_r _ [8] (by decide +kernel) (by decide +kernel)
set_option maxRecDepth 20000 in
theorem gX12_isOneMore_X12_has : GoodIn wsX12_isOneMore (va_wsS RX12 96 yX12_has wsX12_has) := goodIn_app (goodIn_of _ (by decide +kernel)) ggX12_isOneMore_X12_has
set_option maxRecDepth 20000 in
theorem ggX12_isOneMore_X12_turn : GoodIn wsX12_isOneMore wsX12_turn := goodIn_r _ [12, 2, 4, 13, 14, 15, 16, 17, 18, 19, 20, 21, 22, 23, 24, 25, 26, 27, 28, 29, 30, 31, 32, 33, 34, 35, 36, 37, 38, 39, 40, 41, 42, 43, 44, 45, 46, 47, 48] (by decide +kernel) (by decide +kernel)
set_option maxRecDepth 20000 in
theorem gX12_isOneMore_X12_turn : GoodIn wsX12_isOneMore (wsV RX12 422 RX12 yX12_turn wsX12_turn) := goodIn_app (goodIn_of _ (by decide +kernel)) ggX12_isOneMore_X12_turn
theorem dX12_isOneMore_0 : decode cX12_isOneMore 0 = .ok (.iconst 1, 1) := by decide +kernel
theorem dX12_isOneMore_1 : decode cX12_isOneMore 1 = .ok (.istore_n 2, 1) := by decide +kernel
theorem dX12_isOneMore_2 : decode cX12_isOneMore 2 = .ok (.aload_n 0, 1) := by decide +kernel
theorem dX12_isOneMore_3 : decode cX12_isOneMore 3 = .ok (.getfield 68, 3) := by decide +kernel
theorem dX12_isOneMore_6 : decode cX12_isOneMore 6 = .ok (.iconst 0, 1) := by decide +kernel
theorem dX12_isOneMore_7 : decode cX12_isOneMore 7 = .ok (.iload_n 1, 1) := by decide +kernel
theorem dX12_isOneMore_8 : decode cX12_isOneMore 8 = .ok (.iastore, 1) := by decide +kernel
theorem dX12_isOneMore_9 : decode cX12_isOneMore 9 = .ok (.iconst 0, 1) := by decide +kernel
theorem dX12_isOneMore_10 : decode cX12_isOneMore 10 = .ok (.istore_n 3, 1) := by decide +kernel
theorem dX12_isOneMore_11 : decode cX12_isOneMore 11 = .ok (.iload_n 3, 1) := by decide +kernel
theorem dX12_isOneMore_12 : decode cX12_isOneMore 12 = .ok (.bipush 12, 2) := by decide +kernel
theorem dX12_isOneMore_14 : decode cX12_isOneMore 14 = .ok (.if_icmp .ge 16, 3) := by decide +kernel
theorem dX12_isOneMore_17 : decode cX12_isOneMore 17 = .ok (.aload_n 0, 1) := by decide +kernel
theorem dX12_isOneMore_18 : decode cX12_isOneMore 18 = .ok (.getfield 65, 3) := by decide +kernel
theorem dX12_isOneMore_21 : decode cX12_isOneMore 21 = .ok (.iload_n 3, 1) := by decide +kernel
theorem dX12_isOneMore_22 : decode cX12_isOneMore 22 = .ok (.iconst (-1), 1) := by decide +kernel
theorem dX12_isOneMore_23 : decode cX12_isOneMore 23 = .ok (.iastore, 1) := by decide +kernel
theorem dX12_isOneMore_24 : decode cX12_isOneMore 24 = .ok (.iinc 3 1, 3) := by decide +kernel
theorem dX12_isOneMore_27 : decode cX12_isOneMore 27 = .ok (.goto (-16), 3) := by decide +kernel
theorem dX12_isOneMore_30 : decode cX12_isOneMore 30 = .ok (.iconst 0, 1) := by decide +kernel
theorem dX12_isOneMore_31 : decode cX12_isOneMore 31 = .ok (.istore_n 3, 1) := by decide +kernel
theorem dX12_isOneMore_32 : decode cX12_isOneMore 32 = .ok (.iload_n 3, 1) := by decide +kernel
theorem dX12_isOneMore_33 : decode cX12_isOneMore 33 = .ok (.iload_n 2, 1) := by decide +kernel
theorem dX12_isOneMore_34 : decode cX12_isOneMore 34 = .ok (.if_icmp .ge 110, 3) := by decide +kernel
theorem dX12_isOneMore_37 : decode cX12_isOneMore 37 = .ok (.aload_n 0, 1) := by decide +kernel
theorem dX12_isOneMore_38 : decode cX12_isOneMore 38 = .ok (.getfield 68, 3) := by decide +kernel
theorem dX12_isOneMore_41 : decode cX12_isOneMore 41 = .ok (.iload_n 3, 1) := by decide +kernel
theorem dX12_isOneMore_42 : decode cX12_isOneMore 42 = .ok (.iaload, 1) := by decide +kernel
theorem dX12_isOneMore_43 : decode cX12_isOneMore 43 = .ok (.istore 4, 2) := by decide +kernel
theorem dX12_isOneMore_45 : decode cX12_isOneMore 45 = .ok (.iconst 0, 1) := by decide +kernel
theorem dX12_isOneMore_46 : decode cX12_isOneMore 46 = .ok (.istore 5, 2) := by decide +kernel
theorem dX12_isOneMore_48 : decode cX12_isOneMore 48 = .ok (.iload 5, 2) := by decide +kernel
theorem dX12_isOneMore_50 : decode cX12_isOneMore 50 = .ok (.bipush 12, 2) := by decide +kernel
theorem dX12_isOneMore_52 : decode cX12_isOneMore 52 = .ok (.if_icmp .ge 86, 3) := by decide +kernel
theorem dX12_isOneMore_55 : decode cX12_isOneMore 55 = .ok (.aload_n 0, 1) := by decide +kernel
theorem dX12_isOneMore_56 : decode cX12_isOneMore 56 = .ok (.getfield 7, 3) := by decide +kernel
theorem dX12_isOneMore_59 : decode cX12_isOneMore 59 = .ok (.bipush 61, 2) := by decide +kernel
theorem dX12_isOneMore_61 : decode cX12_isOneMore 61 = .ok (.iload 4, 2) := by decide +kernel
theorem dX12_isOneMore_63 : decode cX12_isOneMore 63 = .ok (.iadd, 1) := by decide +kernel
theorem dX12_isOneMore_64 : decode cX12_isOneMore 64 = .ok (.iaload, 1) := by decide +kernel
theorem dX12_isOneMore_65 : decode cX12_isOneMore 65 = .ok (.iload 5, 2) := by decide +kernel
theorem dX12_isOneMore_67 : decode cX12_isOneMore 67 = .ok (.invokestatic 96, 3) := by decide +kernel
theorem dX12_isOneMore_70 : decode cX12_isOneMore 70 = .ok (.ifCond .eq 62, 3) := by decide +kernel
theorem dX12_isOneMore_73 : decode cX12_isOneMore 73 = .ok (.aload_n 0, 1) := by decide +kernel
theorem dX12_isOneMore_74 : decode cX12_isOneMore 74 = .ok (.getfield 65, 3) := by decide +kernel
theorem dX12_isOneMore_77 : decode cX12_isOneMore 77 = .ok (.iload 5, 2) := by decide +kernel
theorem dX12_isOneMore_79 : decode cX12_isOneMore 79 = .ok (.iaload, 1) := by decide +kernel
theorem dX12_isOneMore_80 : decode cX12_isOneMore 80 = .ok (.iconst (-1), 1) := by decide +kernel
theorem dX12_isOneMore_81 : decode cX12_isOneMore 81 = .ok (.if_icmp .eq 6, 3) := by decide +kernel
theorem dX12_isOneMore_84 : decode cX12_isOneMore 84 = .ok (.goto 48, 3) := by decide +kernel
theorem dX12_isOneMore_87 : decode cX12_isOneMore 87 = .ok (.aload_n 0, 1) := by decide +kernel
theorem dX12_isOneMore_88 : decode cX12_isOneMore 88 = .ok (.getfield 65, 3) := by decide +kernel
theorem dX12_isOneMore_91 : decode cX12_isOneMore 91 = .ok (.iload 5, 2) := by decide +kernel
theorem dX12_isOneMore_93 : decode cX12_isOneMore 93 = .ok (.iload 4, 2) := by decide +kernel
theorem dX12_isOneMore_95 : decode cX12_isOneMore 95 = .ok (.iastore, 1) := by decide +kernel
theorem dX12_isOneMore_96 : decode cX12_isOneMore 96 = .ok (.aload_n 0, 1) := by decide +kernel
theorem dX12_isOneMore_97 : decode cX12_isOneMore 97 = .ok (.getfield 62, 3) := by decide +kernel
theorem dX12_isOneMore_100 : decode cX12_isOneMore 100 = .ok (.iload 5, 2) := by decide +kernel
theorem dX12_isOneMore_102 : decode cX12_isOneMore 102 = .ok (.iaload, 1) := by decide +kernel
theorem dX12_isOneMore_103 : decode cX12_isOneMore 103 = .ok (.iconst (-1), 1) := by decide +kernel
theorem dX12_isOneMore_104 : decode cX12_isOneMore 104 = .ok (.if_icmp .ne 12, 3) := by decide +kernel
theorem dX12_isOneMore_107 : decode cX12_isOneMore 107 = .ok (.aload_n 0, 1) := by decide +kernel
theorem dX12_isOneMore_108 : decode cX12_isOneMore 108 = .ok (.iload 5, 2) := by decide +kernel
theorem dX12_isOneMore_110 : decode cX12_isOneMore 110 = .ok (.iload_n 1, 1) := by decide +kernel
theorem dX12_isOneMore_111 : decode cX12_isOneMore 111 = .ok (.invokevirtual 422, 3) := by decide +kernel
theorem dX12_isOneMore_114 : decode cX12_isOneMore 114 = .ok (.iconst 1, 1) := by decide +kernel
theorem dX12_isOneMore_115 : decode cX12_isOneMore 115 = .ok (.ireturn, 1) := by decide +kernel
theorem dX12_isOneMore_116 : decode cX12_isOneMore 116 = .ok (.aload_n 0, 1) := by decide +kernel
theorem dX12_isOneMore_117 : decode cX12_isOneMore 117 = .ok (.getfield 68, 3) := by decide +kernel
theorem dX12_isOneMore_120 : decode cX12_isOneMore 120 = .ok (.iload_n 2, 1) := by decide +kernel
theorem dX12_isOneMore_121 : decode cX12_isOneMore 121 = .ok (.aload_n 0, 1) := by decide +kernel
theorem dX12_isOneMore_122 : decode cX12_isOneMore 122 = .ok (.getfield 62, 3) := by decide +kernel
theorem dX12_isOneMore_125 : decode cX12_isOneMore 125 = .ok (.iload 5, 2) := by decide +kernel
theorem dX12_isOneMore_127 : decode cX12_isOneMore 127 = .ok (.iaload, 1) := by decide +kernel
