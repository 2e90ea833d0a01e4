theorem dX12_readText_4 : decode cX12_readText 4 = .ok (.aload_n 0, 1) := by decide +kernel
theorem dX12_readText_5 : decode cX12_readText 5 = .ok (.getfield 7, 3) := by decide +kernel
theorem dX12_readText_8 : decode cX12_readText 8 = .ok (.iconst 1, 1) := by decide +kernel
theorem dX12_readText_9 : decode cX12_readText 9 = .ok (.iaload, 1) := by decide +kernel
theorem dX12_readText_10 : decode cX12_readText 10 = .ok (.imul, 1) := by decide +kernel
theorem dX12_readText_11 : decode cX12_readText 11 = .ok (.putfield 166, 3) := by decide +kernel
theorem dX12_readText_14 : decode cX12_readText 14 = .ok (.aload_n 0, 1) := by decide +kernel
theorem dX12_readText_15 : decode cX12_readText 15 = .ok (.getfield 16, 3) := by decide +kernel
theorem dX12_readText_18 : decode cX12_readText 18 = .ok (.aload_n 0, 1) := by decide +kernel
theorem dX12_readText_19 : decode cX12_readText 19 = .ok (.getfield 166, 3) := by decide +kernel
theorem dX12_readText_22 : decode cX12_readText 22 = .ok (.iconst 0, 1) := by decide +kernel
theorem dX12_readText_23 : decode cX12_readText 23 = .ok (.iastore, 1) := by decide +kernel
theorem dX12_readText_24 : decode cX12_readText 24 = .ok (.aload_n 0, 1) := by decide +kernel
theorem dX12_readText_25 : decode cX12_readText 25 = .ok (.iconst 0, 1) := by decide +kernel
theorem dX12_readText_26 : decode cX12_readText 26 = .ok (.putfield 169, 3) := by decide +kernel
theorem dX12_readText_29 : decode cX12_readText 29 = .ok (.aload_n 0, 1) := by decide +kernel
theorem dX12_readText_30 : decode cX12_readText 30 = .ok (.iconst 0, 1) := by decide +kernel
theorem dX12_readText_31 : decode cX12_readText 31 = .ok (.putfield 262, 3) := by decide +kernel
theorem dX12_readText_34 : decode cX12_readText 34 = .ok (.aload_n 0, 1) := by decide +kernel
theorem dX12_readText_35 : decode cX12_readText 35 = .ok (.iconst 0, 1) := by decide +kernel
theorem dX12_readText_36 : decode cX12_readText 36 = .ok (.putfield 118, 3) := by decide +kernel
theorem dX12_readText_39 : decode cX12_readText 39 = .ok (.aload_n 0, 1) := by decide +kernel
theorem dX12_readText_40 : decode cX12_readText 40 = .ok (.invokevirtual 195, 3) := by decide +kernel
theorem dX12_readText_43 : decode cX12_readText 43 = .ok (.aload_n 0, 1) := by decide +kernel
theorem dX12_readText_44 : decode cX12_readText 44 = .ok (.getfield 128, 3) := by decide +kernel
theorem dX12_readText_47 : decode cX12_readText 47 = .ok (.ifCond .eq 17, 3) := by decide +kernel
theorem dX12_readText_50 : decode cX12_readText 50 = .ok (.aload_n 0, 1) := by decide +kernel
theorem dX12_readText_51 : decode cX12_readText 51 = .ok (.invokevirtual 268, 3) := by decide +kernel
theorem dX12_readText_54 : decode cX12_readText 54 = .ok (.istore_n 1, 1) := by decide +kernel
theorem dX12_readText_55 : decode cX12_readText 55 = .ok (.iload_n 1, 1) := by decide +kernel
theorem dX12_readText_56 : decode cX12_readText 56 = .ok (.ifCond .eq 5, 3) := by decide +kernel
theorem dX12_readText_59 : decode cX12_readText 59 = .ok (.iload_n 1, 1) := by decide +kernel
theorem dX12_readText_60 : decode cX12_readText 60 = .ok (.ireturn, 1) := by decide +kernel
theorem dX12_readText_61 : decode cX12_readText 61 = .ok (.goto (-18), 3) := by decide +kernel
theorem dX12_readText_64 : decode cX12_readText 64 = .ok (.iconst 0, 1) := by decide +kernel
theorem dX12_readText_65 : decode cX12_readText 65 = .ok (.ireturn, 1) := by decide +kernel
set_option maxRecDepth 20000 in
theorem ggX12_text_X12_readText : GoodIn wsX12_text wsX12_readText := goodIn_r _ [10, 1, 11, 12, 13, 14, 15, 16, 17, 18, 19, 9, 20, 3, 21, 22, 23, 24, 25, 26, 27, 28, 5, 29, 30, 31, 32, 33, 34, 35, 36, 37, 38, 39, 40, 41, 42, 43, 44, 45, 46, 47, 48, 49, 50, 51, 52, 53, 54, 55, 56, 57, 58, 59, 60, 61, 62, 63, 64, 65, 66, 67, 68, 69, 70, 71, 72, 73, 74, 75, 76, 77, 78, 79, 80, 81, 82, 83, 84, 85, 86, 87, 88, 89, 90, 91, 92, 93, 94, 95, 96, 97, 98, 99, 100, 101, 102, 103, 104, 105, 106, 107, 108, 109, 110, 111, 112, 113, 114, 115, 116, 117, 118, 119, 120, 121, 122, 123, 124, 125, 126, 127, 128, 129, 130, 131, 132, 133, 134, 135, 136, 137, 138, 139, 140, 141, 142, 143, 144, 145, 146, 147, 148, 149, 150, 151, 152, 153, 154, 155, 156, 157, 158, 159, 160, 161, 162, 163, 164, 165, 166, 167, 168, 169, 170, 171, 172, 173, 174, 175, 176, 177, 178, 179, 180, 181, 182, 183, 184, 185, 186, 187, 188, 189, 190, 191, 192, 193, 194, 195] (by decide +kernel) (by decide +kernel)
set_option maxRecDepth 20000 in
theorem gX12_text_X12_readText : GoodIn wsX12_text (wsV RX12 271 RX12 yX12_readText wsX12_readText) := goodIn_app (goodIn_of _ (by decide +kernel)) ggX12_text_X12_readText
theorem dX12_text_0 : decode cX12_text 0 = .ok (.aload_n 0, 1) := by decide +kernel
theorem dX12_text_1 : decode cX12_text 1 = .ok (.getfield 7, 3) := by decide +kernel
theorem dX12_text_4 : decode cX12_text 4 = .ok (.iconst 1, 1) := by decide +kernel
theorem dX12_text_5 : decode cX12_text 5 = .ok (.iaload, 1) := by decide +kernel
theorem dX12_text_6 : decode cX12_text 6 = .ok (.iconst 4, 1) := by decide +kernel
theorem dX12_text_7 : decode cX12_text 7 = .ok (.if_icmp .ne 5, 3) := by decide +kernel
theorem dX12_text_10 : decode cX12_text 10 = .ok (.iconst (-1), 1) := by decide +kernel
theorem dX12_text_11 : decode cX12_text 11 = .ok (.ireturn, 1) := by decide +kernel
theorem dX12_text_12 : decode cX12_text 12 = .ok (.aload_n 0, 1) := by decide +kernel
theorem dX12_text_13 : decode cX12_text 13 = .ok (.aload_n 0, 1) := by decide +kernel
theorem dX12_text_14 : decode cX12_text 14 = .ok (.invokevirtual 271, 3) := by decide +kernel
theorem dX12_text_17 : decode cX12_text 17 = .ok (.putfield 28, 3) := by decide +kernel
theorem dX12_text_20 : decode cX12_text 20 = .ok (.aload_n 0, 1) := by decide +kernel
theorem dX12_text_21 : decode cX12_text 21 = .ok (.aload_n 0, 1) := by decide +kernel
theorem dX12_text_22 : decode cX12_text 22 = .ok (.getfield 28, 3) := by decide +kernel
theorem dX12_text_25 : decode cX12_text 25 = .ok (.ifCond .ne 7, 3) := by decide +kernel
theorem dX12_text_28 : decode cX12_text 28 = .ok (.iconst (-1), 1) := by decide +kernel
theorem dX12_text_29 : decode cX12_text 29 = .ok (.goto 7, 3) := by decide +kernel
theorem dX12_text_32 : decode cX12_text 32 = .ok (.aload_n 0, 1) := by decide +kernel
theorem dX12_text_33 : decode cX12_text 33 = .ok (.getfield 125, 3) := by decide +kernel
theorem dX12_text_36 : decode cX12_text 36 = .ok (.putfield 32, 3) := by decide +kernel
theorem dX12_text_39 : decode cX12_text 39 = .ok (.aload_n 0, 1) := by decide +kernel
theorem dX12_text_40 : decode cX12_text 40 = .ok (.iconst 0, 1) := by decide +kernel
theorem dX12_text_41 : decode cX12_text 41 = .ok (.putfield 111, 3) := by decide +kernel
theorem dX12_text_44 : decode cX12_text 44 = .ok (.aload_n 0, 1) := by decide +kernel
theorem dX12_text_45 : decode cX12_text 45 = .ok (.getfield 28, 3) := by decide +kernel
theorem dX12_text_48 : decode cX12_text 48 = .ok (.ifCond .eq 5, 3) := by decide +kernel
theorem dX12_text_51 : decode cX12_text 51 = .ok (.iconst (-1), 1) := by decide +kernel
theorem dX12_text_52 : decode cX12_text 52 = .ok (.ireturn, 1) := by decide +kernel
theorem dX12_text_53 : decode cX12_text 53 = .ok (.aload_n 0, 1) := by decide +kernel
theorem dX12_text_54 : decode cX12_text 54 = .ok (.getfield 7, 3) := by decide +kernel
theorem dX12_text_57 : decode cX12_text 57 = .ok (.iconst 1, 1) := by decide +kernel
theorem dX12_text_58 : decode cX12_text 58 = .ok (.dup2, 1) := by decide +kernel
theorem dX12_text_59 : decode cX12_text 59 = .ok (.iaload, 1) := by decide +kernel
theorem dX12_text_60 : decode cX12_text 60 = .ok (.iconst 1, 1) := by decide +kernel
theorem dX12_text_61 : decode cX12_text 61 = .ok (.iadd, 1) := by decide +kernel
theorem dX12_text_62 : decode cX12_text 62 = .ok (.iastore, 1) := by decide +kernel
theorem dX12_text_63 : decode cX12_text 63 = .ok (.aload_n 0, 1) := by decide +kernel
theorem dX12_text_64 : decode cX12_text 64 = .ok (.getfield 7, 3) := by decide +kernel
theorem dX12_text_67 : decode cX12_text 67 = .ok (.iconst 1, 1) := by decide +kernel
theorem dX12_text_68 : decode cX12_text 68 = .ok (.iaload, 1) := by decide +kernel
theorem dX12_text_69 : decode cX12_text 69 = .ok (.iconst 1, 1) := by decide +kernel
theorem dX12_text_70 : decode cX12_text 70 = .ok (.isub, 1) := by decide +kernel
theorem dX12_text_71 : decode cX12_text 71 = .ok (.ireturn, 1) := by decide +kernel
theorem dX12_fault_0 : decode cX12_fault 0 = .ok (.iload_n 1, 1) := by decide +kernel
theorem dX12_fault_1 : decode cX12_fault 1 = .ok (.ifCond .ne 10, 3) := by decide +kernel
theorem dX12_fault_4 : decode cX12_fault 4 = .ok (.aload_n 0, 1) := by decide +kernel
theorem dX12_fault_5 : decode cX12_fault 5 = .ok (.getfield 28, 3) := by decide +kernel
theorem dX12_fault_8 : decode cX12_fault 8 = .ok (.goto 16, 3) := by decide +kernel
theorem dX12_fault_11 : decode cX12_fault 11 = .ok (.iload_n 1, 1) := by decide +kernel
theorem dX12_fault_12 : decode cX12_fault 12 = .ok (.iconst 1, 1) := by decide +kernel
theorem dX12_fault_13 : decode cX12_fault 13 = .ok (.if_icmp .ne 10, 3) := by decide +kernel
theorem dX12_fault_16 : decode cX12_fault 16 = .ok (.aload_n 0, 1) := by decide +kernel
theorem dX12_fault_17 : decode cX12_fault 17 = .ok (.getfield 32, 3) := by decide +kernel
theorem dX12_fault_20 : decode cX12_fault 20 = .ok (.goto 4, 3) := by decide +kernel
theorem dX12_fault_23 : decode cX12_fault 23 = .ok (.iconst (-1), 1) := by decide +kernel
theorem dX12_fault_24 : decode cX12_fault 24 = .ok (.ireturn, 1) := by decide +kernel
set_option maxRecDepth 20000 in
theorem ggX12_by_X12_isIn : GoodIn wsX12_by wsX12_isIn := goodIn_r _ [5] (by decide +kernel) (by decide +kernel)
set_option maxRecDepth 20000 in
theorem gX12_by_X12_isIn : GoodIn wsX12_by (va_wsS RX12 84 yX12_isIn wsX12_isIn) := goodIn_app (goodIn_of _ (by decide +kernel)) ggX12_by_X12_isIn
theorem dX12_by_0 : decode cX12_by 0 = .ok (.iload_n 1, 1) := by decide +kernel
theorem dX12_by_1 : decode cX12_by 1 = .ok (.iconst (-1), 1) := by decide +kernel
theorem dX12_by_2 : decode cX12_by 2 = .ok (.aload_n 0, 1) := by decide +kernel
theorem dX12_by_3 : decode cX12_by 3 = .ok (.getfield 7, 3) := by decide +kernel
theorem dX12_by_6 : decode cX12_by 6 = .ok (.iconst 1, 1) := by decide +kernel
theorem dX12_by_7 : decode cX12_by 7 = .ok (.iaload, 1) := by decide +kernel
theorem dX12_by_8 : decode cX12_by 8 = .ok (.iconst 1, 1) := by decide +kernel
theorem dX12_by_9 : decode cX12_by 9 = .ok (.isub, 1) := by decide +kernel
theorem dX12_by_10 : decode cX12_by 10 = .ok (.invokestatic 84, 3) := by decide +kernel
theorem dX12_by_13 : decode cX12_by 13 = .ok (.ifCond .ne 5, 3) := by decide +kernel
theorem dX12_by_16 : decode cX12_by 16 = .ok (.iconst 0, 1) := by decide +kernel
theorem dX12_by_17 : decode cX12_by 17 = .ok (.ireturn, 1) := by decide +kernel
theorem dX12_by_18 : decode cX12_by 18 = .ok (.aload_n 0, 1) := by decide +kernel
theorem dX12_by_19 : decode cX12_by 19 = .ok (.getfield 7, 3) := by decide +kernel
theorem dX12_by_22 : decode cX12_by 22 = .ok (.iconst 2, 1) := by decide +kernel
theorem dX12_by_23 : decode cX12_by 23 = .ok (.iload_n 1, 1) := by decide +kernel
theorem dX12_by_24 : decode cX12_by 24 = .ok (.iastore, 1) := by decide +kernel
theorem dX12_by_25 : decode cX12_by 25 = .ok (.iconst 1, 1) := by decide +kernel
theorem dX12_by_26 : decode cX12_by 26 = .ok (.ireturn, 1) := by decide +kernel
theorem dX12_clip_0 : decode cX12_clip 0 = .ok (.lload_n 0, 1) := by decide +kernel
theorem dX12_clip_1 : decode cX12_clip 1 = .ok (.ldc2_w 274, 3) := by decide +kernel
theorem dX12_clip_4 : decode cX12_clip 4 = .ok (.lcmp, 1) := by decide +kernel
theorem dX12_clip_5 : decode cX12_clip 5 = .ok (.ifCond .le 9, 3) := by decide +kernel
theorem dX12_clip_8 : decode cX12_clip 8 = .ok (.ldc2_w 274, 3) := by decide +kernel
theorem dX12_clip_11 : decode cX12_clip 11 = .ok (.goto 18, 3) := by decide +kernel
theorem dX12_clip_14 : decode cX12_clip 14 = .ok (.lload_n 0, 1) := by decide +kernel
theorem dX12_clip_15 : decode cX12_clip 15 = .ok (.ldc2_w 276, 3) := by decide +kernel
theorem dX12_clip_18 : decode cX12_clip 18 = .ok (.lcmp, 1) := by decide +kernel
theorem dX12_clip_19 : decode cX12_clip 19 = .ok (.ifCond .ge 9, 3) := by decide +kernel
theorem dX12_clip_22 : decode cX12_clip 22 = .ok (.ldc2_w 276, 3) := by decide +kernel
theorem dX12_clip_25 : decode cX12_clip 25 = .ok (.goto 4, 3) := by decide +kernel
theorem dX12_clip_28 : decode cX12_clip 28 = .ok (.lload_n 0, 1) := by decide +kernel
theorem dX12_clip_29 : decode cX12_clip 29 = .ok (.lreturn, 1) := by decide +kernel
set_option maxRecDepth 20000 in
theorem ggX12_two_X12_clip : GoodIn wsX12_two wsX12_clip := goodIn_r _ [4, 5, 6] (by decide +kernel) (by decide +kernel)
set_option maxRecDepth 20000 in
theorem gX12_two_X12_clip : GoodIn wsX12_two (va_wsS RX12 278 yX12_clip wsX12_clip) := goodIn_app (goodIn_of _ (by decide +kernel)) ggX12_two_X12_clip
theorem dX12_two_0 : decode cX12_two 0 = .ok (.iload_n 0, 1) := by decide +kernel
theorem dX12_two_1 : decode cX12_two 1 = .ok (.tableswitch 48 6 8 #[27, 34, 41], 27) := by decide +kernel
theorem dX12_two_28 : decode cX12_two 28 = .ok (.lload_n 1, 1) := by decide +kernel
theorem dX12_two_29 : decode cX12_two 29 = .ok (.lload_n 3, 1) := by decide +kernel
theorem dX12_two_30 : decode cX12_two 30 = .ok (.ladd, 1) := by decide +kernel
theorem dX12_two_31 : decode cX12_two 31 = .ok (.invokestatic 278, 3) := by decide +kernel
theorem dX12_two_34 : decode cX12_two 34 = .ok (.lreturn, 1) := by decide +kernel
theorem dX12_two_35 : decode cX12_two 35 = .ok (.lload_n 1, 1) := by decide +kernel
theorem dX12_two_36 : decode cX12_two 36 = .ok (.lload_n 3, 1) := by decide +kernel
theorem dX12_two_37 : decode cX12_two 37 = .ok (.lsub, 1) := by decide +kernel
theorem dX12_two_38 : decode cX12_two 38 = .ok (.invokestatic 278, 3) := by decide +kernel
theorem dX12_two_41 : decode cX12_two 41 = .ok (.lreturn, 1) := by decide +kernel
theorem dX12_two_42 : decode cX12_two 42 = .ok (.lload_n 1, 1) := by decide +kernel
theorem dX12_two_43 : decode cX12_two 43 = .ok (.lload_n 3, 1) := by decide +kernel
theorem dX12_two_44 : decode cX12_two 44 = .ok (.lmul, 1) := by decide +kernel
theorem dX12_two_45 : decode cX12_two 45 = .ok (.invokestatic 278, 3) := by decide +kernel
theorem dX12_two_48 : decode cX12_two 48 = .ok (.lreturn, 1) := by decide +kernel
theorem dX12_two_49 : decode cX12_two 49 = .ok (.lload_n 3, 1) := by decide +kernel
theorem dX12_two_50 : decode cX12_two 50 = .ok (.lconst 0, 1) := by decide +kernel
theorem dX12_two_51 : decode cX12_two 51 = .ok (.lcmp, 1) := by decide +kernel
theorem dX12_two_52 : decode cX12_two 52 = .ok (.ifCond .ne 7, 3) := by decide +kernel
theorem dX12_two_55 : decode cX12_two 55 = .ok (.lconst 0, 1) := by decide +kernel
theorem dX12_two_56 : decode cX12_two 56 = .ok (.goto 9, 3) := by decide +kernel
theorem dX12_two_59 : decode cX12_two 59 = .ok (.lload_n 1, 1) := by decide +kernel
theorem dX12_two_60 : decode cX12_two 60 = .ok (.lload_n 3, 1) := by decide +kernel
theorem dX12_two_61 : decode cX12_two 61 = .ok (.ldiv, 1) := by decide +kernel
theorem dX12_two_62 : decode cX12_two 62 = .ok (.invokestatic 278, 3) := by decide +kernel
theorem dX12_two_65 : decode cX12_two 65 = .ok (.lreturn, 1) := by decide +kernel
theorem dX12_isAsked_0 : decode cX12_isAsked 0 = .ok (.iload_n 0, 1) := by decide +kernel
theorem dX12_isAsked_1 : decode cX12_isAsked 1 = .ok (.bipush 10, 2) := by decide +kernel
theorem dX12_isAsked_3 : decode cX12_isAsked 3 = .ok (.if_icmp .ne 17, 3) := by decide +kernel
theorem dX12_isAsked_6 : decode cX12_isAsked 6 = .ok (.lload_n 1, 1) := by decide +kernel
theorem dX12_isAsked_7 : decode cX12_isAsked 7 = .ok (.lload_n 3, 1) := by decide +kernel
theorem dX12_isAsked_8 : decode cX12_isAsked 8 = .ok (.lcmp, 1) := by decide +kernel
theorem dX12_isAsked_9 : decode cX12_isAsked 9 = .ok (.ifCond .ge 7, 3) := by decide +kernel
theorem dX12_isAsked_12 : decode cX12_isAsked 12 = .ok (.iconst 1, 1) := by decide +kernel
theorem dX12_isAsked_13 : decode cX12_isAsked 13 = .ok (.goto 98, 3) := by decide +kernel
theorem dX12_isAsked_16 : decode cX12_isAsked 16 = .ok (.iconst 0, 1) := by decide +kernel
theorem dX12_isAsked_17 : decode cX12_isAsked 17 = .ok (.goto 94, 3) := by decide +kernel
theorem dX12_isAsked_20 : decode cX12_isAsked 20 = .ok (.iload_n 0, 1) := by decide +kernel
theorem dX12_isAsked_21 : decode cX12_isAsked 21 = .ok (.bipush 11, 2) := by decide +kernel
theorem dX12_isAsked_23 : decode cX12_isAsked 23 = .ok (.if_icmp .ne 17, 3) := by decide +kernel
theorem dX12_isAsked_26 : decode cX12_isAsked 26 = .ok (.lload_n 1, 1) := by decide +kernel
theorem dX12_isAsked_27 : decode cX12_isAsked 27 = .ok (.lload_n 3, 1) := by decide +kernel
theorem dX12_isAsked_28 : decode cX12_isAsked 28 = .ok (.lcmp, 1) := by decide +kernel
theorem dX12_isAsked_29 : decode cX12_isAsked 29 = .ok (.ifCond .gt 7, 3) := by decide +kernel
theorem dX12_isAsked_32 : decode cX12_isAsked 32 = .ok (.iconst 1, 1) := by decide +kernel
theorem dX12_isAsked_33 : decode cX12_isAsked 33 = .ok (.goto 78, 3) := by decide +kernel
theorem dX12_isAsked_36 : decode cX12_isAsked 36 = .ok (.iconst 0, 1) := by decide +kernel
theorem dX12_isAsked_37 : decode cX12_isAsked 37 = .ok (.goto 74, 3) := by decide +kernel
theorem dX12_isAsked_40 : decode cX12_isAsked 40 = .ok (.iload_n 0, 1) := by decide +kernel
theorem dX12_isAsked_41 : decode cX12_isAsked 41 = .ok (.bipush 12, 2) := by decide +kernel
theorem dX12_isAsked_43 : decode cX12_isAsked 43 = .ok (.if_icmp .ne 17, 3) := by decide +kernel
theorem dX12_isAsked_46 : decode cX12_isAsked 46 = .ok (.lload_n 1, 1) := by decide +kernel
theorem dX12_isAsked_47 : decode cX12_isAsked 47 = .ok (.lload_n 3, 1) := by decide +kernel
theorem dX12_isAsked_48 : decode cX12_isAsked 48 = .ok (.lcmp, 1) := by decide +kernel
theorem dX12_isAsked_49 : decode cX12_isAsked 49 = .ok (.ifCond .le 7, 3) := by decide +kernel
theorem dX12_isAsked_52 : decode cX12_isAsked 52 = .ok (.iconst 1, 1) := by decide +kernel
theorem dX12_isAsked_53 : decode cX12_isAsked 53 = .ok (.goto 58, 3) := by decide +kernel
theorem dX12_isAsked_56 : decode cX12_isAsked 56 = .ok (.iconst 0, 1) := by decide +kernel
theorem dX12_isAsked_57 : decode cX12_isAsked 57 = .ok (.goto 54, 3) := by decide +kernel
theorem dX12_isAsked_60 : decode cX12_isAsked 60 = .ok (.iload_n 0, 1) := by decide +kernel
theorem dX12_isAsked_61 : decode cX12_isAsked 61 = .ok (.bipush 13, 2) := by decide +kernel
theorem dX12_isAsked_63 : decode cX12_isAsked 63 = .ok (.if_icmp .ne 17, 3) := by decide +kernel
theorem dX12_isAsked_66 : decode cX12_isAsked 66 = .ok (.lload_n 1, 1) := by decide +kernel
theorem dX12_isAsked_67 : decode cX12_isAsked 67 = .ok (.lload_n 3, 1) := by decide +kernel
theorem dX12_isAsked_68 : decode cX12_isAsked 68 = .ok (.lcmp, 1) := by decide +kernel
theorem dX12_isAsked_69 : decode cX12_isAsked 69 = .ok (.ifCond .lt 7, 3) := by decide +kernel
theorem dX12_isAsked_72 : decode cX12_isAsked 72 = .ok (.iconst 1, 1) := by decide +kernel
theorem dX12_isAsked_73 : decode cX12_isAsked 73 = .ok (.goto 38, 3) := by decide +kernel
theorem dX12_isAsked_76 : decode cX12_isAsked 76 = .ok (.iconst 0, 1) := by decide +kernel
theorem dX12_isAsked_77 : decode cX12_isAsked 77 = .ok (.goto 34, 3) := by decide +kernel
theorem dX12_isAsked_80 : decode cX12_isAsked 80 = .ok (.iload_n 0, 1) := by decide +kernel
theorem dX12_isAsked_81 : decode cX12_isAsked 81 = .ok (.bipush 14, 2) := by decide +kernel
theorem dX12_isAsked_83 : decode cX12_isAsked 83 = .ok (.if_icmp .ne 17, 3) := by decide +kernel
theorem dX12_isAsked_86 : decode cX12_isAsked 86 = .ok (.lload_n 1, 1) := by decide +kernel
theorem dX12_isAsked_87 : decode cX12_isAsked 87 = .ok (.lload_n 3, 1) := by decide +kernel
theorem dX12_isAsked_88 : decode cX12_isAsked 88 = .ok (.lcmp, 1) := by decide +kernel
theorem dX12_isAsked_89 : decode cX12_isAsked 89 = .ok (.ifCond .ne 7, 3) := by decide +kernel
theorem dX12_isAsked_92 : decode cX12_isAsked 92 = .ok (.iconst 1, 1) := by decide +kernel
theorem dX12_isAsked_93 : decode cX12_isAsked 93 = .ok (.goto 18, 3) := by decide +kernel
theorem dX12_isAsked_96 : decode cX12_isAsked 96 = .ok (.iconst 0, 1) := by decide +kernel
theorem dX12_isAsked_97 : decode cX12_isAsked 97 = .ok (.goto 14, 3) := by decide +kernel
theorem dX12_isAsked_100 : decode cX12_isAsked 100 = .ok (.lload_n 1, 1) := by decide +kernel
theorem dX12_isAsked_101 : decode cX12_isAsked 101 = .ok (.lload_n 3, 1) := by decide +kernel
theorem dX12_isAsked_102 : decode cX12_isAsked 102 = .ok (.lcmp, 1) := by decide +kernel
theorem dX12_isAsked_103 : decode cX12_isAsked 103 = .ok (.ifCond .eq 7, 3) := by decide +kernel
theorem dX12_isAsked_106 : decode cX12_isAsked 106 = .ok (.iconst 1, 1) := by decide +kernel
theorem dX12_isAsked_107 : decode cX12_isAsked 107 = .ok (.goto 4, 3) := by decide +kernel
theorem dX12_isAsked_110 : decode cX12_isAsked 110 = .ok (.iconst 0, 1) := by decide +kernel
theorem dX12_isAsked_111 : decode cX12_isAsked 111 = .ok (.ireturn, 1) := by decide +kernel
set_option maxRecDepth 20000 in
theorem ggX12_belowOf_X12_bits : GoodIn wsX12_belowOf wsX12_bits := goodIn_r _ [6] (by decide +kernel) (by decide +kernel)
set_option maxRecDepth 20000 in
theorem gX12_belowOf_X12_bits : GoodIn wsX12_belowOf (va_wsS RX12 284 yX12_bits wsX12_bits) := goodIn_app (goodIn_of _ (by decide +kernel)) ggX12_belowOf_X12_bits
theorem dX12_belowOf_0 : decode cX12_belowOf 0 = .ok (.lload_n 1, 1) := by decide +kernel
theorem dX12_belowOf_1 : decode cX12_belowOf 1 = .ok (.lconst 0, 1) := by decide +kernel
theorem dX12_belowOf_2 : decode cX12_belowOf 2 = .ok (.lcmp, 1) := by decide +kernel
theorem dX12_belowOf_3 : decode cX12_belowOf 3 = .ok (.ifCond .lt 11, 3) := by decide +kernel
theorem dX12_belowOf_6 : decode cX12_belowOf 6 = .ok (.lload_n 1, 1) := by decide +kernel
theorem dX12_belowOf_7 : decode cX12_belowOf 7 = .ok (.ldc2_w 282, 3) := by decide +kernel
theorem dX12_belowOf_10 : decode cX12_belowOf 10 = .ok (.lcmp, 1) := by decide +kernel
theorem dX12_belowOf_11 : decode cX12_belowOf 11 = .ok (.ifCond .lt 7, 3) := by decide +kernel
theorem dX12_belowOf_14 : decode cX12_belowOf 14 = .ok (.lconst 0, 1) := by decide +kernel
theorem dX12_belowOf_15 : decode cX12_belowOf 15 = .ok (.goto 14, 3) := by decide +kernel
theorem dX12_belowOf_18 : decode cX12_belowOf 18 = .ok (.aload_n 0, 1) := by decide +kernel
theorem dX12_belowOf_19 : decode cX12_belowOf 19 = .ok (.getfield 19, 3) := by decide +kernel
theorem dX12_belowOf_22 : decode cX12_belowOf 22 = .ok (.lload_n 1, 1) := by decide +kernel
theorem dX12_belowOf_23 : decode cX12_belowOf 23 = .ok (.l2i, 1) := by decide +kernel
theorem dX12_belowOf_24 : decode cX12_belowOf 24 = .ok (.iaload, 1) := by decide +kernel
theorem dX12_belowOf_25 : decode cX12_belowOf 25 = .ok (.invokestatic 284, 3) := by decide +kernel
theorem dX12_belowOf_28 : decode cX12_belowOf 28 = .ok (.i2l, 1) := by decide +kernel
theorem dX12_belowOf_29 : decode cX12_belowOf 29 = .ok (.lreturn, 1) := by decide +kernel
theorem dX12_withinOf_0 : decode cX12_withinOf 0 = .ok (.lload_n 2, 1) := by decide +kernel
theorem dX12_withinOf_1 : decode cX12_withinOf 1 = .ok (.lconst 0, 1) := by decide +kernel
theorem dX12_withinOf_2 : decode cX12_withinOf 2 = .ok (.lcmp, 1) := by decide +kernel
theorem dX12_withinOf_3 : decode cX12_withinOf 3 = .ok (.ifCond .gt 7, 3) := by decide +kernel
theorem dX12_withinOf_6 : decode cX12_withinOf 6 = .ok (.lconst 0, 1) := by decide +kernel
theorem dX12_withinOf_7 : decode cX12_withinOf 7 = .ok (.goto 26, 3) := by decide +kernel
theorem dX12_withinOf_10 : decode cX12_withinOf 10 = .ok (.lload_n 0, 1) := by decide +kernel
theorem dX12_withinOf_11 : decode cX12_withinOf 11 = .ok (.lload_n 2, 1) := by decide +kernel
theorem dX12_withinOf_12 : decode cX12_withinOf 12 = .ok (.lcmp, 1) := by decide +kernel
theorem dX12_withinOf_13 : decode cX12_withinOf 13 = .ok (.ifCond .le 7, 3) := by decide +kernel
theorem dX12_withinOf_16 : decode cX12_withinOf 16 = .ok (.lload_n 2, 1) := by decide +kernel
theorem dX12_withinOf_17 : decode cX12_withinOf 17 = .ok (.goto 16, 3) := by decide +kernel
theorem dX12_withinOf_20 : decode cX12_withinOf 20 = .ok (.lload_n 0, 1) := by decide +kernel
theorem dX12_withinOf_21 : decode cX12_withinOf 21 = .ok (.lload_n 2, 1) := by decide +kernel
theorem dX12_withinOf_22 : decode cX12_withinOf 22 = .ok (.lneg, 1) := by decide +kernel
theorem dX12_withinOf_23 : decode cX12_withinOf 23 = .ok (.lcmp, 1) := by decide +kernel
theorem dX12_withinOf_24 : decode cX12_withinOf 24 = .ok (.ifCond .ge 8, 3) := by decide +kernel
theorem dX12_withinOf_27 : decode cX12_withinOf 27 = .ok (.lload_n 2, 1) := by decide +kernel
theorem dX12_withinOf_28 : decode cX12_withinOf 28 = .ok (.lneg, 1) := by decide +kernel
theorem dX12_withinOf_29 : decode cX12_withinOf 29 = .ok (.goto 4, 3) := by decide +kernel
theorem dX12_withinOf_32 : decode cX12_withinOf 32 = .ok (.lload_n 0, 1) := by decide +kernel
theorem dX12_withinOf_33 : decode cX12_withinOf 33 = .ok (.lreturn, 1) := by decide +kernel
theorem dX12_joined_0 : decode cX12_joined 0 = .ok (.iload_n 0, 1) := by decide +kernel
theorem dX12_joined_1 : decode cX12_joined 1 = .ok (.bipush 21, 2) := by decide +kernel
theorem dX12_joined_3 : decode cX12_joined 3 = .ok (.if_icmp .ne 19, 3) := by decide +kernel
theorem dX12_joined_6 : decode cX12_joined 6 = .ok (.iload_n 1, 1) := by decide +kernel
theorem dX12_joined_7 : decode cX12_joined 7 = .ok (.ifCond .eq 11, 3) := by decide +kernel
theorem dX12_joined_10 : decode cX12_joined 10 = .ok (.iload_n 2, 1) := by decide +kernel
theorem dX12_joined_11 : decode cX12_joined 11 = .ok (.ifCond .eq 7, 3) := by decide +kernel
theorem dX12_joined_14 : decode cX12_joined 14 = .ok (.iconst 1, 1) := by decide +kernel
theorem dX12_joined_15 : decode cX12_joined 15 = .ok (.goto 20, 3) := by decide +kernel
theorem dX12_joined_18 : decode cX12_joined 18 = .ok (.iconst 0, 1) := by decide +kernel
theorem dX12_joined_19 : decode cX12_joined 19 = .ok (.goto 16, 3) := by decide +kernel
theorem dX12_joined_22 : decode cX12_joined 22 = .ok (.iload_n 1, 1) := by decide +kernel
theorem dX12_joined_23 : decode cX12_joined 23 = .ok (.ifCond .ne 7, 3) := by decide +kernel
theorem dX12_joined_26 : decode cX12_joined 26 = .ok (.iload_n 2, 1) := by decide +kernel
theorem dX12_joined_27 : decode cX12_joined 27 = .ok (.ifCond .eq 7, 3) := by decide +kernel
theorem dX12_joined_30 : decode cX12_joined 30 = .ok (.iconst 1, 1) := by decide +kernel
theorem dX12_joined_31 : decode cX12_joined 31 = .ok (.goto 4, 3) := by decide +kernel
theorem dX12_joined_34 : decode cX12_joined 34 = .ok (.iconst 0, 1) := by decide +kernel
theorem dX12_joined_35 : decode cX12_joined 35 = .ok (.ireturn, 1) := by decide +kernel
set_option maxRecDepth 20000 in
theorem ggX12_summedUp_X12_belowOf : GoodIn wsX12_summedUp wsX12_belowOf := goodIn_r _ [9, 10, 11, 12, 13, 8, 14, 32, 33, 34, 35, 36, 37, 38, 39, 40, 41, 42, 43, 44, 45, 46, 47, 48, 49, 50, 51, 52, 53, 54, 55, 56, 57, 58, 59, 60, 61, 62, 63, 64, 65, 66, 67] (by decide +kernel) (by decide +kernel)
set_option maxRecDepth 20000 in
theorem gX12_summedUp_X12_belowOf : GoodIn wsX12_summedUp (wsV RX12 287 RX12 yX12_belowOf wsX12_belowOf) := goodIn_app (goodIn_of _ (by decide +kernel)) ggX12_summedUp_X12_belowOf
set_option maxRecDepth 20000 in
theorem ggX12_summedUp_X12_withinOf : GoodIn wsX12_summedUp wsX12_withinOf := goodIn_r _ [17] (by decide +kernel) (by decide +kernel)
set_option maxRecDepth 20000 in
theorem gX12_summedUp_X12_withinOf : GoodIn wsX12_summedUp (va_wsS RX12 290 yX12_withinOf wsX12_withinOf) := goodIn_app (goodIn_of _ (by decide +kernel)) ggX12_summedUp_X12_withinOf
set_option maxRecDepth 20000 in
theorem ggX12_summedUp_X12_two : GoodIn wsX12_summedUp wsX12_two := goodIn_r _ [20, 21, 22, 8, 23, 24, 25] (by decide +kernel) (by decide +kernel)
set_option maxRecDepth 20000 in
theorem gX12_summedUp_X12_two : GoodIn wsX12_summedUp (va_wsS RX12 294 yX12_two wsX12_two) := goodIn_app (goodIn_of _ (by decide +kernel)) ggX12_summedUp_X12_two
set_option maxRecDepth 20000 in
theorem ggX12_summedUp_X12_isAsked : GoodIn wsX12_summedUp wsX12_isAsked := goodIn_r _ [28] (by decide +kernel) (by decide +kernel)
set_option maxRecDepth 20000 in
theorem gX12_summedUp_X12_isAsked : GoodIn wsX12_summedUp (va_wsS RX12 298 yX12_isAsked wsX12_isAsked) := goodIn_app (goodIn_of _ (by decide +kernel)) ggX12_summedUp_X12_isAsked
set_option maxRecDepth 20000 in
theorem ggX12_summedUp_X12_joined : GoodIn wsX12_summedUp wsX12_joined := goodIn_r _ [31] (by decide +kernel) (by decide +kernel)
set_option maxRecDepth 20000 in
theorem gX12_summedUp_X12_joined : GoodIn wsX12_summedUp (va_wsS RX12 302 yX12_joined wsX12_joined) := goodIn_app (goodIn_of _ (by decide +kernel)) ggX12_summedUp_X12_joined
theorem dX12_summedUp_0 : decode cX12_summedUp 0 = .ok (.sipush 681, 3) := by decide +kernel
theorem dX12_summedUp_3 : decode cX12_summedUp 3 = .ok (.iload_n 1, 1) := by decide +kernel
theorem dX12_summedUp_4 : decode cX12_summedUp 4 = .ok (.imul, 1) := by decide +kernel
theorem dX12_summedUp_5 : decode cX12_summedUp 5 = .ok (.iconst 1, 1) := by decide +kernel
theorem dX12_summedUp_6 : decode cX12_summedUp 6 = .ok (.iadd, 1) := by decide +kernel
theorem dX12_summedUp_7 : decode cX12_summedUp 7 = .ok (.iconst 3, 1) := by decide +kernel
theorem dX12_summedUp_8 : decode cX12_summedUp 8 = .ok (.iload_n 2, 1) := by decide +kernel
theorem dX12_summedUp_9 : decode cX12_summedUp 9 = .ok (.imul, 1) := by decide +kernel
theorem dX12_summedUp_10 : decode cX12_summedUp 10 = .ok (.iadd, 1) := by decide +kernel
theorem dX12_summedUp_11 : decode cX12_summedUp 11 = .ok (.istore_n 3, 1) := by decide +kernel
theorem dX12_summedUp_12 : decode cX12_summedUp 12 = .ok (.sipush 681, 3) := by decide +kernel
theorem dX12_summedUp_15 : decode cX12_summedUp 15 = .ok (.iload_n 1, 1) := by decide +kernel
theorem dX12_summedUp_16 : decode cX12_summedUp 16 = .ok (.imul, 1) := by decide +kernel
theorem dX12_summedUp_17 : decode cX12_summedUp 17 = .ok (.bipush 73, 2) := by decide +kernel
theorem dX12_summedUp_19 : decode cX12_summedUp 19 = .ok (.iadd, 1) := by decide +kernel
theorem dX12_summedUp_20 : decode cX12_summedUp 20 = .ok (.istore 4, 2) := by decide +kernel
theorem dX12_summedUp_22 : decode cX12_summedUp 22 = .ok (.iconst 0, 1) := by decide +kernel
theorem dX12_summedUp_23 : decode cX12_summedUp 23 = .ok (.istore 5, 2) := by decide +kernel
theorem dX12_summedUp_25 : decode cX12_summedUp 25 = .ok (.iconst 0, 1) := by decide +kernel
theorem dX12_summedUp_26 : decode cX12_summedUp 26 = .ok (.istore 6, 2) := by decide +kernel
theorem dX12_summedUp_28 : decode cX12_summedUp 28 = .ok (.aload_n 0, 1) := by decide +kernel
theorem dX12_summedUp_29 : decode cX12_summedUp 29 = .ok (.getfield 16, 3) := by decide +kernel
theorem dX12_summedUp_32 : decode cX12_summedUp 32 = .ok (.iload_n 3, 1) := by decide +kernel
theorem dX12_summedUp_33 : decode cX12_summedUp 33 = .ok (.iconst 1, 1) := by decide +kernel
theorem dX12_summedUp_34 : decode cX12_summedUp 34 = .ok (.iadd, 1) := by decide +kernel
theorem dX12_summedUp_35 : decode cX12_summedUp 35 = .ok (.iaload, 1) := by decide +kernel
theorem dX12_summedUp_36 : decode cX12_summedUp 36 = .ok (.istore 7, 2) := by decide +kernel
theorem dX12_summedUp_38 : decode cX12_summedUp 38 = .ok (.iload 7, 2) := by decide +kernel
theorem dX12_summedUp_40 : decode cX12_summedUp 40 = .ok (.aload_n 0, 1) := by decide +kernel
theorem dX12_summedUp_41 : decode cX12_summedUp 41 = .ok (.getfield 16, 3) := by decide +kernel
theorem dX12_summedUp_44 : decode cX12_summedUp 44 = .ok (.iload_n 3, 1) := by decide +kernel
theorem dX12_summedUp_45 : decode cX12_summedUp 45 = .ok (.iconst 2, 1) := by decide +kernel
theorem dX12_summedUp_46 : decode cX12_summedUp 46 = .ok (.iadd, 1) := by decide +kernel
theorem dX12_summedUp_47 : decode cX12_summedUp 47 = .ok (.iaload, 1) := by decide +kernel
theorem dX12_summedUp_48 : decode cX12_summedUp 48 = .ok (.if_icmp .ge 358, 3) := by decide +kernel
theorem dX12_summedUp_51 : decode cX12_summedUp 51 = .ok (.aload_n 0, 1) := by decide +kernel
theorem dX12_summedUp_52 : decode cX12_summedUp 52 = .ok (.getfield 16, 3) := by decide +kernel
theorem dX12_summedUp_55 : decode cX12_summedUp 55 = .ok (.iload 4, 2) := by decide +kernel
theorem dX12_summedUp_57 : decode cX12_summedUp 57 = .ok (.iconst 2, 1) := by decide +kernel
theorem dX12_summedUp_58 : decode cX12_summedUp 58 = .ok (.iload 7, 2) := by decide +kernel
theorem dX12_summedUp_60 : decode cX12_summedUp 60 = .ok (.imul, 1) := by decide +kernel
theorem dX12_summedUp_61 : decode cX12_summedUp 61 = .ok (.iadd, 1) := by decide +kernel
theorem dX12_summedUp_62 : decode cX12_summedUp 62 = .ok (.iaload, 1) := by decide +kernel
theorem dX12_summedUp_63 : decode cX12_summedUp 63 = .ok (.istore 8, 2) := by decide +kernel
theorem dX12_summedUp_65 : decode cX12_summedUp 65 = .ok (.aload_n 0, 1) := by decide +kernel
theorem dX12_summedUp_66 : decode cX12_summedUp 66 = .ok (.getfield 16, 3) := by decide +kernel
theorem dX12_summedUp_69 : decode cX12_summedUp 69 = .ok (.iload 4, 2) := by decide +kernel
theorem dX12_summedUp_71 : decode cX12_summedUp 71 = .ok (.iconst 2, 1) := by decide +kernel
theorem dX12_summedUp_72 : decode cX12_summedUp 72 = .ok (.iload 7, 2) := by decide +kernel
theorem dX12_summedUp_74 : decode cX12_summedUp 74 = .ok (.imul, 1) := by decide +kernel
theorem dX12_summedUp_75 : decode cX12_summedUp 75 = .ok (.iadd, 1) := by decide +kernel
theorem dX12_summedUp_76 : decode cX12_summedUp 76 = .ok (.iconst 1, 1) := by decide +kernel
theorem dX12_summedUp_77 : decode cX12_summedUp 77 = .ok (.iadd, 1) := by decide +kernel
theorem dX12_summedUp_78 : decode cX12_summedUp 78 = .ok (.iaload, 1) := by decide +kernel
theorem dX12_summedUp_79 : decode cX12_summedUp 79 = .ok (.istore 9, 2) := by decide +kernel
theorem dX12_summedUp_81 : decode cX12_summedUp 81 = .ok (.iload 8, 2) := by decide +kernel
theorem dX12_summedUp_83 : decode cX12_summedUp 83 = .ok (.iconst 1, 1) := by decide +kernel
theorem dX12_summedUp_84 : decode cX12_summedUp 84 = .ok (.if_icmp .gt 35, 3) := by decide +kernel
theorem dX12_summedUp_87 : decode cX12_summedUp 87 = .ok (.aload_n 0, 1) := by decide +kernel
theorem dX12_summedUp_88 : decode cX12_summedUp 88 = .ok (.getfield 41, 3) := by decide +kernel
theorem dX12_summedUp_91 : decode cX12_summedUp 91 = .ok (.iload 5, 2) := by decide +kernel
theorem dX12_summedUp_93 : decode cX12_summedUp 93 = .ok (.iload 8, 2) := by decide +kernel
theorem dX12_summedUp_95 : decode cX12_summedUp 95 = .ok (.ifCond .ne 9, 3) := by decide +kernel
theorem dX12_summedUp_98 : decode cX12_summedUp 98 = .ok (.iload 9, 2) := by decide +kernel
theorem dX12_summedUp_100 : decode cX12_summedUp 100 = .ok (.i2l, 1) := by decide +kernel
theorem dX12_summedUp_101 : decode cX12_summedUp 101 = .ok (.goto 11, 3) := by decide +kernel
theorem dX12_summedUp_104 : decode cX12_summedUp 104 = .ok (.aload_n 0, 1) := by decide +kernel
theorem dX12_summedUp_105 : decode cX12_summedUp 105 = .ok (.getfield 38, 3) := by decide +kernel
theorem dX12_summedUp_108 : decode cX12_summedUp 108 = .ok (.iload 9, 2) := by decide +kernel
theorem dX12_summedUp_110 : decode cX12_summedUp 110 = .ok (.iaload, 1) := by decide +kernel
theorem dX12_summedUp_111 : decode cX12_summedUp 111 = .ok (.i2l, 1) := by decide +kernel
theorem dX12_summedUp_112 : decode cX12_summedUp 112 = .ok (.lastore, 1) := by decide +kernel
theorem dX12_summedUp_113 : decode cX12_summedUp 113 = .ok (.iinc 5 1, 3) := by decide +kernel
theorem dX12_summedUp_116 : decode cX12_summedUp 116 = .ok (.goto 284, 3) := by decide +kernel
theorem dX12_summedUp_119 : decode cX12_summedUp 119 = .ok (.iload 8, 2) := by decide +kernel
theorem dX12_summedUp_121 : decode cX12_summedUp 121 = .ok (.iconst 3, 1) := by decide +kernel
theorem dX12_summedUp_122 : decode cX12_summedUp 122 = .ok (.if_icmp .ne 38, 3) := by decide +kernel
theorem dX12_summedUp_125 : decode cX12_summedUp 125 = .ok (.iinc 5 (-1), 3) := by decide +kernel
theorem dX12_summedUp_128 : decode cX12_summedUp 128 = .ok (.iinc 6 (-1), 3) := by decide +kernel
theorem dX12_summedUp_131 : decode cX12_summedUp 131 = .ok (.aload_n 0, 1) := by decide +kernel
theorem dX12_summedUp_132 : decode cX12_summedUp 132 = .ok (.getfield 45, 3) := by decide +kernel
theorem dX12_summedUp_135 : decode cX12_summedUp 135 = .ok (.iload 6, 2) := by decide +kernel
theorem dX12_summedUp_137 : decode cX12_summedUp 137 = .ok (.baload, 1) := by decide +kernel
theorem dX12_summedUp_138 : decode cX12_summedUp 138 = .ok (.ifCond .ne 262, 3) := by decide +kernel
theorem dX12_summedUp_141 : decode cX12_summedUp 141 = .ok (.aload_n 0, 1) := by decide +kernel
theorem dX12_summedUp_142 : decode cX12_summedUp 142 = .ok (.getfield 41, 3) := by decide +kernel
theorem dX12_summedUp_145 : decode cX12_summedUp 145 = .ok (.iload 5, 2) := by decide +kernel
theorem dX12_summedUp_147 : decode cX12_summedUp 147 = .ok (.iconst 1, 1) := by decide +kernel
theorem dX12_summedUp_148 : decode cX12_summedUp 148 = .ok (.isub, 1) := by decide +kernel
theorem dX12_summedUp_149 : decode cX12_summedUp 149 = .ok (.aload_n 0, 1) := by decide +kernel
theorem dX12_summedUp_150 : decode cX12_summedUp 150 = .ok (.getfield 41, 3) := by decide +kernel
theorem dX12_summedUp_153 : decode cX12_summedUp 153 = .ok (.iload 5, 2) := by decide +kernel
theorem dX12_summedUp_155 : decode cX12_summedUp 155 = .ok (.laload, 1) := by decide +kernel
theorem dX12_summedUp_156 : decode cX12_summedUp 156 = .ok (.lastore, 1) := by decide +kernel
theorem dX12_summedUp_157 : decode cX12_summedUp 157 = .ok (.goto 243, 3) := by decide +kernel
theorem dX12_summedUp_160 : decode cX12_summedUp 160 = .ok (.iload 8, 2) := by decide +kernel
theorem dX12_summedUp_162 : decode cX12_summedUp 162 = .ok (.iconst 5, 1) := by decide +kernel
theorem dX12_summedUp_163 : decode cX12_summedUp 163 = .ok (.if_icmp .eq 9, 3) := by decide +kernel
theorem dX12_summedUp_166 : decode cX12_summedUp 166 = .ok (.iload 8, 2) := by decide +kernel
theorem dX12_summedUp_168 : decode cX12_summedUp 168 = .ok (.iconst 2, 1) := by decide +kernel
theorem dX12_summedUp_169 : decode cX12_summedUp 169 = .ok (.if_icmp .ne 47, 3) := by decide +kernel
theorem dX12_summedUp_172 : decode cX12_summedUp 172 = .ok (.aload_n 0, 1) := by decide +kernel
theorem dX12_summedUp_173 : decode cX12_summedUp 173 = .ok (.getfield 41, 3) := by decide +kernel
theorem dX12_summedUp_176 : decode cX12_summedUp 176 = .ok (.iload 5, 2) := by decide +kernel
theorem dX12_summedUp_178 : decode cX12_summedUp 178 = .ok (.iconst 1, 1) := by decide +kernel
theorem dX12_summedUp_179 : decode cX12_summedUp 179 = .ok (.isub, 1) := by decide +kernel
theorem dX12_summedUp_180 : decode cX12_summedUp 180 = .ok (.iload 8, 2) := by decide +kernel
theorem dX12_summedUp_182 : decode cX12_summedUp 182 = .ok (.iconst 5, 1) := by decide +kernel
theorem dX12_summedUp_183 : decode cX12_summedUp 183 = .ok (.if_icmp .ne 16, 3) := by decide +kernel
theorem dX12_summedUp_186 : decode cX12_summedUp 186 = .ok (.aload_n 0, 1) := by decide +kernel
theorem dX12_summedUp_187 : decode cX12_summedUp 187 = .ok (.getfield 41, 3) := by decide +kernel
theorem dX12_summedUp_190 : decode cX12_summedUp 190 = .ok (.iload 5, 2) := by decide +kernel
theorem dX12_summedUp_192 : decode cX12_summedUp 192 = .ok (.iconst 1, 1) := by decide +kernel
theorem dX12_summedUp_193 : decode cX12_summedUp 193 = .ok (.isub, 1) := by decide +kernel
theorem dX12_summedUp_194 : decode cX12_summedUp 194 = .ok (.laload, 1) := by decide +kernel
theorem dX12_summedUp_195 : decode cX12_summedUp 195 = .ok (.lneg, 1) := by decide +kernel
theorem dX12_summedUp_196 : decode cX12_summedUp 196 = .ok (.goto 16, 3) := by decide +kernel
theorem dX12_summedUp_199 : decode cX12_summedUp 199 = .ok (.aload_n 0, 1) := by decide +kernel
theorem dX12_summedUp_200 : decode cX12_summedUp 200 = .ok (.aload_n 0, 1) := by decide +kernel
theorem dX12_summedUp_201 : decode cX12_summedUp 201 = .ok (.getfield 41, 3) := by decide +kernel
theorem dX12_summedUp_204 : decode cX12_summedUp 204 = .ok (.iload 5, 2) := by decide +kernel
theorem dX12_summedUp_206 : decode cX12_summedUp 206 = .ok (.iconst 1, 1) := by decide +kernel
theorem dX12_summedUp_207 : decode cX12_summedUp 207 = .ok (.isub, 1) := by decide +kernel
theorem dX12_summedUp_208 : decode cX12_summedUp 208 = .ok (.laload, 1) := by decide +kernel
theorem dX12_summedUp_209 : decode cX12_summedUp 209 = .ok (.invokevirtual 287, 3) := by decide +kernel
theorem dX12_summedUp_212 : decode cX12_summedUp 212 = .ok (.lastore, 1) := by decide +kernel
theorem dX12_summedUp_213 : decode cX12_summedUp 213 = .ok (.goto 187, 3) := by decide +kernel
theorem dX12_summedUp_216 : decode cX12_summedUp 216 = .ok (.iload 8, 2) := by decide +kernel
theorem dX12_summedUp_218 : decode cX12_summedUp 218 = .ok (.bipush 10, 2) := by decide +kernel
theorem dX12_summedUp_220 : decode cX12_summedUp 220 = .ok (.if_icmp .ge 67, 3) := by decide +kernel
theorem dX12_summedUp_223 : decode cX12_summedUp 223 = .ok (.iinc 5 (-1), 3) := by decide +kernel
theorem dX12_summedUp_226 : decode cX12_summedUp 226 = .ok (.aload_n 0, 1) := by decide +kernel
theorem dX12_summedUp_227 : decode cX12_summedUp 227 = .ok (.getfield 41, 3) := by decide +kernel
theorem dX12_summedUp_230 : decode cX12_summedUp 230 = .ok (.iload 5, 2) := by decide +kernel
theorem dX12_summedUp_232 : decode cX12_summedUp 232 = .ok (.iconst 1, 1) := by decide +kernel
theorem dX12_summedUp_233 : decode cX12_summedUp 233 = .ok (.isub, 1) := by decide +kernel
theorem dX12_summedUp_234 : decode cX12_summedUp 234 = .ok (.iload 8, 2) := by decide +kernel
theorem dX12_summedUp_236 : decode cX12_summedUp 236 = .ok (.iconst 4, 1) := by decide +kernel
theorem dX12_summedUp_237 : decode cX12_summedUp 237 = .ok (.if_icmp .ne 25, 3) := by decide +kernel
theorem dX12_summedUp_240 : decode cX12_summedUp 240 = .ok (.aload_n 0, 1) := by decide +kernel
theorem dX12_summedUp_241 : decode cX12_summedUp 241 = .ok (.getfield 41, 3) := by decide +kernel
theorem dX12_summedUp_244 : decode cX12_summedUp 244 = .ok (.iload 5, 2) := by decide +kernel
theorem dX12_summedUp_246 : decode cX12_summedUp 246 = .ok (.iconst 1, 1) := by decide +kernel
theorem dX12_summedUp_247 : decode cX12_summedUp 247 = .ok (.isub, 1) := by decide +kernel
theorem dX12_summedUp_248 : decode cX12_summedUp 248 = .ok (.laload, 1) := by decide +kernel
theorem dX12_summedUp_249 : decode cX12_summedUp 249 = .ok (.aload_n 0, 1) := by decide +kernel
theorem dX12_summedUp_250 : decode cX12_summedUp 250 = .ok (.getfield 41, 3) := by decide +kernel
theorem dX12_summedUp_253 : decode cX12_summedUp 253 = .ok (.iload 5, 2) := by decide +kernel
theorem dX12_summedUp_255 : decode cX12_summedUp 255 = .ok (.laload, 1) := by decide +kernel
theorem dX12_summedUp_256 : decode cX12_summedUp 256 = .ok (.invokestatic 290, 3) := by decide +kernel
theorem dX12_summedUp_259 : decode cX12_summedUp 259 = .ok (.goto 24, 3) := by decide +kernel
theorem dX12_summedUp_262 : decode cX12_summedUp 262 = .ok (.iload 8, 2) := by decide +kernel
theorem dX12_summedUp_264 : decode cX12_summedUp 264 = .ok (.aload_n 0, 1) := by decide +kernel
theorem dX12_summedUp_265 : decode cX12_summedUp 265 = .ok (.getfield 41, 3) := by decide +kernel
theorem dX12_summedUp_268 : decode cX12_summedUp 268 = .ok (.iload 5, 2) := by decide +kernel
theorem dX12_summedUp_270 : decode cX12_summedUp 270 = .ok (.iconst 1, 1) := by decide +kernel
theorem dX12_summedUp_271 : decode cX12_summedUp 271 = .ok (.isub, 1) := by decide +kernel
theorem dX12_summedUp_272 : decode cX12_summedUp 272 = .ok (.laload, 1) := by decide +kernel
theorem dX12_summedUp_273 : decode cX12_summedUp 273 = .ok (.aload_n 0, 1) := by decide +kernel
theorem dX12_summedUp_274 : decode cX12_summedUp 274 = .ok (.getfield 41, 3) := by decide +kernel
theorem dX12_summedUp_277 : decode cX12_summedUp 277 = .ok (.iload 5, 2) := by decide +kernel
theorem dX12_summedUp_279 : decode cX12_summedUp 279 = .ok (.laload, 1) := by decide +kernel
theorem dX12_summedUp_280 : decode cX12_summedUp 280 = .ok (.invokestatic 294, 3) := by decide +kernel
theorem dX12_summedUp_283 : decode cX12_summedUp 283 = .ok (.lastore, 1) := by decide +kernel
theorem dX12_summedUp_284 : decode cX12_summedUp 284 = .ok (.goto 116, 3) := by decide +kernel
theorem dX12_summedUp_287 : decode cX12_summedUp 287 = .ok (.iload 8, 2) := by decide +kernel
theorem dX12_summedUp_289 : decode cX12_summedUp 289 = .ok (.bipush 20, 2) := by decide +kernel
theorem dX12_summedUp_291 : decode cX12_summedUp 291 = .ok (.if_icmp .ge 40, 3) := by decide +kernel
theorem dX12_summedUp_294 : decode cX12_summedUp 294 = .ok (.iinc 5 (-2), 3) := by decide +kernel
theorem dX12_summedUp_297 : decode cX12_summedUp 297 = .ok (.aload_n 0, 1) := by decide +kernel
theorem dX12_summedUp_298 : decode cX12_summedUp 298 = .ok (.getfield 45, 3) := by decide +kernel
theorem dX12_summedUp_301 : decode cX12_summedUp 301 = .ok (.iload 6, 2) := by decide +kernel
theorem dX12_summedUp_303 : decode cX12_summedUp 303 = .ok (.iload 8, 2) := by decide +kernel
theorem dX12_summedUp_305 : decode cX12_summedUp 305 = .ok (.aload_n 0, 1) := by decide +kernel
theorem dX12_summedUp_306 : decode cX12_summedUp 306 = .ok (.getfield 41, 3) := by decide +kernel
theorem dX12_summedUp_309 : decode cX12_summedUp 309 = .ok (.iload 5, 2) := by decide +kernel
theorem dX12_summedUp_311 : decode cX12_summedUp 311 = .ok (.laload, 1) := by decide +kernel
theorem dX12_summedUp_312 : decode cX12_summedUp 312 = .ok (.aload_n 0, 1) := by decide +kernel
theorem dX12_summedUp_313 : decode cX12_summedUp 313 = .ok (.getfield 41, 3) := by decide +kernel
theorem dX12_summedUp_316 : decode cX12_summedUp 316 = .ok (.iload 5, 2) := by decide +kernel
theorem dX12_summedUp_318 : decode cX12_summedUp 318 = .ok (.iconst 1, 1) := by decide +kernel
theorem dX12_summedUp_319 : decode cX12_summedUp 319 = .ok (.iadd, 1) := by decide +kernel
theorem dX12_summedUp_320 : decode cX12_summedUp 320 = .ok (.laload, 1) := by decide +kernel
theorem dX12_summedUp_321 : decode cX12_summedUp 321 = .ok (.invokestatic 298, 3) := by decide +kernel
theorem dX12_summedUp_324 : decode cX12_summedUp 324 = .ok (.bastore, 1) := by decide +kernel
theorem dX12_summedUp_325 : decode cX12_summedUp 325 = .ok (.iinc 6 1, 3) := by decide +kernel
theorem dX12_summedUp_328 : decode cX12_summedUp 328 = .ok (.goto 72, 3) := by decide +kernel
theorem dX12_summedUp_331 : decode cX12_summedUp 331 = .ok (.iload 8, 2) := by decide +kernel
theorem dX12_summedUp_333 : decode cX12_summedUp 333 = .ok (.bipush 20, 2) := by decide +kernel
theorem dX12_summedUp_335 : decode cX12_summedUp 335 = .ok (.if_icmp .ne 32, 3) := by decide +kernel
theorem dX12_summedUp_338 : decode cX12_summedUp 338 = .ok (.aload_n 0, 1) := by decide +kernel
theorem dX12_summedUp_339 : decode cX12_summedUp 339 = .ok (.getfield 45, 3) := by decide +kernel
theorem dX12_summedUp_342 : decode cX12_summedUp 342 = .ok (.iload 6, 2) := by decide +kernel
theorem dX12_summedUp_344 : decode cX12_summedUp 344 = .ok (.iconst 1, 1) := by decide +kernel
theorem dX12_summedUp_345 : decode cX12_summedUp 345 = .ok (.isub, 1) := by decide +kernel
theorem dX12_summedUp_346 : decode cX12_summedUp 346 = .ok (.aload_n 0, 1) := by decide +kernel
theorem dX12_summedUp_347 : decode cX12_summedUp 347 = .ok (.getfield 45, 3) := by decide +kernel
theorem dX12_summedUp_350 : decode cX12_summedUp 350 = .ok (.iload 6, 2) := by decide +kernel
theorem dX12_summedUp_352 : decode cX12_summedUp 352 = .ok (.iconst 1, 1) := by decide +kernel
theorem dX12_summedUp_353 : decode cX12_summedUp 353 = .ok (.isub, 1) := by decide +kernel
theorem dX12_summedUp_354 : decode cX12_summedUp 354 = .ok (.baload, 1) := by decide +kernel
theorem dX12_summedUp_355 : decode cX12_summedUp 355 = .ok (.ifCond .ne 7, 3) := by decide +kernel
theorem dX12_summedUp_358 : decode cX12_summedUp 358 = .ok (.iconst 1, 1) := by decide +kernel
theorem dX12_summedUp_359 : decode cX12_summedUp 359 = .ok (.goto 4, 3) := by decide +kernel
theorem dX12_summedUp_362 : decode cX12_summedUp 362 = .ok (.iconst 0, 1) := by decide +kernel
theorem dX12_summedUp_363 : decode cX12_summedUp 363 = .ok (.bastore, 1) := by decide +kernel
theorem dX12_summedUp_364 : decode cX12_summedUp 364 = .ok (.goto 36, 3) := by decide +kernel
theorem dX12_summedUp_367 : decode cX12_summedUp 367 = .ok (.iinc 6 (-1), 3) := by decide +kernel
theorem dX12_summedUp_370 : decode cX12_summedUp 370 = .ok (.aload_n 0, 1) := by decide +kernel
theorem dX12_summedUp_371 : decode cX12_summedUp 371 = .ok (.getfield 45, 3) := by decide +kernel
theorem dX12_summedUp_374 : decode cX12_summedUp 374 = .ok (.iload 6, 2) := by decide +kernel
theorem dX12_summedUp_376 : decode cX12_summedUp 376 = .ok (.iconst 1, 1) := by decide +kernel
theorem dX12_summedUp_377 : decode cX12_summedUp 377 = .ok (.isub, 1) := by decide +kernel
theorem dX12_summedUp_378 : decode cX12_summedUp 378 = .ok (.iload 8, 2) := by decide +kernel
theorem dX12_summedUp_380 : decode cX12_summedUp 380 = .ok (.aload_n 0, 1) := by decide +kernel
theorem dX12_summedUp_381 : decode cX12_summedUp 381 = .ok (.getfield 45, 3) := by decide +kernel
theorem dX12_summedUp_384 : decode cX12_summedUp 384 = .ok (.iload 6, 2) := by decide +kernel
theorem dX12_summedUp_386 : decode cX12_summedUp 386 = .ok (.iconst 1, 1) := by decide +kernel
theorem dX12_summedUp_387 : decode cX12_summedUp 387 = .ok (.isub, 1) := by decide +kernel
theorem dX12_summedUp_388 : decode cX12_summedUp 388 = .ok (.baload, 1) := by decide +kernel
theorem dX12_summedUp_389 : decode cX12_summedUp 389 = .ok (.aload_n 0, 1) := by decide +kernel
theorem dX12_summedUp_390 : decode cX12_summedUp 390 = .ok (.getfield 45, 3) := by decide +kernel
theorem dX12_summedUp_393 : decode cX12_summedUp 393 = .ok (.iload 6, 2) := by decide +kernel
theorem dX12_summedUp_395 : decode cX12_summedUp 395 = .ok (.baload, 1) := by decide +kernel
theorem dX12_summedUp_396 : decode cX12_summedUp 396 = .ok (.invokestatic 302, 3) := by decide +kernel
theorem dX12_summedUp_399 : decode cX12_summedUp 399 = .ok (.bastore, 1) := by decide +kernel
theorem dX12_summedUp_400 : decode cX12_summedUp 400 = .ok (.iinc 7 1, 3) := by decide +kernel
theorem dX12_summedUp_403 : decode cX12_summedUp 403 = .ok (.goto (-365), 3) := by decide +kernel
theorem dX12_summedUp_406 : decode cX12_summedUp 406 = .ok (.aload_n 0, 1) := by decide +kernel
theorem dX12_summedUp_407 : decode cX12_summedUp 407 = .ok (.getfield 41, 3) := by decide +kernel
theorem dX12_summedUp_410 : decode cX12_summedUp 410 = .ok (.iconst 0, 1) := by decide +kernel
theorem dX12_summedUp_411 : decode cX12_summedUp 411 = .ok (.laload, 1) := by decide +kernel
theorem dX12_summedUp_412 : decode cX12_summedUp 412 = .ok (.lreturn, 1) := by decide +kernel
set_option maxRecDepth 20000 in
theorem ggX12_says_X12_summedUp : GoodIn wsX12_says wsX12_summedUp := goodIn_r _ [6, 1, 7, 8, 9, 10, 11, 12, 5, 13, 14, 15, 16, 17, 18, 19, 20, 21, 22, 23, 24, 25, 26, 27, 28, 29, 30, 31, 32, 33, 34, 35, 39, 40, 41, 42, 43, 44, 45, 46, 47, 48, 49, 50, 51, 52, 53, 54, 55, 56, 57, 58, 59, 60, 61, 62, 63, 64, 65, 66, 67, 68, 69, 70, 71, 72, 73, 74] (by decide +kernel) (by decide +kernel)
set_option maxRecDepth 20000 in
theorem gX12_says_X12_summedUp : GoodIn wsX12_says (wsV RX12 306 RX12 yX12_summedUp wsX12_summedUp) := goodIn_app (goodIn_of _ (by decide +kernel)) ggX12_says_X12_summedUp
set_option maxRecDepth 20000 in
theorem ggX12_says_X12_cut : GoodIn wsX12_says wsX12_cut := goodIn_r _ [38] (by decide +kernel) (by decide +kernel)
set_option maxRecDepth 20000 in
theorem gX12_says_X12_cut : GoodIn wsX12_says (va_wsS RX12 309 yX12_cut wsX12_cut) := goodIn_app (goodIn_of _ (by decide +kernel)) ggX12_says_X12_cut
theorem dX12_says_0 : decode cX12_says 0 = .ok (.iconst 0, 1) := by decide +kernel
theorem dX12_says_1 : decode cX12_says 1 = .ok (.istore 4, 2) := by decide +kernel
theorem dX12_says_3 : decode cX12_says 3 = .ok (.iload_n 1, 1) := by decide +kernel
theorem dX12_says_4 : decode cX12_says 4 = .ok (.ifCond .lt 62, 3) := by decide +kernel
theorem dX12_says_7 : decode cX12_says 7 = .ok (.iload 4, 2) := by decide +kernel
theorem dX12_says_9 : decode cX12_says 9 = .ok (.aload_n 0, 1) := by decide +kernel
theorem dX12_says_10 : decode cX12_says 10 = .ok (.getfield 16, 3) := by decide +kernel
theorem dX12_says_13 : decode cX12_says 13 = .ok (.sipush 681, 3) := by decide +kernel
theorem dX12_says_16 : decode cX12_says 16 = .ok (.iload_n 1, 1) := by decide +kernel
theorem dX12_says_17 : decode cX12_says 17 = .ok (.imul, 1) := by decide +kernel
theorem dX12_says_18 : decode cX12_says 18 = .ok (.iaload, 1) := by decide +kernel
theorem dX12_says_19 : decode cX12_says 19 = .ok (.if_icmp .ge 47, 3) := by decide +kernel
theorem dX12_says_22 : decode cX12_says 22 = .ok (.aload_n 0, 1) := by decide +kernel
theorem dX12_says_23 : decode cX12_says 23 = .ok (.getfield 16, 3) := by decide +kernel
theorem dX12_says_26 : decode cX12_says 26 = .ok (.sipush 681, 3) := by decide +kernel
theorem dX12_says_29 : decode cX12_says 29 = .ok (.iload_n 1, 1) := by decide +kernel
theorem dX12_says_30 : decode cX12_says 30 = .ok (.imul, 1) := by decide +kernel
theorem dX12_says_31 : decode cX12_says 31 = .ok (.iconst 1, 1) := by decide +kernel
theorem dX12_says_32 : decode cX12_says 32 = .ok (.iadd, 1) := by decide +kernel
theorem dX12_says_33 : decode cX12_says 33 = .ok (.iconst 3, 1) := by decide +kernel
theorem dX12_says_34 : decode cX12_says 34 = .ok (.iload 4, 2) := by decide +kernel
theorem dX12_says_36 : decode cX12_says 36 = .ok (.imul, 1) := by decide +kernel
theorem dX12_says_37 : decode cX12_says 37 = .ok (.iadd, 1) := by decide +kernel
theorem dX12_says_38 : decode cX12_says 38 = .ok (.iaload, 1) := by decide +kernel
theorem dX12_says_39 : decode cX12_says 39 = .ok (.iload_n 2, 1) := by decide +kernel
theorem dX12_says_40 : decode cX12_says 40 = .ok (.if_icmp .ne 20, 3) := by decide +kernel
theorem dX12_says_43 : decode cX12_says 43 = .ok (.aload_n 0, 1) := by decide +kernel
theorem dX12_says_44 : decode cX12_says 44 = .ok (.iload_n 1, 1) := by decide +kernel
theorem dX12_says_45 : decode cX12_says 45 = .ok (.iload 4, 2) := by decide +kernel
theorem dX12_says_47 : decode cX12_says 47 = .ok (.invokevirtual 306, 3) := by decide +kernel
theorem dX12_says_50 : decode cX12_says 50 = .ok (.sipush (-999), 3) := by decide +kernel
theorem dX12_says_53 : decode cX12_says 53 = .ok (.sipush 999, 3) := by decide +kernel
theorem dX12_says_56 : decode cX12_says 56 = .ok (.invokestatic 309, 3) := by decide +kernel
theorem dX12_says_59 : decode cX12_says 59 = .ok (.ireturn, 1) := by decide +kernel
theorem dX12_says_60 : decode cX12_says 60 = .ok (.iinc 4 1, 3) := by decide +kernel
theorem dX12_says_63 : decode cX12_says 63 = .ok (.goto (-60), 3) := by decide +kernel
theorem dX12_says_66 : decode cX12_says 66 = .ok (.iload_n 3, 1) := by decide +kernel
theorem dX12_says_67 : decode cX12_says 67 = .ok (.i2l, 1) := by decide +kernel
theorem dX12_says_68 : decode cX12_says 68 = .ok (.sipush (-999), 3) := by decide +kernel
theorem dX12_says_71 : decode cX12_says 71 = .ok (.sipush 999, 3) := by decide +kernel
theorem dX12_says_74 : decode cX12_says 74 = .ok (.invokestatic 309, 3) := by decide +kernel
theorem dX12_says_77 : decode cX12_says 77 = .ok (.ireturn, 1) := by decide +kernel
set_option maxRecDepth 20000 in
theorem ggX12_name_X12_layLows : GoodIn wsX12_name wsX12_layLows := goodIn_r _ [7, 8, 2, 9, 10, 11, 6, 12, 20, 21, 22, 23, 24, 25, 26, 27, 28, 29, 30, 31, 32, 33, 34, 35, 36, 37, 38, 39, 40, 41, 42, 43, 44, 45, 46, 47, 48, 49, 50, 51, 52, 53, 54, 55] (by decide +kernel) (by decide +kernel)
set_option maxRecDepth 20000 in
theorem gX12_name_X12_layLows : GoodIn wsX12_name (wsV RX12 313 RX12 yX12_layLows wsX12_layLows) := goodIn_app (goodIn_of _ (by decide +kernel)) ggX12_name_X12_layLows
set_option maxRecDepth 20000 in
theorem ggX12_name_X12_get : GoodIn wsX12_name wsX12_get := goodIn_r _ [16, 2, 20, 21, 22, 23, 24, 25, 26, 27, 28, 29, 30, 31, 32, 33, 34, 35, 36, 37, 38, 39, 40, 41, 42, 43, 44, 45, 46, 47, 48, 49, 50, 51, 52, 53, 54, 55] (by decide +kernel) (by decide +kernel)
set_option maxRecDepth 20000 in
theorem gX12_name_X12_get : GoodIn wsX12_name (wsV RX12 92 RX12 yX12_get wsX12_get) := goodIn_app (goodIn_of _ (by decide +kernel)) ggX12_name_X12_get
set_option maxRecDepth 20000 in
theorem ggX12_name_X12_bits : GoodIn wsX12_name wsX12_bits := goodIn_r _ [19] (by decide +kernel) (by decide +kernel)
set_option maxRecDepth 20000 in
theorem gX12_name_X12_bits : GoodIn wsX12_name (va_wsS RX12 284 yX12_bits wsX12_bits) := goodIn_app (goodIn_of _ (by decide +kernel)) ggX12_name_X12_bits
theorem dX12_name_0 : decode cX12_name 0 = .ok (.aload_n 0, 1) := by decide +kernel
theorem dX12_name_1 : decode cX12_name 1 = .ok (.invokevirtual 313, 3) := by decide +kernel
theorem dX12_name_4 : decode cX12_name 4 = .ok (.aload_n 0, 1) := by decide +kernel
theorem dX12_name_5 : decode cX12_name 5 = .ok (.getfield 38, 3) := by decide +kernel
theorem dX12_name_8 : decode cX12_name 8 = .ok (.iconst 0, 1) := by decide +kernel
theorem dX12_name_9 : decode cX12_name 9 = .ok (.aload_n 0, 1) := by decide +kernel
theorem dX12_name_10 : decode cX12_name 10 = .ok (.getfield 7, 3) := by decide +kernel
theorem dX12_name_13 : decode cX12_name 13 = .ok (.iconst 5, 1) := by decide +kernel
theorem dX12_name_14 : decode cX12_name 14 = .ok (.iaload, 1) := by decide +kernel
theorem dX12_name_15 : decode cX12_name 15 = .ok (.iastore, 1) := by decide +kernel
theorem dX12_name_16 : decode cX12_name 16 = .ok (.aload_n 0, 1) := by decide +kernel
theorem dX12_name_17 : decode cX12_name 17 = .ok (.getfield 38, 3) := by decide +kernel
theorem dX12_name_20 : decode cX12_name 20 = .ok (.iconst 1, 1) := by decide +kernel
theorem dX12_name_21 : decode cX12_name 21 = .ok (.iload_n 1, 1) := by decide +kernel
theorem dX12_name_22 : decode cX12_name 22 = .ok (.iastore, 1) := by decide +kernel
theorem dX12_name_23 : decode cX12_name 23 = .ok (.aload_n 0, 1) := by decide +kernel
theorem dX12_name_24 : decode cX12_name 24 = .ok (.getfield 38, 3) := by decide +kernel
theorem dX12_name_27 : decode cX12_name 27 = .ok (.iconst 2, 1) := by decide +kernel
theorem dX12_name_28 : decode cX12_name 28 = .ok (.aload_n 0, 1) := by decide +kernel
theorem dX12_name_29 : decode cX12_name 29 = .ok (.iload_n 1, 1) := by decide +kernel
theorem dX12_name_30 : decode cX12_name 30 = .ok (.iconst 2, 1) := by decide +kernel
theorem dX12_name_31 : decode cX12_name 31 = .ok (.invokevirtual 92, 3) := by decide +kernel
theorem dX12_name_34 : decode cX12_name 34 = .ok (.iastore, 1) := by decide +kernel
theorem dX12_name_35 : decode cX12_name 35 = .ok (.aload_n 0, 1) := by decide +kernel
theorem dX12_name_36 : decode cX12_name 36 = .ok (.getfield 38, 3) := by decide +kernel
theorem dX12_name_39 : decode cX12_name 39 = .ok (.iconst 3, 1) := by decide +kernel
theorem dX12_name_40 : decode cX12_name 40 = .ok (.aload_n 0, 1) := by decide +kernel
theorem dX12_name_41 : decode cX12_name 41 = .ok (.iload_n 1, 1) := by decide +kernel
theorem dX12_name_42 : decode cX12_name 42 = .ok (.iconst 4, 1) := by decide +kernel
theorem dX12_name_43 : decode cX12_name 43 = .ok (.invokevirtual 92, 3) := by decide +kernel
theorem dX12_name_46 : decode cX12_name 46 = .ok (.iastore, 1) := by decide +kernel
theorem dX12_name_47 : decode cX12_name 47 = .ok (.aload_n 0, 1) := by decide +kernel
theorem dX12_name_48 : decode cX12_name 48 = .ok (.getfield 38, 3) := by decide +kernel
theorem dX12_name_51 : decode cX12_name 51 = .ok (.iconst 4, 1) := by decide +kernel
theorem dX12_name_52 : decode cX12_name 52 = .ok (.aload_n 0, 1) := by decide +kernel
theorem dX12_name_53 : decode cX12_name 53 = .ok (.iload_n 1, 1) := by decide +kernel
theorem dX12_name_54 : decode cX12_name 54 = .ok (.iconst 3, 1) := by decide +kernel
theorem dX12_name_55 : decode cX12_name 55 = .ok (.invokevirtual 92, 3) := by decide +kernel
theorem dX12_name_58 : decode cX12_name 58 = .ok (.iastore, 1) := by decide +kernel
theorem dX12_name_59 : decode cX12_name 59 = .ok (.aload_n 0, 1) := by decide +kernel
theorem dX12_name_60 : decode cX12_name 60 = .ok (.getfield 38, 3) := by decide +kernel
theorem dX12_name_63 : decode cX12_name 63 = .ok (.iconst 5, 1) := by decide +kernel
theorem dX12_name_64 : decode cX12_name 64 = .ok (.aload_n 0, 1) := by decide +kernel
theorem dX12_name_65 : decode cX12_name 65 = .ok (.iload_n 1, 1) := by decide +kernel
theorem dX12_name_66 : decode cX12_name 66 = .ok (.iconst 0, 1) := by decide +kernel
theorem dX12_name_67 : decode cX12_name 67 = .ok (.invokevirtual 92, 3) := by decide +kernel
theorem dX12_name_70 : decode cX12_name 70 = .ok (.iastore, 1) := by decide +kernel
theorem dX12_name_71 : decode cX12_name 71 = .ok (.aload_n 0, 1) := by decide +kernel
theorem dX12_name_72 : decode cX12_name 72 = .ok (.getfield 38, 3) := by decide +kernel
theorem dX12_name_75 : decode cX12_name 75 = .ok (.bipush 6, 2) := by decide +kernel
theorem dX12_name_77 : decode cX12_name 77 = .ok (.aload_n 0, 1) := by decide +kernel
theorem dX12_name_78 : decode cX12_name 78 = .ok (.iload_n 1, 1) := by decide +kernel
theorem dX12_name_79 : decode cX12_name 79 = .ok (.iconst 5, 1) := by decide +kernel
theorem dX12_name_80 : decode cX12_name 80 = .ok (.invokevirtual 92, 3) := by decide +kernel
theorem dX12_name_83 : decode cX12_name 83 = .ok (.invokestatic 284, 3) := by decide +kernel
theorem dX12_name_86 : decode cX12_name 86 = .ok (.iastore, 1) := by decide +kernel
theorem dX12_name_87 : decode cX12_name 87 = .ok (.return_, 1) := by decide +kernel
set_option maxRecDepth 20000 in
theorem ggX12_tellsOf_X12_name : GoodIn wsX12_tellsOf wsX12_name := goodIn_r _ [8, 1, 2, 9, 10, 11, 7, 12, 13, 3, 14, 15, 16, 17, 18, 19, 20, 21, 22, 23, 60, 61, 62, 63, 64, 65, 66, 67, 68, 69, 70, 71, 72, 73, 74, 75, 76, 77, 78, 79, 80, 81, 82, 83, 84, 85, 86, 87, 88, 89, 90, 91, 92, 93, 94, 95] (by decide +kernel) (by decide +kernel)
set_option maxRecDepth 20000 in
theorem gX12_tellsOf_X12_name : GoodIn wsX12_tellsOf (wsV RX12 316 RX12 yX12_name wsX12_name) := goodIn_app (goodIn_of _ (by decide +kernel)) ggX12_tellsOf_X12_name
set_option maxRecDepth 20000 in
theorem ggX12_tellsOf_X12_says : GoodIn wsX12_tellsOf wsX12_says := goodIn_r _ [27, 28, 29, 30, 31, 7, 32, 33, 1, 34, 35, 36, 37, 38, 39, 13, 21, 22, 23, 40, 41, 42, 43, 44, 45, 46, 47, 48, 49, 50, 51, 52, 53, 54, 55, 56, 57, 58, 59, 60, 61, 62, 63, 64, 65, 66, 67, 68, 69, 70, 71, 72, 73, 74, 75, 76, 77, 78, 79, 80, 81, 82, 83, 84, 85, 86, 87, 88, 89, 90, 91, 92, 93, 94, 95] (by decide +kernel) (by decide +kernel)
set_option maxRecDepth 20000 in
theorem gX12_tellsOf_X12_says : GoodIn wsX12_tellsOf (wsV RX12 319 RX12 yX12_says wsX12_says) := goodIn_app (goodIn_of _ (by decide +kernel)) ggX12_tellsOf_X12_says
theorem dX12_tellsOf_0 : decode cX12_tellsOf 0 = .ok (.aload_n 0, 1) := by decide +kernel
theorem dX12_tellsOf_1 : decode cX12_tellsOf 1 = .ok (.iload_n 1, 1) := by decide +kernel
theorem dX12_tellsOf_2 : decode cX12_tellsOf 2 = .ok (.invokevirtual 316, 3) := by decide +kernel
theorem dX12_tellsOf_5 : decode cX12_tellsOf 5 = .ok (.aload_n 0, 1) := by decide +kernel
theorem dX12_tellsOf_6 : decode cX12_tellsOf 6 = .ok (.getfield 38, 3) := by decide +kernel
theorem dX12_tellsOf_9 : decode cX12_tellsOf 9 = .ok (.bipush 7, 2) := by decide +kernel
theorem dX12_tellsOf_11 : decode cX12_tellsOf 11 = .ok (.iload_n 2, 1) := by decide +kernel
theorem dX12_tellsOf_12 : decode cX12_tellsOf 12 = .ok (.iastore, 1) := by decide +kernel
theorem dX12_tellsOf_13 : decode cX12_tellsOf 13 = .ok (.aload_n 0, 1) := by decide +kernel
theorem dX12_tellsOf_14 : decode cX12_tellsOf 14 = .ok (.getfield 38, 3) := by decide +kernel
theorem dX12_tellsOf_17 : decode cX12_tellsOf 17 = .ok (.bipush 8, 2) := by decide +kernel
theorem dX12_tellsOf_19 : decode cX12_tellsOf 19 = .ok (.aload_n 0, 1) := by decide +kernel
theorem dX12_tellsOf_20 : decode cX12_tellsOf 20 = .ok (.getfield 7, 3) := by decide +kernel
theorem dX12_tellsOf_23 : decode cX12_tellsOf 23 = .ok (.bipush 49, 2) := by decide +kernel
theorem dX12_tellsOf_25 : decode cX12_tellsOf 25 = .ok (.iload_n 2, 1) := by decide +kernel
theorem dX12_tellsOf_26 : decode cX12_tellsOf 26 = .ok (.iadd, 1) := by decide +kernel
theorem dX12_tellsOf_27 : decode cX12_tellsOf 27 = .ok (.iaload, 1) := by decide +kernel
theorem dX12_tellsOf_28 : decode cX12_tellsOf 28 = .ok (.iastore, 1) := by decide +kernel
theorem dX12_tellsOf_29 : decode cX12_tellsOf 29 = .ok (.aload_n 0, 1) := by decide +kernel
theorem dX12_tellsOf_30 : decode cX12_tellsOf 30 = .ok (.getfield 38, 3) := by decide +kernel
theorem dX12_tellsOf_33 : decode cX12_tellsOf 33 = .ok (.bipush 9, 2) := by decide +kernel
theorem dX12_tellsOf_35 : decode cX12_tellsOf 35 = .ok (.aload_n 0, 1) := by decide +kernel
theorem dX12_tellsOf_36 : decode cX12_tellsOf 36 = .ok (.getfield 22, 3) := by decide +kernel
theorem dX12_tellsOf_39 : decode cX12_tellsOf 39 = .ok (.iload_n 2, 1) := by decide +kernel
theorem dX12_tellsOf_40 : decode cX12_tellsOf 40 = .ok (.iaload, 1) := by decide +kernel
theorem dX12_tellsOf_41 : decode cX12_tellsOf 41 = .ok (.iastore, 1) := by decide +kernel
theorem dX12_tellsOf_42 : decode cX12_tellsOf 42 = .ok (.aload_n 0, 1) := by decide +kernel
theorem dX12_tellsOf_43 : decode cX12_tellsOf 43 = .ok (.aload_n 0, 1) := by decide +kernel
theorem dX12_tellsOf_44 : decode cX12_tellsOf 44 = .ok (.getfield 7, 3) := by decide +kernel
theorem dX12_tellsOf_47 : decode cX12_tellsOf 47 = .ok (.iconst 2, 1) := by decide +kernel
theorem dX12_tellsOf_48 : decode cX12_tellsOf 48 = .ok (.iaload, 1) := by decide +kernel
theorem dX12_tellsOf_49 : decode cX12_tellsOf 49 = .ok (.iconst 0, 1) := by decide +kernel
theorem dX12_tellsOf_50 : decode cX12_tellsOf 50 = .ok (.aload_n 0, 1) := by decide +kernel
theorem dX12_tellsOf_51 : decode cX12_tellsOf 51 = .ok (.getfield 38, 3) := by decide +kernel
theorem dX12_tellsOf_54 : decode cX12_tellsOf 54 = .ok (.bipush 8, 2) := by decide +kernel
theorem dX12_tellsOf_56 : decode cX12_tellsOf 56 = .ok (.iaload, 1) := by decide +kernel
theorem dX12_tellsOf_57 : decode cX12_tellsOf 57 = .ok (.invokevirtual 319, 3) := by decide +kernel
theorem dX12_tellsOf_60 : decode cX12_tellsOf 60 = .ok (.ireturn, 1) := by decide +kernel
set_option maxRecDepth 20000 in
theorem ggX12_needsOf_X12_name : GoodIn wsX12_needsOf wsX12_name := goodIn_r _ [6, 1, 7, 8, 9, 10, 5, 11, 12, 13, 14, 15, 16, 17, 18, 19, 20, 21, 22, 23, 60, 61, 62, 63, 64, 65, 66, 67, 68, 69, 70, 71, 72, 73, 74, 75, 76, 77, 78, 79, 80, 81, 82, 83, 84, 85, 86, 87, 88, 89, 90, 91, 92, 93, 94, 95] (by decide +kernel) (by decide +kernel)
set_option maxRecDepth 20000 in
theorem gX12_needsOf_X12_name : GoodIn wsX12_needsOf (wsV RX12 316 RX12 yX12_name wsX12_name) := goodIn_app (goodIn_of _ (by decide +kernel)) ggX12_needsOf_X12_name
set_option maxRecDepth 20000 in
theorem ggX12_needsOf_X12_says : GoodIn wsX12_needsOf wsX12_says := goodIn_r _ [27, 28, 29, 30, 31, 5, 32, 33, 1, 34, 35, 36, 37, 38, 39, 12, 21, 22, 23, 40, 41, 42, 43, 44, 45, 46, 47, 48, 49, 50, 51, 52, 53, 54, 55, 56, 57, 58, 59, 60, 61, 62, 63, 64, 65, 66, 67, 68, 69, 70, 71, 72, 73, 74, 75, 76, 77, 78, 79, 80, 81, 82, 83, 84, 85, 86, 87, 88, 89, 90, 91, 92, 93, 94, 95] (by decide +kernel) (by decide +kernel)
set_option maxRecDepth 20000 in
theorem gX12_needsOf_X12_says : GoodIn wsX12_needsOf (wsV RX12 319 RX12 yX12_says wsX12_says) := goodIn_app (goodIn_of _ (by decide +kernel)) ggX12_needsOf_X12_says
theorem dX12_needsOf_0 : decode cX12_needsOf 0 = .ok (.aload_n 0, 1) := by decide +kernel
theorem dX12_needsOf_1 : decode cX12_needsOf 1 = .ok (.iload_n 2, 1) := by decide +kernel
theorem dX12_needsOf_2 : decode cX12_needsOf 2 = .ok (.invokevirtual 316, 3) := by decide +kernel
theorem dX12_needsOf_5 : decode cX12_needsOf 5 = .ok (.aload_n 0, 1) := by decide +kernel
theorem dX12_needsOf_6 : decode cX12_needsOf 6 = .ok (.iload_n 1, 1) := by decide +kernel
theorem dX12_needsOf_7 : decode cX12_needsOf 7 = .ok (.iconst 1, 1) := by decide +kernel
theorem dX12_needsOf_8 : decode cX12_needsOf 8 = .ok (.aload_n 0, 1) := by decide +kernel
theorem dX12_needsOf_9 : decode cX12_needsOf 9 = .ok (.getfield 38, 3) := by decide +kernel
theorem dX12_needsOf_12 : decode cX12_needsOf 12 = .ok (.iconst 2, 1) := by decide +kernel
theorem dX12_needsOf_13 : decode cX12_needsOf 13 = .ok (.iaload, 1) := by decide +kernel
theorem dX12_needsOf_14 : decode cX12_needsOf 14 = .ok (.iconst 2, 1) := by decide +kernel
theorem dX12_needsOf_15 : decode cX12_needsOf 15 = .ok (.aload_n 0, 1) := by decide +kernel
theorem dX12_needsOf_16 : decode cX12_needsOf 16 = .ok (.getfield 38, 3) := by decide +kernel
theorem dX12_needsOf_19 : decode cX12_needsOf 19 = .ok (.iconst 3, 1) := by decide +kernel
theorem dX12_needsOf_20 : decode cX12_needsOf 20 = .ok (.iaload, 1) := by decide +kernel
theorem dX12_needsOf_21 : decode cX12_needsOf 21 = .ok (.imul, 1) := by decide +kernel
theorem dX12_needsOf_22 : decode cX12_needsOf 22 = .ok (.isub, 1) := by decide +kernel
theorem dX12_needsOf_23 : decode cX12_needsOf 23 = .ok (.invokevirtual 319, 3) := by decide +kernel
theorem dX12_needsOf_26 : decode cX12_needsOf 26 = .ok (.ireturn, 1) := by decide +kernel
set_option maxRecDepth 20000 in
theorem ggX12_nextOf_X12_get : GoodIn wsX12_nextOf wsX12_get := goodIn_r _ [6, 1, 64, 65, 66, 67, 68, 69, 70, 71, 72, 73, 74, 75, 76, 77, 78, 79, 80, 81, 82, 83, 84, 85, 86, 87, 88, 89, 90, 91, 92, 93, 94, 95, 96, 97, 98, 99] (by decide +kernel) (by decide +kernel)
set_option maxRecDepth 20000 in
theorem gX12_nextOf_X12_get : GoodIn wsX12_nextOf (wsV RX12 92 RX12 yX12_get wsX12_get) := goodIn_app (goodIn_of _ (by decide +kernel)) ggX12_nextOf_X12_get
set_option maxRecDepth 20000 in
theorem ggX12_nextOf_X12_has : GoodIn wsX12_nextOf wsX12_has := goodIn_r _ [9] (by decide +kernel) (by decide +kernel)
set_option maxRecDepth 20000 in
theorem gX12_nextOf_X12_has : GoodIn wsX12_nextOf (va_wsS RX12 96 yX12_has wsX12_has) := goodIn_app (goodIn_of _ (by decide +kernel)) ggX12_nextOf_X12_has
set_option maxRecDepth 20000 in
theorem ggX12_nextOf_X12_tellsOf : GoodIn wsX12_nextOf wsX12_tellsOf := goodIn_r _ [13, 14, 1, 15, 16, 17, 18, 5, 19, 20, 21, 22, 23, 24, 7, 8, 9, 2, 3, 4, 6, 25, 26, 27, 28, 29, 30, 31, 32, 33, 34, 35, 36, 37, 38, 39, 40, 41, 42, 43, 44, 45, 46, 47, 48, 49, 50, 51, 52, 53, 54, 55, 56, 57, 58, 59, 60, 61, 62, 63, 64, 65, 66, 67, 68, 69, 70, 71, 72, 73, 74, 75, 76, 77, 78, 79, 80, 81, 82, 83, 84, 85, 86, 87, 88, 89, 90, 91, 92, 93, 94, 95, 96, 97, 98, 99] (by decide +kernel) (by decide +kernel)
set_option maxRecDepth 20000 in
theorem gX12_nextOf_X12_tellsOf : GoodIn wsX12_nextOf (wsV RX12 322 RX12 yX12_tellsOf wsX12_tellsOf) := goodIn_app (goodIn_of _ (by decide +kernel)) ggX12_nextOf_X12_tellsOf
theorem dX12_nextOf_0 : decode cX12_nextOf 0 = .ok (.iconst (-1), 1) := by decide +kernel
theorem dX12_nextOf_1 : decode cX12_nextOf 1 = .ok (.istore_n 2, 1) := by decide +kernel
theorem dX12_nextOf_2 : decode cX12_nextOf 2 = .ok (.iconst 0, 1) := by decide +kernel
theorem dX12_nextOf_3 : decode cX12_nextOf 3 = .ok (.istore_n 3, 1) := by decide +kernel
theorem dX12_nextOf_4 : decode cX12_nextOf 4 = .ok (.iconst 0, 1) := by decide +kernel
theorem dX12_nextOf_5 : decode cX12_nextOf 5 = .ok (.istore 4, 2) := by decide +kernel
theorem dX12_nextOf_7 : decode cX12_nextOf 7 = .ok (.iload 4, 2) := by decide +kernel
theorem dX12_nextOf_9 : decode cX12_nextOf 9 = .ok (.bipush 12, 2) := by decide +kernel
theorem dX12_nextOf_11 : decode cX12_nextOf 11 = .ok (.if_icmp .ge 72, 3) := by decide +kernel
theorem dX12_nextOf_14 : decode cX12_nextOf 14 = .ok (.aload_n 0, 1) := by decide +kernel
theorem dX12_nextOf_15 : decode cX12_nextOf 15 = .ok (.getfield 7, 3) := by decide +kernel
theorem dX12_nextOf_18 : decode cX12_nextOf 18 = .ok (.bipush 61, 2) := by decide +kernel
theorem dX12_nextOf_20 : decode cX12_nextOf 20 = .ok (.aload_n 0, 1) := by decide +kernel
theorem dX12_nextOf_21 : decode cX12_nextOf 21 = .ok (.iload_n 1, 1) := by decide +kernel
theorem dX12_nextOf_22 : decode cX12_nextOf 22 = .ok (.iconst 0, 1) := by decide +kernel
theorem dX12_nextOf_23 : decode cX12_nextOf 23 = .ok (.invokevirtual 92, 3) := by decide +kernel
theorem dX12_nextOf_26 : decode cX12_nextOf 26 = .ok (.iadd, 1) := by decide +kernel
theorem dX12_nextOf_27 : decode cX12_nextOf 27 = .ok (.iaload, 1) := by decide +kernel
theorem dX12_nextOf_28 : decode cX12_nextOf 28 = .ok (.aload_n 0, 1) := by decide +kernel
theorem dX12_nextOf_29 : decode cX12_nextOf 29 = .ok (.iload_n 1, 1) := by decide +kernel
theorem dX12_nextOf_30 : decode cX12_nextOf 30 = .ok (.iconst 5, 1) := by decide +kernel
theorem dX12_nextOf_31 : decode cX12_nextOf 31 = .ok (.invokevirtual 92, 3) := by decide +kernel
theorem dX12_nextOf_34 : decode cX12_nextOf 34 = .ok (.iconst (-1), 1) := by decide +kernel
theorem dX12_nextOf_35 : decode cX12_nextOf 35 = .ok (.ixor, 1) := by decide +kernel
theorem dX12_nextOf_36 : decode cX12_nextOf 36 = .ok (.iand, 1) := by decide +kernel
theorem dX12_nextOf_37 : decode cX12_nextOf 37 = .ok (.iload 4, 2) := by decide +kernel
theorem dX12_nextOf_39 : decode cX12_nextOf 39 = .ok (.invokestatic 96, 3) := by decide +kernel
theorem dX12_nextOf_42 : decode cX12_nextOf 42 = .ok (.ifCond .ne 6, 3) := by decide +kernel
theorem dX12_nextOf_45 : decode cX12_nextOf 45 = .ok (.goto 32, 3) := by decide +kernel
theorem dX12_nextOf_48 : decode cX12_nextOf 48 = .ok (.aload_n 0, 1) := by decide +kernel
theorem dX12_nextOf_49 : decode cX12_nextOf 49 = .ok (.iload_n 1, 1) := by decide +kernel
theorem dX12_nextOf_50 : decode cX12_nextOf 50 = .ok (.iload 4, 2) := by decide +kernel
theorem dX12_nextOf_52 : decode cX12_nextOf 52 = .ok (.invokevirtual 322, 3) := by decide +kernel
theorem dX12_nextOf_55 : decode cX12_nextOf 55 = .ok (.istore 5, 2) := by decide +kernel
theorem dX12_nextOf_57 : decode cX12_nextOf 57 = .ok (.iload_n 2, 1) := by decide +kernel
theorem dX12_nextOf_58 : decode cX12_nextOf 58 = .ok (.iconst (-1), 1) := by decide +kernel
theorem dX12_nextOf_59 : decode cX12_nextOf 59 = .ok (.if_icmp .eq 12, 3) := by decide +kernel
theorem dX12_nextOf_62 : decode cX12_nextOf 62 = .ok (.iload 5, 2) := by decide +kernel
theorem dX12_nextOf_64 : decode cX12_nextOf 64 = .ok (.iload_n 3, 1) := by decide +kernel
theorem dX12_nextOf_65 : decode cX12_nextOf 65 = .ok (.if_icmp .gt 6, 3) := by decide +kernel
theorem dX12_nextOf_68 : decode cX12_nextOf 68 = .ok (.goto 9, 3) := by decide +kernel
theorem dX12_nextOf_71 : decode cX12_nextOf 71 = .ok (.iload 5, 2) := by decide +kernel
theorem dX12_nextOf_73 : decode cX12_nextOf 73 = .ok (.istore_n 3, 1) := by decide +kernel
theorem dX12_nextOf_74 : decode cX12_nextOf 74 = .ok (.iload 4, 2) := by decide +kernel
theorem dX12_nextOf_76 : decode cX12_nextOf 76 = .ok (.istore_n 2, 1) := by decide +kernel
theorem dX12_nextOf_77 : decode cX12_nextOf 77 = .ok (.iinc 4 1, 3) := by decide +kernel
theorem dX12_nextOf_80 : decode cX12_nextOf 80 = .ok (.goto (-73), 3) := by decide +kernel
theorem dX12_nextOf_83 : decode cX12_nextOf 83 = .ok (.iload_n 2, 1) := by decide +kernel
theorem dX12_nextOf_84 : decode cX12_nextOf 84 = .ok (.ireturn, 1) := by decide +kernel
set_option maxRecDepth 20000 in
theorem ggX12_write_X12_get : GoodIn wsX12_write wsX12_get := goodIn_r _ [7, 2, 8, 9, 10, 11, 12, 13, 14, 15, 16, 17, 18, 19, 20, 21, 22, 23, 24, 25, 26, 27, 28, 29, 30, 31, 32, 33, 34, 35, 36, 37, 38, 39, 40, 41, 42, 43] (by decide +kernel) (by decide +kernel)
set_option maxRecDepth 20000 in
theorem gX12_write_X12_get : GoodIn wsX12_write (wsV RX12 92 RX12 yX12_get wsX12_get) := goodIn_app (goodIn_of _ (by decide +kernel)) ggX12_write_X12_get
theorem dX12_write_0 : decode cX12_write 0 = .ok (.aload_n 0, 1) := by decide +kernel
theorem dX12_write_1 : decode cX12_write 1 = .ok (.getfield 49, 3) := by decide +kernel
theorem dX12_write_4 : decode cX12_write 4 = .ok (.ifCond .ne 4, 3) := by decide +kernel
theorem dX12_write_7 : decode cX12_write 7 = .ok (.return_, 1) := by decide +kernel
theorem dX12_write_8 : decode cX12_write 8 = .ok (.aload_n 0, 1) := by decide +kernel
theorem dX12_write_9 : decode cX12_write 9 = .ok (.getfield 7, 3) := by decide +kernel
theorem dX12_write_12 : decode cX12_write 12 = .ok (.bipush 8, 2) := by decide +kernel
theorem dX12_write_14 : decode cX12_write 14 = .ok (.iaload, 1) := by decide +kernel
theorem dX12_write_15 : decode cX12_write 15 = .ok (.bipush 30, 2) := by decide +kernel
theorem dX12_write_17 : decode cX12_write 17 = .ok (.if_icmp .ne 50, 3) := by decide +kernel
theorem dX12_write_20 : decode cX12_write 20 = .ok (.iconst 1, 1) := by decide +kernel
theorem dX12_write_21 : decode cX12_write 21 = .ok (.istore_n 3, 1) := by decide +kernel
theorem dX12_write_22 : decode cX12_write 22 = .ok (.iload_n 3, 1) := by decide +kernel
theorem dX12_write_23 : decode cX12_write 23 = .ok (.bipush 30, 2) := by decide +kernel
theorem dX12_write_25 : decode cX12_write 25 = .ok (.if_icmp .ge 31, 3) := by decide +kernel
theorem dX12_write_28 : decode cX12_write 28 = .ok (.aload_n 0, 1) := by decide +kernel
theorem dX12_write_29 : decode cX12_write 29 = .ok (.getfield 7, 3) := by decide +kernel
theorem dX12_write_32 : decode cX12_write 32 = .ok (.sipush 2054, 3) := by decide +kernel
theorem dX12_write_35 : decode cX12_write 35 = .ok (.iload_n 3, 1) := by decide +kernel
theorem dX12_write_36 : decode cX12_write 36 = .ok (.iadd, 1) := by decide +kernel
theorem dX12_write_37 : decode cX12_write 37 = .ok (.iconst 1, 1) := by decide +kernel
theorem dX12_write_38 : decode cX12_write 38 = .ok (.isub, 1) := by decide +kernel
theorem dX12_write_39 : decode cX12_write 39 = .ok (.aload_n 0, 1) := by decide +kernel
theorem dX12_write_40 : decode cX12_write 40 = .ok (.getfield 7, 3) := by decide +kernel
theorem dX12_write_43 : decode cX12_write 43 = .ok (.sipush 2054, 3) := by decide +kernel
theorem dX12_write_46 : decode cX12_write 46 = .ok (.iload_n 3, 1) := by decide +kernel
theorem dX12_write_47 : decode cX12_write 47 = .ok (.iadd, 1) := by decide +kernel
theorem dX12_write_48 : decode cX12_write 48 = .ok (.iaload, 1) := by decide +kernel
theorem dX12_write_49 : decode cX12_write 49 = .ok (.iastore, 1) := by decide +kernel
theorem dX12_write_50 : decode cX12_write 50 = .ok (.iinc 3 1, 3) := by decide +kernel
theorem dX12_write_53 : decode cX12_write 53 = .ok (.goto (-31), 3) := by decide +kernel
theorem dX12_write_56 : decode cX12_write 56 = .ok (.aload_n 0, 1) := by decide +kernel
theorem dX12_write_57 : decode cX12_write 57 = .ok (.getfield 7, 3) := by decide +kernel
theorem dX12_write_60 : decode cX12_write 60 = .ok (.bipush 8, 2) := by decide +kernel
theorem dX12_write_62 : decode cX12_write 62 = .ok (.dup2, 1) := by decide +kernel
theorem dX12_write_63 : decode cX12_write 63 = .ok (.iaload, 1) := by decide +kernel
theorem dX12_write_64 : decode cX12_write 64 = .ok (.iconst 1, 1) := by decide +kernel
theorem dX12_write_65 : decode cX12_write 65 = .ok (.isub, 1) := by decide +kernel
theorem dX12_write_66 : decode cX12_write 66 = .ok (.iastore, 1) := by decide +kernel
theorem dX12_write_67 : decode cX12_write 67 = .ok (.aload_n 0, 1) := by decide +kernel
theorem dX12_write_68 : decode cX12_write 68 = .ok (.getfield 7, 3) := by decide +kernel
theorem dX12_write_71 : decode cX12_write 71 = .ok (.sipush 2054, 3) := by decide +kernel
theorem dX12_write_74 : decode cX12_write 74 = .ok (.aload_n 0, 1) := by decide +kernel
theorem dX12_write_75 : decode cX12_write 75 = .ok (.getfield 7, 3) := by decide +kernel
theorem dX12_write_78 : decode cX12_write 78 = .ok (.bipush 8, 2) := by decide +kernel
theorem dX12_write_80 : decode cX12_write 80 = .ok (.iaload, 1) := by decide +kernel
theorem dX12_write_81 : decode cX12_write 81 = .ok (.iadd, 1) := by decide +kernel
theorem dX12_write_82 : decode cX12_write 82 = .ok (.aload_n 0, 1) := by decide +kernel
theorem dX12_write_83 : decode cX12_write 83 = .ok (.getfield 7, 3) := by decide +kernel
theorem dX12_write_86 : decode cX12_write 86 = .ok (.iconst 5, 1) := by decide +kernel
theorem dX12_write_87 : decode cX12_write 87 = .ok (.iaload, 1) := by decide +kernel
theorem dX12_write_88 : decode cX12_write 88 = .ok (.bipush 8, 2) := by decide +kernel
theorem dX12_write_90 : decode cX12_write 90 = .ok (.imul, 1) := by decide +kernel
theorem dX12_write_91 : decode cX12_write 91 = .ok (.iload_n 1, 1) := by decide +kernel
theorem dX12_write_92 : decode cX12_write 92 = .ok (.iadd, 1) := by decide +kernel
theorem dX12_write_93 : decode cX12_write 93 = .ok (.bipush 16, 2) := by decide +kernel
theorem dX12_write_95 : decode cX12_write 95 = .ok (.imul, 1) := by decide +kernel
theorem dX12_write_96 : decode cX12_write 96 = .ok (.aload_n 0, 1) := by decide +kernel
theorem dX12_write_97 : decode cX12_write 97 = .ok (.iload_n 1, 1) := by decide +kernel
theorem dX12_write_98 : decode cX12_write 98 = .ok (.iconst 0, 1) := by decide +kernel
theorem dX12_write_99 : decode cX12_write 99 = .ok (.invokevirtual 92, 3) := by decide +kernel
theorem dX12_write_102 : decode cX12_write 102 = .ok (.iadd, 1) := by decide +kernel
theorem dX12_write_103 : decode cX12_write 103 = .ok (.iconst 2, 1) := by decide +kernel
theorem dX12_write_104 : decode cX12_write 104 = .ok (.imul, 1) := by decide +kernel
theorem dX12_write_105 : decode cX12_write 105 = .ok (.iload_n 2, 1) := by decide +kernel
theorem dX12_write_106 : decode cX12_write 106 = .ok (.ifCond .eq 7, 3) := by decide +kernel
theorem dX12_write_109 : decode cX12_write 109 = .ok (.iconst 1, 1) := by decide +kernel
theorem dX12_write_110 : decode cX12_write 110 = .ok (.goto 4, 3) := by decide +kernel
theorem dX12_write_113 : decode cX12_write 113 = .ok (.iconst 0, 1) := by decide +kernel
theorem dX12_write_114 : decode cX12_write 114 = .ok (.iadd, 1) := by decide +kernel
theorem dX12_write_115 : decode cX12_write 115 = .ok (.iastore, 1) := by decide +kernel
theorem dX12_write_116 : decode cX12_write 116 = .ok (.aload_n 0, 1) := by decide +kernel
theorem dX12_write_117 : decode cX12_write 117 = .ok (.getfield 7, 3) := by decide +kernel
theorem dX12_write_120 : decode cX12_write 120 = .ok (.bipush 8, 2) := by decide +kernel
theorem dX12_write_122 : decode cX12_write 122 = .ok (.dup2, 1) := by decide +kernel
theorem dX12_write_123 : decode cX12_write 123 = .ok (.iaload, 1) := by decide +kernel
theorem dX12_write_124 : decode cX12_write 124 = .ok (.iconst 1, 1) := by decide +kernel
theorem dX12_write_125 : decode cX12_write 125 = .ok (.iadd, 1) := by decide +kernel
theorem dX12_write_126 : decode cX12_write 126 = .ok (.iastore, 1) := by decide +kernel
theorem dX12_write_127 : decode cX12_write 127 = .ok (.return_, 1) := by decide +kernel
theorem dX12_anew_0 : decode cX12_anew 0 = .ok (.aload_n 0, 1) := by decide +kernel
theorem dX12_anew_1 : decode cX12_anew 1 = .ok (.getfield 7, 3) := by decide +kernel
theorem dX12_anew_4 : decode cX12_anew 4 = .ok (.bipush 6, 2) := by decide +kernel
theorem dX12_anew_6 : decode cX12_anew 6 = .ok (.aload_n 0, 1) := by decide +kernel
theorem dX12_anew_7 : decode cX12_anew 7 = .ok (.getfield 7, 3) := by decide +kernel
theorem dX12_anew_10 : decode cX12_anew 10 = .ok (.bipush 6, 2) := by decide +kernel
theorem dX12_anew_12 : decode cX12_anew 12 = .ok (.iaload, 1) := by decide +kernel
theorem dX12_anew_13 : decode cX12_anew 13 = .ok (.i2l, 1) := by decide +kernel
theorem dX12_anew_14 : decode cX12_anew 14 = .ok (.ldc2_w 325, 3) := by decide +kernel
theorem dX12_anew_17 : decode cX12_anew 17 = .ok (.lmul, 1) := by decide +kernel
theorem dX12_anew_18 : decode cX12_anew 18 = .ok (.ldc2_w 327, 3) := by decide +kernel
theorem dX12_anew_21 : decode cX12_anew 21 = .ok (.ladd, 1) := by decide +kernel
theorem dX12_anew_22 : decode cX12_anew 22 = .ok (.ldc2_w 329, 3) := by decide +kernel
theorem dX12_anew_25 : decode cX12_anew 25 = .ok (.lrem, 1) := by decide +kernel
theorem dX12_anew_26 : decode cX12_anew 26 = .ok (.l2i, 1) := by decide +kernel
theorem dX12_anew_27 : decode cX12_anew 27 = .ok (.iastore, 1) := by decide +kernel
theorem dX12_anew_28 : decode cX12_anew 28 = .ok (.return_, 1) := by decide +kernel
set_option maxRecDepth 20000 in
theorem ggX12_weep_X12_get : GoodIn wsX12_weep wsX12_get := goodIn_r _ [6, 1, 14, 15, 16, 17, 18, 19, 20, 21, 22, 23, 24, 25, 26, 27, 28, 29, 30, 31, 32, 33, 34, 35, 36, 37, 38, 39, 40, 41, 42, 43, 44, 45, 46, 47, 48, 49] (by decide +kernel) (by decide +kernel)
set_option maxRecDepth 20000 in
theorem gX12_weep_X12_get : GoodIn wsX12_weep (wsV RX12 92 RX12 yX12_get wsX12_get) := goodIn_app (goodIn_of _ (by decide +kernel)) ggX12_weep_X12_get
set_option maxRecDepth 20000 in
theorem ggX12_weep_X12_cut : GoodIn wsX12_weep wsX12_cut := goodIn_r _ [9] (by decide +kernel) (by decide +kernel)
set_option maxRecDepth 20000 in
theorem gX12_weep_X12_cut : GoodIn wsX12_weep (va_wsS RX12 309 yX12_cut wsX12_cut) := goodIn_app (goodIn_of _ (by decide +kernel)) ggX12_weep_X12_cut
set_option maxRecDepth 20000 in
theorem ggX12_weep_X12_put : GoodIn wsX12_weep wsX12_put := goodIn_r _ [13, 1, 14, 15, 16, 17, 18, 19, 20, 21, 22, 23, 24, 25, 26, 27, 28, 29, 30, 31, 32, 33, 34, 35, 36, 37, 38, 39, 40, 41, 42, 43, 44, 45, 46, 47, 48, 49] (by decide +kernel) (by decide +kernel)
set_option maxRecDepth 20000 in
theorem gX12_weep_X12_put : GoodIn wsX12_weep (wsV RX12 103 RX12 yX12_put wsX12_put) := goodIn_app (goodIn_of _ (by decide +kernel)) ggX12_weep_X12_put
theorem dX12_weep_0 : decode cX12_weep 0 = .ok (.aload_n 0, 1) := by decide +kernel
theorem dX12_weep_1 : decode cX12_weep 1 = .ok (.iload_n 1, 1) := by decide +kernel
theorem dX12_weep_2 : decode cX12_weep 2 = .ok (.iconst 2, 1) := by decide +kernel
theorem dX12_weep_3 : decode cX12_weep 3 = .ok (.aload_n 0, 1) := by decide +kernel
theorem dX12_weep_4 : decode cX12_weep 4 = .ok (.iload_n 1, 1) := by decide +kernel
theorem dX12_weep_5 : decode cX12_weep 5 = .ok (.iconst 2, 1) := by decide +kernel
theorem dX12_weep_6 : decode cX12_weep 6 = .ok (.invokevirtual 92, 3) := by decide +kernel
theorem dX12_weep_9 : decode cX12_weep 9 = .ok (.aload_n 0, 1) := by decide +kernel
theorem dX12_weep_10 : decode cX12_weep 10 = .ok (.getfield 7, 3) := by decide +kernel
theorem dX12_weep_13 : decode cX12_weep 13 = .ok (.bipush 49, 2) := by decide +kernel
theorem dX12_weep_15 : decode cX12_weep 15 = .ok (.iload_n 2, 1) := by decide +kernel
theorem dX12_weep_16 : decode cX12_weep 16 = .ok (.iadd, 1) := by decide +kernel
theorem dX12_weep_17 : decode cX12_weep 17 = .ok (.iaload, 1) := by decide +kernel
theorem dX12_weep_18 : decode cX12_weep 18 = .ok (.iadd, 1) := by decide +kernel
theorem dX12_weep_19 : decode cX12_weep 19 = .ok (.i2l, 1) := by decide +kernel
theorem dX12_weep_20 : decode cX12_weep 20 = .ok (.iconst 0, 1) := by decide +kernel
theorem dX12_weep_21 : decode cX12_weep 21 = .ok (.sipush 999, 3) := by decide +kernel
theorem dX12_weep_24 : decode cX12_weep 24 = .ok (.invokestatic 309, 3) := by decide +kernel
theorem dX12_weep_27 : decode cX12_weep 27 = .ok (.invokevirtual 103, 3) := by decide +kernel
theorem dX12_weep_30 : decode cX12_weep 30 = .ok (.return_, 1) := by decide +kernel
set_option maxRecDepth 20000 in
theorem ggX12_askNow_X12_nextOf : GoodIn wsX12_askNow wsX12_nextOf := goodIn_r _ [7, 1, 8, 9, 10, 6, 11, 12, 13, 14, 15, 16, 17, 18, 19, 20, 21, 22, 23, 24, 25, 26, 27, 28, 29, 30, 31, 32, 33, 34, 35, 36, 37, 38, 39, 40, 41, 42, 43, 44, 45, 46, 47, 48, 49, 50, 51, 52, 53, 54, 55, 56, 57, 58, 59, 60, 61, 62, 63, 64, 65, 66, 67, 68, 86, 87, 88, 89, 90, 91, 92, 93, 94, 95, 96, 97, 98, 99, 100, 101, 102, 103, 104, 105, 106, 107, 108, 109, 110, 111, 112, 113, 114, 115, 116, 117, 118, 119, 120, 121] (by decide +kernel) (by decide +kernel)
set_option maxRecDepth 20000 in
theorem gX12_askNow_X12_nextOf : GoodIn wsX12_askNow (wsV RX12 331 RX12 yX12_nextOf wsX12_nextOf) := goodIn_app (goodIn_of _ (by decide +kernel)) ggX12_askNow_X12_nextOf
set_option maxRecDepth 20000 in
theorem ggX12_askNow_X12_put : GoodIn wsX12_askNow wsX12_put := goodIn_r _ [72, 1, 86, 87, 88, 89, 90, 91, 92, 93, 94, 95, 96, 97, 98, 99, 100, 101, 102, 103, 104, 105, 106, 107, 108, 109, 110, 111, 112, 113, 114, 115, 116, 117, 118, 119, 120, 121] (by decide +kernel) (by decide +kernel)
set_option maxRecDepth 20000 in
theorem gX12_askNow_X12_put : GoodIn wsX12_askNow (wsV RX12 103 RX12 yX12_put wsX12_put) := goodIn_app (goodIn_of _ (by decide +kernel)) ggX12_askNow_X12_put
set_option maxRecDepth 20000 in
theorem ggX12_askNow_X12_weep : GoodIn wsX12_askNow wsX12_weep := goodIn_r _ [76, 1, 8, 9, 10, 6, 11, 66, 67, 68, 69, 70, 71, 72, 86, 87, 88, 89, 90, 91, 92, 93, 94, 95, 96, 97, 98, 99, 100, 101, 102, 103, 104, 105, 106, 107, 108, 109, 110, 111, 112, 113, 114, 115, 116, 117, 118, 119, 120, 121] (by decide +kernel) (by decide +kernel)
set_option maxRecDepth 20000 in
theorem gX12_askNow_X12_weep : GoodIn wsX12_askNow (wsV RX12 334 RX12 yX12_weep wsX12_weep) := goodIn_app (goodIn_of _ (by decide +kernel)) ggX12_askNow_X12_weep
set_option maxRecDepth 20000 in
theorem ggX12_askNow_X12_get : GoodIn wsX12_askNow wsX12_get := goodIn_r _ [11, 1, 86, 87, 88, 89, 90, 91, 92, 93, 94, 95, 96, 97, 98, 99, 100, 101, 102, 103, 104, 105, 106, 107, 108, 109, 110, 111, 112, 113, 114, 115, 116, 117, 118, 119, 120, 121] (by decide +kernel) (by decide +kernel)
set_option maxRecDepth 20000 in
theorem gX12_askNow_X12_get : GoodIn wsX12_askNow (wsV RX12 92 RX12 yX12_get wsX12_get) := goodIn_app (goodIn_of _ (by decide +kernel)) ggX12_askNow_X12_get
set_option maxRecDepth 20000 in
theorem ggX12_askNow_X12_cut : GoodIn wsX12_askNow wsX12_cut := goodIn_r _ [68] (by decide +kernel) (by decide +kernel)
set_option maxRecDepth 20000 in
theorem gX12_askNow_X12_cut : GoodIn wsX12_askNow (va_wsS RX12 309 yX12_cut wsX12_cut) := goodIn_app (goodIn_of _ (by decide +kernel)) ggX12_askNow_X12_cut
set_option maxRecDepth 20000 in
theorem ggX12_askNow_X12_needsOf : GoodIn wsX12_askNow wsX12_needsOf := goodIn_r _ [80, 19, 21, 22, 23, 6, 24, 1, 25, 26, 27, 28, 29, 20, 12, 13, 14, 8, 9, 10, 11, 30, 31, 32, 33, 34, 35, 36, 37, 38, 39, 40, 41, 42, 43, 44, 45, 46, 47, 48, 49, 50, 51, 52, 53, 54, 55, 56, 57, 58, 59, 60, 61, 62, 63, 64, 65, 66, 67, 68, 86, 87, 88, 89, 90, 91, 92, 93, 94, 95, 96, 97, 98, 99, 100, 101, 102, 103, 104, 105, 106, 107, 108, 109, 110, 111, 112, 113, 114, 115, 116, 117, 118, 119, 120, 121] (by decide +kernel) (by decide +kernel)
set_option maxRecDepth 20000 in
theorem gX12_askNow_X12_needsOf : GoodIn wsX12_askNow (wsV RX12 337 RX12 yX12_needsOf wsX12_needsOf) := goodIn_app (goodIn_of _ (by decide +kernel)) ggX12_askNow_X12_needsOf
set_option maxRecDepth 20000 in
theorem ggX12_askNow_X12_write : GoodIn wsX12_askNow wsX12_write := goodIn_r _ [84, 85, 1, 8, 9, 10, 6, 11, 86, 87, 88, 89, 90, 91, 92, 93, 94, 95, 96, 97, 98, 99, 100, 101, 102, 103, 104, 105, 106, 107, 108, 109, 110, 111, 112, 113, 114, 115, 116, 117, 118, 119, 120, 121] (by decide +kernel) (by decide +kernel)
set_option maxRecDepth 20000 in
theorem gX12_askNow_X12_write : GoodIn wsX12_askNow (wsV RX12 343 RX12 yX12_write wsX12_write) := goodIn_app (goodIn_of _ (by decide +kernel)) ggX12_askNow_X12_write
theorem dX12_askNow_0 : decode cX12_askNow 0 = .ok (.aload_n 0, 1) := by decide +kernel
theorem dX12_askNow_1 : decode cX12_askNow 1 = .ok (.iload_n 1, 1) := by decide +kernel
theorem dX12_askNow_2 : decode cX12_askNow 2 = .ok (.invokevirtual 331, 3) := by decide +kernel
theorem dX12_askNow_5 : decode cX12_askNow 5 = .ok (.istore_n 2, 1) := by decide +kernel
theorem dX12_askNow_6 : decode cX12_askNow 6 = .ok (.iload_n 2, 1) := by decide +kernel
theorem dX12_askNow_7 : decode cX12_askNow 7 = .ok (.iconst (-1), 1) := by decide +kernel
theorem dX12_askNow_8 : decode cX12_askNow 8 = .ok (.if_icmp .eq 39, 3) := by decide +kernel
theorem dX12_askNow_11 : decode cX12_askNow 11 = .ok (.aload_n 0, 1) := by decide +kernel
theorem dX12_askNow_12 : decode cX12_askNow 12 = .ok (.iload_n 1, 1) := by decide +kernel
theorem dX12_askNow_13 : decode cX12_askNow 13 = .ok (.iconst 0, 1) := by decide +kernel
theorem dX12_askNow_14 : decode cX12_askNow 14 = .ok (.iload_n 2, 1) := by decide +kernel
theorem dX12_askNow_15 : decode cX12_askNow 15 = .ok (.invokevirtual 103, 3) := by decide +kernel
theorem dX12_askNow_18 : decode cX12_askNow 18 = .ok (.aload_n 0, 1) := by decide +kernel
theorem dX12_askNow_19 : decode cX12_askNow 19 = .ok (.iload_n 1, 1) := by decide +kernel
theorem dX12_askNow_20 : decode cX12_askNow 20 = .ok (.iload_n 2, 1) := by decide +kernel
theorem dX12_askNow_21 : decode cX12_askNow 21 = .ok (.invokevirtual 334, 3) := by decide +kernel
theorem dX12_askNow_24 : decode cX12_askNow 24 = .ok (.aload_n 0, 1) := by decide +kernel
theorem dX12_askNow_25 : decode cX12_askNow 25 = .ok (.iload_n 1, 1) := by decide +kernel
theorem dX12_askNow_26 : decode cX12_askNow 26 = .ok (.iconst 3, 1) := by decide +kernel
theorem dX12_askNow_27 : decode cX12_askNow 27 = .ok (.aload_n 0, 1) := by decide +kernel
theorem dX12_askNow_28 : decode cX12_askNow 28 = .ok (.iload_n 1, 1) := by decide +kernel
theorem dX12_askNow_29 : decode cX12_askNow 29 = .ok (.iconst 3, 1) := by decide +kernel
theorem dX12_askNow_30 : decode cX12_askNow 30 = .ok (.invokevirtual 92, 3) := by decide +kernel
theorem dX12_askNow_33 : decode cX12_askNow 33 = .ok (.iconst 1, 1) := by decide +kernel
theorem dX12_askNow_34 : decode cX12_askNow 34 = .ok (.iadd, 1) := by decide +kernel
theorem dX12_askNow_35 : decode cX12_askNow 35 = .ok (.i2l, 1) := by decide +kernel
theorem dX12_askNow_36 : decode cX12_askNow 36 = .ok (.iconst 0, 1) := by decide +kernel
theorem dX12_askNow_37 : decode cX12_askNow 37 = .ok (.sipush 999, 3) := by decide +kernel
theorem dX12_askNow_40 : decode cX12_askNow 40 = .ok (.invokestatic 309, 3) := by decide +kernel
theorem dX12_askNow_43 : decode cX12_askNow 43 = .ok (.invokevirtual 103, 3) := by decide +kernel
theorem dX12_askNow_46 : decode cX12_askNow 46 = .ok (.return_, 1) := by decide +kernel
theorem dX12_askNow_47 : decode cX12_askNow 47 = .ok (.aload_n 0, 1) := by decide +kernel
theorem dX12_askNow_48 : decode cX12_askNow 48 = .ok (.aload_n 0, 1) := by decide +kernel
theorem dX12_askNow_49 : decode cX12_askNow 49 = .ok (.getfield 7, 3) := by decide +kernel
theorem dX12_askNow_52 : decode cX12_askNow 52 = .ok (.iconst 2, 1) := by decide +kernel
theorem dX12_askNow_53 : decode cX12_askNow 53 = .ok (.iaload, 1) := by decide +kernel
theorem dX12_askNow_54 : decode cX12_askNow 54 = .ok (.iload_n 1, 1) := by decide +kernel
theorem dX12_askNow_55 : decode cX12_askNow 55 = .ok (.invokevirtual 337, 3) := by decide +kernel
theorem dX12_askNow_58 : decode cX12_askNow 58 = .ok (.ifCond .le 7, 3) := by decide +kernel
theorem dX12_askNow_61 : decode cX12_askNow 61 = .ok (.iconst 1, 1) := by decide +kernel
theorem dX12_askNow_62 : decode cX12_askNow 62 = .ok (.goto 4, 3) := by decide +kernel
theorem dX12_askNow_65 : decode cX12_askNow 65 = .ok (.iconst 0, 1) := by decide +kernel
theorem dX12_askNow_66 : decode cX12_askNow 66 = .ok (.istore_n 3, 1) := by decide +kernel
theorem dX12_askNow_67 : decode cX12_askNow 67 = .ok (.aload_n 0, 1) := by decide +kernel
theorem dX12_askNow_68 : decode cX12_askNow 68 = .ok (.iload_n 1, 1) := by decide +kernel
theorem dX12_askNow_69 : decode cX12_askNow 69 = .ok (.iconst 1, 1) := by decide +kernel
theorem dX12_askNow_70 : decode cX12_askNow 70 = .ok (.iload_n 3, 1) := by decide +kernel
theorem dX12_askNow_71 : decode cX12_askNow 71 = .ok (.ifCond .eq 7, 3) := by decide +kernel
theorem dX12_askNow_74 : decode cX12_askNow 74 = .ok (.iconst 1, 1) := by decide +kernel
theorem dX12_askNow_75 : decode cX12_askNow 75 = .ok (.goto 4, 3) := by decide +kernel
theorem dX12_askNow_78 : decode cX12_askNow 78 = .ok (.iconst 2, 1) := by decide +kernel
theorem dX12_askNow_79 : decode cX12_askNow 79 = .ok (.invokevirtual 103, 3) := by decide +kernel
theorem dX12_askNow_82 : decode cX12_askNow 82 = .ok (.iload_n 3, 1) := by decide +kernel
theorem dX12_askNow_83 : decode cX12_askNow 83 = .ok (.ifCond .eq 59, 3) := by decide +kernel
theorem dX12_askNow_86 : decode cX12_askNow 86 = .ok (.aload_n 0, 1) := by decide +kernel
theorem dX12_askNow_87 : decode cX12_askNow 87 = .ok (.getfield 7, 3) := by decide +kernel
theorem dX12_askNow_90 : decode cX12_askNow 90 = .ok (.bipush 7, 2) := by decide +kernel
theorem dX12_askNow_92 : decode cX12_askNow 92 = .ok (.aload_n 0, 1) := by decide +kernel
theorem dX12_askNow_93 : decode cX12_askNow 93 = .ok (.getfield 7, 3) := by decide +kernel
theorem dX12_askNow_96 : decode cX12_askNow 96 = .ok (.bipush 7, 2) := by decide +kernel
theorem dX12_askNow_98 : decode cX12_askNow 98 = .ok (.iaload, 1) := by decide +kernel
theorem dX12_askNow_99 : decode cX12_askNow 99 = .ok (.iconst 1, 1) := by decide +kernel
theorem dX12_askNow_100 : decode cX12_askNow 100 = .ok (.iadd, 1) := by decide +kernel
theorem dX12_askNow_101 : decode cX12_askNow 101 = .ok (.i2l, 1) := by decide +kernel
theorem dX12_askNow_102 : decode cX12_askNow 102 = .ok (.iconst 0, 1) := by decide +kernel
theorem dX12_askNow_103 : decode cX12_askNow 103 = .ok (.sipush 9999, 3) := by decide +kernel
theorem dX12_askNow_106 : decode cX12_askNow 106 = .ok (.invokestatic 309, 3) := by decide +kernel
theorem dX12_askNow_109 : decode cX12_askNow 109 = .ok (.iastore, 1) := by decide +kernel
theorem dX12_askNow_110 : decode cX12_askNow 110 = .ok (.aload_n 0, 1) := by decide +kernel
theorem dX12_askNow_111 : decode cX12_askNow 111 = .ok (.iload_n 1, 1) := by decide +kernel
theorem dX12_askNow_112 : decode cX12_askNow 112 = .ok (.iconst 4, 1) := by decide +kernel
theorem dX12_askNow_113 : decode cX12_askNow 113 = .ok (.aload_n 0, 1) := by decide +kernel
theorem dX12_askNow_114 : decode cX12_askNow 114 = .ok (.iload_n 1, 1) := by decide +kernel
theorem dX12_askNow_115 : decode cX12_askNow 115 = .ok (.iconst 4, 1) := by decide +kernel
theorem dX12_askNow_116 : decode cX12_askNow 116 = .ok (.invokevirtual 92, 3) := by decide +kernel
theorem dX12_askNow_119 : decode cX12_askNow 119 = .ok (.bipush 10, 2) := by decide +kernel
theorem dX12_askNow_121 : decode cX12_askNow 121 = .ok (.iadd, 1) := by decide +kernel
theorem dX12_askNow_122 : decode cX12_askNow 122 = .ok (.i2l, 1) := by decide +kernel
theorem dX12_askNow_123 : decode cX12_askNow 123 = .ok (.iconst 0, 1) := by decide +kernel
theorem dX12_askNow_124 : decode cX12_askNow 124 = .ok (.bipush 99, 2) := by decide +kernel
theorem dX12_askNow_126 : decode cX12_askNow 126 = .ok (.invokestatic 309, 3) := by decide +kernel
theorem dX12_askNow_129 : decode cX12_askNow 129 = .ok (.invokevirtual 103, 3) := by decide +kernel
theorem dX12_askNow_132 : decode cX12_askNow 132 = .ok (.aload_n 0, 1) := by decide +kernel
theorem dX12_askNow_133 : decode cX12_askNow 133 = .ok (.dup, 1) := by decide +kernel
theorem dX12_askNow_134 : decode cX12_askNow 134 = .ok (.getfield 340, 3) := by decide +kernel
theorem dX12_askNow_137 : decode cX12_askNow 137 = .ok (.iconst 1, 1) := by decide +kernel
theorem dX12_askNow_138 : decode cX12_askNow 138 = .ok (.iadd, 1) := by decide +kernel
theorem dX12_askNow_139 : decode cX12_askNow 139 = .ok (.putfield 340, 3) := by decide +kernel
theorem dX12_askNow_142 : decode cX12_askNow 142 = .ok (.aload_n 0, 1) := by decide +kernel
theorem dX12_askNow_143 : decode cX12_askNow 143 = .ok (.iload_n 1, 1) := by decide +kernel
theorem dX12_askNow_144 : decode cX12_askNow 144 = .ok (.iload_n 3, 1) := by decide +kernel
theorem dX12_askNow_145 : decode cX12_askNow 145 = .ok (.invokevirtual 343, 3) := by decide +kernel
theorem dX12_askNow_148 : decode cX12_askNow 148 = .ok (.return_, 1) := by decide +kernel
set_option maxRecDepth 20000 in
theorem ggX12_pass_X12_isWaiting : GoodIn wsX12_pass wsX12_isWaiting := goodIn_r _ [6, 7, 8, 9, 5, 10, 1, 11, 12, 13, 14, 15, 16, 17, 108, 109, 110, 111, 112, 113, 114, 115, 116, 117, 118, 119, 120, 121, 122, 123, 124, 125, 126, 127, 128, 129, 130, 131, 132, 133, 134, 135, 136, 137, 138, 139, 140, 141, 142, 143] (by decide +kernel) (by decide +kernel)
set_option maxRecDepth 20000 in
theorem gX12_pass_X12_isWaiting : GoodIn wsX12_pass (wsV RX12 347 RX12 yX12_isWaiting wsX12_isWaiting) := goodIn_app (goodIn_of _ (by decide +kernel)) ggX12_pass_X12_isWaiting
set_option maxRecDepth 20000 in
theorem ggX12_pass_X12_anew : GoodIn wsX12_pass wsX12_anew := goodIn_r _ [21, 1, 22, 23, 24, 108, 109, 110, 111, 112, 113, 114, 115, 116, 117, 118, 119, 120, 121, 122, 123, 124, 125, 126, 127, 128, 129, 130, 131, 132, 133, 134, 135, 136, 137, 138, 139, 140, 141, 142, 143] (by decide +kernel) (by decide +kernel)
set_option maxRecDepth 20000 in
theorem gX12_pass_X12_anew : GoodIn wsX12_pass (wsV RX12 350 RX12 yX12_anew wsX12_anew) := goodIn_app (goodIn_of _ (by decide +kernel)) ggX12_pass_X12_anew
set_option maxRecDepth 20000 in
theorem ggX12_pass_X12_askNow : GoodIn wsX12_pass wsX12_askNow := goodIn_r _ [28, 1, 29, 30, 31, 32, 5, 33, 14, 15, 16, 17, 34, 35, 36, 37, 38, 39, 40, 41, 42, 43, 44, 45, 46, 47, 48, 49, 50, 51, 52, 53, 54, 55, 56, 57, 58, 59, 60, 61, 62, 63, 64, 65, 66, 67, 68, 69, 70, 71, 72, 73, 74, 75, 76, 77, 78, 79, 80, 81, 82, 83, 84, 85, 86, 87, 88, 89, 90, 91, 92, 93, 94, 95, 96, 97, 98, 99, 100, 101, 102, 103, 104, 105, 106, 107, 108, 109, 110, 111, 112, 113, 114, 115, 116, 117, 118, 119, 120, 121, 122, 123, 124, 125, 126, 127, 128, 129, 130, 131, 132, 133, 134, 135, 136, 137, 138, 139, 140, 141, 142, 143] (by decide +kernel) (by decide +kernel)
set_option maxRecDepth 20000 in
theorem gX12_pass_X12_askNow : GoodIn wsX12_pass (wsV RX12 353 RX12 yX12_askNow wsX12_askNow) := goodIn_app (goodIn_of _ (by decide +kernel)) ggX12_pass_X12_askNow
theorem dX12_pass_0 : decode cX12_pass 0 = .ok (.iconst 0, 1) := by decide +kernel
theorem dX12_pass_1 : decode cX12_pass 1 = .ok (.istore_n 1, 1) := by decide +kernel
theorem dX12_pass_2 : decode cX12_pass 2 = .ok (.iload_n 1, 1) := by decide +kernel
theorem dX12_pass_3 : decode cX12_pass 3 = .ok (.aload_n 0, 1) := by decide +kernel
theorem dX12_pass_4 : decode cX12_pass 4 = .ok (.getfield 7, 3) := by decide +kernel
theorem dX12_pass_7 : decode cX12_pass 7 = .ok (.iconst 0, 1) := by decide +kernel
theorem dX12_pass_8 : decode cX12_pass 8 = .ok (.iaload, 1) := by decide +kernel
theorem dX12_pass_9 : decode cX12_pass 9 = .ok (.if_icmp .ge 54, 3) := by decide +kernel
theorem dX12_pass_12 : decode cX12_pass 12 = .ok (.aload_n 0, 1) := by decide +kernel
theorem dX12_pass_13 : decode cX12_pass 13 = .ok (.iload_n 1, 1) := by decide +kernel
theorem dX12_pass_14 : decode cX12_pass 14 = .ok (.invokevirtual 347, 3) := by decide +kernel
theorem dX12_pass_17 : decode cX12_pass 17 = .ok (.ifCond .ne 6, 3) := by decide +kernel
theorem dX12_pass_20 : decode cX12_pass 20 = .ok (.goto 37, 3) := by decide +kernel
theorem dX12_pass_23 : decode cX12_pass 23 = .ok (.aload_n 0, 1) := by decide +kernel
theorem dX12_pass_24 : decode cX12_pass 24 = .ok (.getfield 7, 3) := by decide +kernel
theorem dX12_pass_27 : decode cX12_pass 27 = .ok (.bipush 6, 2) := by decide +kernel
theorem dX12_pass_29 : decode cX12_pass 29 = .ok (.iaload, 1) := by decide +kernel
theorem dX12_pass_30 : decode cX12_pass 30 = .ok (.bipush 10, 2) := by decide +kernel
theorem dX12_pass_32 : decode cX12_pass 32 = .ok (.irem, 1) := by decide +kernel
theorem dX12_pass_33 : decode cX12_pass 33 = .ok (.bipush 6, 2) := by decide +kernel
theorem dX12_pass_35 : decode cX12_pass 35 = .ok (.if_icmp .ge 7, 3) := by decide +kernel
theorem dX12_pass_38 : decode cX12_pass 38 = .ok (.iconst 1, 1) := by decide +kernel
theorem dX12_pass_39 : decode cX12_pass 39 = .ok (.goto 4, 3) := by decide +kernel
theorem dX12_pass_42 : decode cX12_pass 42 = .ok (.iconst 0, 1) := by decide +kernel
theorem dX12_pass_43 : decode cX12_pass 43 = .ok (.istore_n 2, 1) := by decide +kernel
theorem dX12_pass_44 : decode cX12_pass 44 = .ok (.aload_n 0, 1) := by decide +kernel
theorem dX12_pass_45 : decode cX12_pass 45 = .ok (.invokevirtual 350, 3) := by decide +kernel
theorem dX12_pass_48 : decode cX12_pass 48 = .ok (.iload_n 2, 1) := by decide +kernel
theorem dX12_pass_49 : decode cX12_pass 49 = .ok (.ifCond .eq 8, 3) := by decide +kernel
theorem dX12_pass_52 : decode cX12_pass 52 = .ok (.aload_n 0, 1) := by decide +kernel
theorem dX12_pass_53 : decode cX12_pass 53 = .ok (.iload_n 1, 1) := by decide +kernel
theorem dX12_pass_54 : decode cX12_pass 54 = .ok (.invokevirtual 353, 3) := by decide +kernel
theorem dX12_pass_57 : decode cX12_pass 57 = .ok (.iinc 1 1, 3) := by decide +kernel
theorem dX12_pass_60 : decode cX12_pass 60 = .ok (.goto (-58), 3) := by decide +kernel
theorem dX12_pass_63 : decode cX12_pass 63 = .ok (.aload_n 0, 1) := by decide +kernel
theorem dX12_pass_64 : decode cX12_pass 64 = .ok (.getfield 7, 3) := by decide +kernel
theorem dX12_pass_67 : decode cX12_pass 67 = .ok (.iconst 5, 1) := by decide +kernel
theorem dX12_pass_68 : decode cX12_pass 68 = .ok (.dup2, 1) := by decide +kernel
theorem dX12_pass_69 : decode cX12_pass 69 = .ok (.iaload, 1) := by decide +kernel
theorem dX12_pass_70 : decode cX12_pass 70 = .ok (.iconst 1, 1) := by decide +kernel
theorem dX12_pass_71 : decode cX12_pass 71 = .ok (.iadd, 1) := by decide +kernel
theorem dX12_pass_72 : decode cX12_pass 72 = .ok (.iastore, 1) := by decide +kernel
theorem dX12_pass_73 : decode cX12_pass 73 = .ok (.return_, 1) := by decide +kernel
set_option maxRecDepth 20000 in
theorem ggX12_keep_X12_get : GoodIn wsX12_keep wsX12_get := goodIn_r _ [6, 1, 7, 8, 9, 10, 11, 12, 13, 14, 15, 16, 17, 18, 19, 20, 21, 22, 23, 24, 25, 26, 27, 28, 29, 30, 31, 32, 33, 34, 35, 36, 37, 38, 39, 40, 41, 42] (by decide +kernel) (by decide +kernel)
set_option maxRecDepth 20000 in
theorem gX12_keep_X12_get : GoodIn wsX12_keep (wsV RX12 92 RX12 yX12_get wsX12_get) := goodIn_app (goodIn_of _ (by decide +kernel)) ggX12_keep_X12_get
theorem dX12_keep_0 : decode cX12_keep 0 = .ok (.aload_n 0, 1) := by decide +kernel
theorem dX12_keep_1 : decode cX12_keep 1 = .ok (.getfield 7, 3) := by decide +kernel
theorem dX12_keep_4 : decode cX12_keep 4 = .ok (.iconst 3, 1) := by decide +kernel
theorem dX12_keep_5 : decode cX12_keep 5 = .ok (.iaload, 1) := by decide +kernel
theorem dX12_keep_6 : decode cX12_keep 6 = .ok (.bipush 30, 2) := by decide +kernel
theorem dX12_keep_8 : decode cX12_keep 8 = .ok (.if_icmp .ne 47, 3) := by decide +kernel
theorem dX12_keep_11 : decode cX12_keep 11 = .ok (.iconst 0, 1) := by decide +kernel
theorem dX12_keep_12 : decode cX12_keep 12 = .ok (.istore_n 1, 1) := by decide +kernel
theorem dX12_keep_13 : decode cX12_keep 13 = .ok (.iload_n 1, 1) := by decide +kernel
theorem dX12_keep_14 : decode cX12_keep 14 = .ok (.sipush 1885, 3) := by decide +kernel
theorem dX12_keep_17 : decode cX12_keep 17 = .ok (.if_icmp .ge 28, 3) := by decide +kernel
theorem dX12_keep_20 : decode cX12_keep 20 = .ok (.aload_n 0, 1) := by decide +kernel
theorem dX12_keep_21 : decode cX12_keep 21 = .ok (.getfield 7, 3) := by decide +kernel
theorem dX12_keep_24 : decode cX12_keep 24 = .ok (.bipush 104, 2) := by decide +kernel
theorem dX12_keep_26 : decode cX12_keep 26 = .ok (.iload_n 1, 1) := by decide +kernel
theorem dX12_keep_27 : decode cX12_keep 27 = .ok (.iadd, 1) := by decide +kernel
theorem dX12_keep_28 : decode cX12_keep 28 = .ok (.aload_n 0, 1) := by decide +kernel
theorem dX12_keep_29 : decode cX12_keep 29 = .ok (.getfield 7, 3) := by decide +kernel
theorem dX12_keep_32 : decode cX12_keep 32 = .ok (.sipush 169, 3) := by decide +kernel
theorem dX12_keep_35 : decode cX12_keep 35 = .ok (.iload_n 1, 1) := by decide +kernel
theorem dX12_keep_36 : decode cX12_keep 36 = .ok (.iadd, 1) := by decide +kernel
theorem dX12_keep_37 : decode cX12_keep 37 = .ok (.iaload, 1) := by decide +kernel
theorem dX12_keep_38 : decode cX12_keep 38 = .ok (.iastore, 1) := by decide +kernel
theorem dX12_keep_39 : decode cX12_keep 39 = .ok (.iinc 1 1, 3) := by decide +kernel
theorem dX12_keep_42 : decode cX12_keep 42 = .ok (.goto (-29), 3) := by decide +kernel
theorem dX12_keep_45 : decode cX12_keep 45 = .ok (.aload_n 0, 1) := by decide +kernel
theorem dX12_keep_46 : decode cX12_keep 46 = .ok (.getfield 7, 3) := by decide +kernel
theorem dX12_keep_49 : decode cX12_keep 49 = .ok (.iconst 3, 1) := by decide +kernel
theorem dX12_keep_50 : decode cX12_keep 50 = .ok (.dup2, 1) := by decide +kernel
theorem dX12_keep_51 : decode cX12_keep 51 = .ok (.iaload, 1) := by decide +kernel
theorem dX12_keep_52 : decode cX12_keep 52 = .ok (.iconst 1, 1) := by decide +kernel
theorem dX12_keep_53 : decode cX12_keep 53 = .ok (.isub, 1) := by decide +kernel
theorem dX12_keep_54 : decode cX12_keep 54 = .ok (.iastore, 1) := by decide +kernel
theorem dX12_keep_55 : decode cX12_keep 55 = .ok (.bipush 104, 2) := by decide +kernel
theorem dX12_keep_57 : decode cX12_keep 57 = .ok (.bipush 65, 2) := by decide +kernel
theorem dX12_keep_59 : decode cX12_keep 59 = .ok (.aload_n 0, 1) := by decide +kernel
theorem dX12_keep_60 : decode cX12_keep 60 = .ok (.getfield 7, 3) := by decide +kernel
theorem dX12_keep_63 : decode cX12_keep 63 = .ok (.iconst 3, 1) := by decide +kernel
theorem dX12_keep_64 : decode cX12_keep 64 = .ok (.iaload, 1) := by decide +kernel
theorem dX12_keep_65 : decode cX12_keep 65 = .ok (.imul, 1) := by decide +kernel
theorem dX12_keep_66 : decode cX12_keep 66 = .ok (.iadd, 1) := by decide +kernel
theorem dX12_keep_67 : decode cX12_keep 67 = .ok (.istore_n 1, 1) := by decide +kernel
theorem dX12_keep_68 : decode cX12_keep 68 = .ok (.aload_n 0, 1) := by decide +kernel
theorem dX12_keep_69 : decode cX12_keep 69 = .ok (.getfield 7, 3) := by decide +kernel
theorem dX12_keep_72 : decode cX12_keep 72 = .ok (.iload_n 1, 1) := by decide +kernel
theorem dX12_keep_73 : decode cX12_keep 73 = .ok (.aload_n 0, 1) := by decide +kernel
theorem dX12_keep_74 : decode cX12_keep 74 = .ok (.getfield 7, 3) := by decide +kernel
theorem dX12_keep_77 : decode cX12_keep 77 = .ok (.iconst 0, 1) := by decide +kernel
theorem dX12_keep_78 : decode cX12_keep 78 = .ok (.iaload, 1) := by decide +kernel
theorem dX12_keep_79 : decode cX12_keep 79 = .ok (.iastore, 1) := by decide +kernel
theorem dX12_keep_80 : decode cX12_keep 80 = .ok (.iconst 0, 1) := by decide +kernel
theorem dX12_keep_81 : decode cX12_keep 81 = .ok (.istore_n 2, 1) := by decide +kernel
theorem dX12_keep_82 : decode cX12_keep 82 = .ok (.iload_n 2, 1) := by decide +kernel
theorem dX12_keep_83 : decode cX12_keep 83 = .ok (.iconst 4, 1) := by decide +kernel
theorem dX12_keep_84 : decode cX12_keep 84 = .ok (.if_icmp .ge 27, 3) := by decide +kernel
theorem dX12_keep_87 : decode cX12_keep 87 = .ok (.aload_n 0, 1) := by decide +kernel
theorem dX12_keep_88 : decode cX12_keep 88 = .ok (.getfield 7, 3) := by decide +kernel
theorem dX12_keep_91 : decode cX12_keep 91 = .ok (.iload_n 1, 1) := by decide +kernel
theorem dX12_keep_92 : decode cX12_keep 92 = .ok (.iconst 1, 1) := by decide +kernel
theorem dX12_keep_93 : decode cX12_keep 93 = .ok (.iadd, 1) := by decide +kernel
theorem dX12_keep_94 : decode cX12_keep 94 = .ok (.iload_n 2, 1) := by decide +kernel
theorem dX12_keep_95 : decode cX12_keep 95 = .ok (.iadd, 1) := by decide +kernel
theorem dX12_keep_96 : decode cX12_keep 96 = .ok (.aload_n 0, 1) := by decide +kernel
theorem dX12_keep_97 : decode cX12_keep 97 = .ok (.getfield 7, 3) := by decide +kernel
theorem dX12_keep_100 : decode cX12_keep 100 = .ok (.iconst 5, 1) := by decide +kernel
theorem dX12_keep_101 : decode cX12_keep 101 = .ok (.iload_n 2, 1) := by decide +kernel
theorem dX12_keep_102 : decode cX12_keep 102 = .ok (.iadd, 1) := by decide +kernel
theorem dX12_keep_103 : decode cX12_keep 103 = .ok (.iaload, 1) := by decide +kernel
theorem dX12_keep_104 : decode cX12_keep 104 = .ok (.iastore, 1) := by decide +kernel
theorem dX12_keep_105 : decode cX12_keep 105 = .ok (.iinc 2 1, 3) := by decide +kernel
theorem dX12_keep_108 : decode cX12_keep 108 = .ok (.goto (-26), 3) := by decide +kernel
theorem dX12_keep_111 : decode cX12_keep 111 = .ok (.iconst 0, 1) := by decide +kernel
theorem dX12_keep_112 : decode cX12_keep 112 = .ok (.istore_n 2, 1) := by decide +kernel
theorem dX12_keep_113 : decode cX12_keep 113 = .ok (.iload_n 2, 1) := by decide +kernel
theorem dX12_keep_114 : decode cX12_keep 114 = .ok (.iconst 5, 1) := by decide +kernel
theorem dX12_keep_115 : decode cX12_keep 115 = .ok (.if_icmp .ge 44, 3) := by decide +kernel
theorem dX12_keep_118 : decode cX12_keep 118 = .ok (.iconst 0, 1) := by decide +kernel
theorem dX12_keep_119 : decode cX12_keep 119 = .ok (.istore_n 3, 1) := by decide +kernel
theorem dX12_keep_120 : decode cX12_keep 120 = .ok (.iload_n 3, 1) := by decide +kernel
theorem dX12_keep_121 : decode cX12_keep 121 = .ok (.bipush 6, 2) := by decide +kernel
theorem dX12_keep_123 : decode cX12_keep 123 = .ok (.if_icmp .ge 30, 3) := by decide +kernel
theorem dX12_keep_126 : decode cX12_keep 126 = .ok (.aload_n 0, 1) := by decide +kernel
theorem dX12_keep_127 : decode cX12_keep 127 = .ok (.getfield 7, 3) := by decide +kernel
theorem dX12_keep_130 : decode cX12_keep 130 = .ok (.iload_n 1, 1) := by decide +kernel
theorem dX12_keep_131 : decode cX12_keep 131 = .ok (.iconst 5, 1) := by decide +kernel
theorem dX12_keep_132 : decode cX12_keep 132 = .ok (.iadd, 1) := by decide +kernel
theorem dX12_keep_133 : decode cX12_keep 133 = .ok (.bipush 6, 2) := by decide +kernel
theorem dX12_keep_135 : decode cX12_keep 135 = .ok (.iload_n 2, 1) := by decide +kernel
theorem dX12_keep_136 : decode cX12_keep 136 = .ok (.imul, 1) := by decide +kernel
theorem dX12_keep_137 : decode cX12_keep 137 = .ok (.iadd, 1) := by decide +kernel
theorem dX12_keep_138 : decode cX12_keep 138 = .ok (.iload_n 3, 1) := by decide +kernel
theorem dX12_keep_139 : decode cX12_keep 139 = .ok (.iadd, 1) := by decide +kernel
theorem dX12_keep_140 : decode cX12_keep 140 = .ok (.aload_n 0, 1) := by decide +kernel
theorem dX12_keep_141 : decode cX12_keep 141 = .ok (.iload_n 2, 1) := by decide +kernel
theorem dX12_keep_142 : decode cX12_keep 142 = .ok (.iload_n 3, 1) := by decide +kernel
theorem dX12_keep_143 : decode cX12_keep 143 = .ok (.invokevirtual 92, 3) := by decide +kernel
theorem dX12_keep_146 : decode cX12_keep 146 = .ok (.iastore, 1) := by decide +kernel
theorem dX12_keep_147 : decode cX12_keep 147 = .ok (.iinc 3 1, 3) := by decide +kernel
theorem dX12_keep_150 : decode cX12_keep 150 = .ok (.goto (-30), 3) := by decide +kernel
theorem dX12_keep_153 : decode cX12_keep 153 = .ok (.iinc 2 1, 3) := by decide +kernel
theorem dX12_keep_156 : decode cX12_keep 156 = .ok (.goto (-43), 3) := by decide +kernel
theorem dX12_keep_159 : decode cX12_keep 159 = .ok (.iconst 0, 1) := by decide +kernel
theorem dX12_keep_160 : decode cX12_keep 160 = .ok (.istore_n 2, 1) := by decide +kernel
theorem dX12_keep_161 : decode cX12_keep 161 = .ok (.iload_n 2, 1) := by decide +kernel
theorem dX12_keep_162 : decode cX12_keep 162 = .ok (.bipush 30, 2) := by decide +kernel
theorem dX12_keep_164 : decode cX12_keep 164 = .ok (.if_icmp .ge 30, 3) := by decide +kernel
theorem dX12_keep_167 : decode cX12_keep 167 = .ok (.aload_n 0, 1) := by decide +kernel
theorem dX12_keep_168 : decode cX12_keep 168 = .ok (.getfield 7, 3) := by decide +kernel
theorem dX12_keep_171 : decode cX12_keep 171 = .ok (.iload_n 1, 1) := by decide +kernel
theorem dX12_keep_172 : decode cX12_keep 172 = .ok (.bipush 35, 2) := by decide +kernel
theorem dX12_keep_174 : decode cX12_keep 174 = .ok (.iadd, 1) := by decide +kernel
theorem dX12_keep_175 : decode cX12_keep 175 = .ok (.iload_n 2, 1) := by decide +kernel
theorem dX12_keep_176 : decode cX12_keep 176 = .ok (.iadd, 1) := by decide +kernel
theorem dX12_keep_177 : decode cX12_keep 177 = .ok (.aload_n 0, 1) := by decide +kernel
theorem dX12_keep_178 : decode cX12_keep 178 = .ok (.getfield 7, 3) := by decide +kernel
theorem dX12_keep_181 : decode cX12_keep 181 = .ok (.sipush 2054, 3) := by decide +kernel
theorem dX12_keep_184 : decode cX12_keep 184 = .ok (.iload_n 2, 1) := by decide +kernel
theorem dX12_keep_185 : decode cX12_keep 185 = .ok (.iadd, 1) := by decide +kernel
theorem dX12_keep_186 : decode cX12_keep 186 = .ok (.iaload, 1) := by decide +kernel
theorem dX12_keep_187 : decode cX12_keep 187 = .ok (.iastore, 1) := by decide +kernel
theorem dX12_keep_188 : decode cX12_keep 188 = .ok (.iinc 2 1, 3) := by decide +kernel
theorem dX12_keep_191 : decode cX12_keep 191 = .ok (.goto (-30), 3) := by decide +kernel
theorem dX12_keep_194 : decode cX12_keep 194 = .ok (.aload_n 0, 1) := by decide +kernel
theorem dX12_keep_195 : decode cX12_keep 195 = .ok (.getfield 7, 3) := by decide +kernel
theorem dX12_keep_198 : decode cX12_keep 198 = .ok (.iconst 3, 1) := by decide +kernel
theorem dX12_keep_199 : decode cX12_keep 199 = .ok (.dup2, 1) := by decide +kernel
theorem dX12_keep_200 : decode cX12_keep 200 = .ok (.iaload, 1) := by decide +kernel
theorem dX12_keep_201 : decode cX12_keep 201 = .ok (.iconst 1, 1) := by decide +kernel
theorem dX12_keep_202 : decode cX12_keep 202 = .ok (.iadd, 1) := by decide +kernel
theorem dX12_keep_203 : decode cX12_keep 203 = .ok (.iastore, 1) := by decide +kernel
theorem dX12_keep_204 : decode cX12_keep 204 = .ok (.return_, 1) := by decide +kernel
set_option maxRecDepth 20000 in
theorem ggX12_undo_X12_get : GoodIn wsX12_undo wsX12_get := goodIn_r _ [6, 1, 15, 16, 17, 18, 19, 20, 21, 22, 23, 24, 25, 26, 27, 28, 29, 30, 31, 32, 33, 34, 35, 36, 37, 38, 39, 40, 41, 42, 43, 44, 45, 46, 47, 48, 49, 50] (by decide +kernel) (by decide +kernel)
set_option maxRecDepth 20000 in
theorem gX12_undo_X12_get : GoodIn wsX12_undo (wsV RX12 92 RX12 yX12_get wsX12_get) := goodIn_app (goodIn_of _ (by decide +kernel)) ggX12_undo_X12_get
set_option maxRecDepth 20000 in
theorem ggX12_undo_X12_begin : GoodIn wsX12_undo wsX12_begin := goodIn_r _ [10, 11, 12, 13, 5, 14, 1, 15, 16, 17, 18, 19, 20, 21, 22, 23, 24, 25, 26, 27, 28, 29, 30, 31, 32, 33, 34, 35, 36, 37, 38, 39, 40, 41, 42, 43, 44, 45, 46, 47, 48, 49, 50] (by decide +kernel) (by decide +kernel)
set_option maxRecDepth 20000 in
theorem gX12_undo_X12_begin : GoodIn wsX12_undo (wsV RX12 107 RX12 yX12_begin wsX12_begin) := goodIn_app (goodIn_of _ (by decide +kernel)) ggX12_undo_X12_begin
set_option maxRecDepth 20000 in
theorem ggX12_undo_X12_put : GoodIn wsX12_undo wsX12_put := goodIn_r _ [14, 1, 15, 16, 17, 18, 19, 20, 21, 22, 23, 24, 25, 26, 27, 28, 29, 30, 31, 32, 33, 34, 35, 36, 37, 38, 39, 40, 41, 42, 43, 44, 45, 46, 47, 48, 49, 50] (by decide +kernel) (by decide +kernel)
set_option maxRecDepth 20000 in
theorem gX12_undo_X12_put : GoodIn wsX12_undo (wsV RX12 103 RX12 yX12_put wsX12_put) := goodIn_app (goodIn_of _ (by decide +kernel)) ggX12_undo_X12_put
theorem dX12_undo_0 : decode cX12_undo 0 = .ok (.aload_n 0, 1) := by decide +kernel
theorem dX12_undo_1 : decode cX12_undo 1 = .ok (.getfield 7, 3) := by decide +kernel
theorem dX12_undo_4 : decode cX12_undo 4 = .ok (.iconst 3, 1) := by decide +kernel
theorem dX12_undo_5 : decode cX12_undo 5 = .ok (.iaload, 1) := by decide +kernel
theorem dX12_undo_6 : decode cX12_undo 6 = .ok (.ifCond .ne 5, 3) := by decide +kernel
theorem dX12_undo_9 : decode cX12_undo 9 = .ok (.iconst (-1), 1) := by decide +kernel
theorem dX12_undo_10 : decode cX12_undo 10 = .ok (.ireturn, 1) := by decide +kernel
theorem dX12_undo_11 : decode cX12_undo 11 = .ok (.aload_n 0, 1) := by decide +kernel
theorem dX12_undo_12 : decode cX12_undo 12 = .ok (.getfield 7, 3) := by decide +kernel
theorem dX12_undo_15 : decode cX12_undo 15 = .ok (.iconst 3, 1) := by decide +kernel
theorem dX12_undo_16 : decode cX12_undo 16 = .ok (.dup2, 1) := by decide +kernel
theorem dX12_undo_17 : decode cX12_undo 17 = .ok (.iaload, 1) := by decide +kernel
theorem dX12_undo_18 : decode cX12_undo 18 = .ok (.iconst 1, 1) := by decide +kernel
theorem dX12_undo_19 : decode cX12_undo 19 = .ok (.isub, 1) := by decide +kernel
theorem dX12_undo_20 : decode cX12_undo 20 = .ok (.iastore, 1) := by decide +kernel
theorem dX12_undo_21 : decode cX12_undo 21 = .ok (.bipush 104, 2) := by decide +kernel
theorem dX12_undo_23 : decode cX12_undo 23 = .ok (.bipush 65, 2) := by decide +kernel
theorem dX12_undo_25 : decode cX12_undo 25 = .ok (.aload_n 0, 1) := by decide +kernel
theorem dX12_undo_26 : decode cX12_undo 26 = .ok (.getfield 7, 3) := by decide +kernel
theorem dX12_undo_29 : decode cX12_undo 29 = .ok (.iconst 3, 1) := by decide +kernel
theorem dX12_undo_30 : decode cX12_undo 30 = .ok (.iaload, 1) := by decide +kernel
theorem dX12_undo_31 : decode cX12_undo 31 = .ok (.imul, 1) := by decide +kernel
theorem dX12_undo_32 : decode cX12_undo 32 = .ok (.iadd, 1) := by decide +kernel
theorem dX12_undo_33 : decode cX12_undo 33 = .ok (.istore_n 1, 1) := by decide +kernel
theorem dX12_undo_34 : decode cX12_undo 34 = .ok (.iconst 0, 1) := by decide +kernel
theorem dX12_undo_35 : decode cX12_undo 35 = .ok (.istore_n 2, 1) := by decide +kernel
theorem dX12_undo_36 : decode cX12_undo 36 = .ok (.iload_n 2, 1) := by decide +kernel
theorem dX12_undo_37 : decode cX12_undo 37 = .ok (.iconst 4, 1) := by decide +kernel
theorem dX12_undo_38 : decode cX12_undo 38 = .ok (.if_icmp .ge 27, 3) := by decide +kernel
theorem dX12_undo_41 : decode cX12_undo 41 = .ok (.aload_n 0, 1) := by decide +kernel
theorem dX12_undo_42 : decode cX12_undo 42 = .ok (.getfield 7, 3) := by decide +kernel
theorem dX12_undo_45 : decode cX12_undo 45 = .ok (.iconst 5, 1) := by decide +kernel
theorem dX12_undo_46 : decode cX12_undo 46 = .ok (.iload_n 2, 1) := by decide +kernel
theorem dX12_undo_47 : decode cX12_undo 47 = .ok (.iadd, 1) := by decide +kernel
theorem dX12_undo_48 : decode cX12_undo 48 = .ok (.aload_n 0, 1) := by decide +kernel
theorem dX12_undo_49 : decode cX12_undo 49 = .ok (.getfield 7, 3) := by decide +kernel
theorem dX12_undo_52 : decode cX12_undo 52 = .ok (.iload_n 1, 1) := by decide +kernel
theorem dX12_undo_53 : decode cX12_undo 53 = .ok (.iconst 1, 1) := by decide +kernel
theorem dX12_undo_54 : decode cX12_undo 54 = .ok (.iadd, 1) := by decide +kernel
theorem dX12_undo_55 : decode cX12_undo 55 = .ok (.iload_n 2, 1) := by decide +kernel
theorem dX12_undo_56 : decode cX12_undo 56 = .ok (.iadd, 1) := by decide +kernel
theorem dX12_undo_57 : decode cX12_undo 57 = .ok (.iaload, 1) := by decide +kernel
theorem dX12_undo_58 : decode cX12_undo 58 = .ok (.iastore, 1) := by decide +kernel
theorem dX12_undo_59 : decode cX12_undo 59 = .ok (.iinc 2 1, 3) := by decide +kernel
theorem dX12_undo_62 : decode cX12_undo 62 = .ok (.goto (-26), 3) := by decide +kernel
theorem dX12_undo_65 : decode cX12_undo 65 = .ok (.iconst 0, 1) := by decide +kernel
theorem dX12_undo_66 : decode cX12_undo 66 = .ok (.istore_n 2, 1) := by decide +kernel
theorem dX12_undo_67 : decode cX12_undo 67 = .ok (.iload_n 2, 1) := by decide +kernel
theorem dX12_undo_68 : decode cX12_undo 68 = .ok (.aload_n 0, 1) := by decide +kernel
theorem dX12_undo_69 : decode cX12_undo 69 = .ok (.getfield 7, 3) := by decide +kernel
theorem dX12_undo_72 : decode cX12_undo 72 = .ok (.iconst 0, 1) := by decide +kernel
theorem dX12_undo_73 : decode cX12_undo 73 = .ok (.iaload, 1) := by decide +kernel
theorem dX12_undo_74 : decode cX12_undo 74 = .ok (.if_icmp .ge 89, 3) := by decide +kernel
theorem dX12_undo_77 : decode cX12_undo 77 = .ok (.iload_n 2, 1) := by decide +kernel
theorem dX12_undo_78 : decode cX12_undo 78 = .ok (.aload_n 0, 1) := by decide +kernel
theorem dX12_undo_79 : decode cX12_undo 79 = .ok (.getfield 7, 3) := by decide +kernel
theorem dX12_undo_82 : decode cX12_undo 82 = .ok (.iload_n 1, 1) := by decide +kernel
theorem dX12_undo_83 : decode cX12_undo 83 = .ok (.iaload, 1) := by decide +kernel
theorem dX12_undo_84 : decode cX12_undo 84 = .ok (.if_icmp .lt 28, 3) := by decide +kernel
theorem dX12_undo_87 : decode cX12_undo 87 = .ok (.aload_n 0, 1) := by decide +kernel
theorem dX12_undo_88 : decode cX12_undo 88 = .ok (.iload_n 2, 1) := by decide +kernel
theorem dX12_undo_89 : decode cX12_undo 89 = .ok (.aload_n 0, 1) := by decide +kernel
theorem dX12_undo_90 : decode cX12_undo 90 = .ok (.iload_n 2, 1) := by decide +kernel
theorem dX12_undo_91 : decode cX12_undo 91 = .ok (.bipush 6, 2) := by decide +kernel
theorem dX12_undo_93 : decode cX12_undo 93 = .ok (.invokevirtual 92, 3) := by decide +kernel
theorem dX12_undo_96 : decode cX12_undo 96 = .ok (.invokevirtual 107, 3) := by decide +kernel
theorem dX12_undo_99 : decode cX12_undo 99 = .ok (.aload_n 0, 1) := by decide +kernel
theorem dX12_undo_100 : decode cX12_undo 100 = .ok (.iload_n 2, 1) := by decide +kernel
theorem dX12_undo_101 : decode cX12_undo 101 = .ok (.iconst 4, 1) := by decide +kernel
theorem dX12_undo_102 : decode cX12_undo 102 = .ok (.aload_n 0, 1) := by decide +kernel
theorem dX12_undo_103 : decode cX12_undo 103 = .ok (.iload_n 2, 1) := by decide +kernel
theorem dX12_undo_104 : decode cX12_undo 104 = .ok (.bipush 7, 2) := by decide +kernel
theorem dX12_undo_106 : decode cX12_undo 106 = .ok (.invokevirtual 92, 3) := by decide +kernel
theorem dX12_undo_109 : decode cX12_undo 109 = .ok (.invokevirtual 103, 3) := by decide +kernel
theorem dX12_undo_112 : decode cX12_undo 112 = .ok (.iconst 0, 1) := by decide +kernel
theorem dX12_undo_113 : decode cX12_undo 113 = .ok (.istore_n 3, 1) := by decide +kernel
theorem dX12_undo_114 : decode cX12_undo 114 = .ok (.iload_n 3, 1) := by decide +kernel
theorem dX12_undo_115 : decode cX12_undo 115 = .ok (.bipush 6, 2) := by decide +kernel
theorem dX12_undo_117 : decode cX12_undo 117 = .ok (.if_icmp .ge 40, 3) := by decide +kernel
theorem dX12_undo_120 : decode cX12_undo 120 = .ok (.iload_n 2, 1) := by decide +kernel
theorem dX12_undo_121 : decode cX12_undo 121 = .ok (.aload_n 0, 1) := by decide +kernel
theorem dX12_undo_122 : decode cX12_undo 122 = .ok (.getfield 7, 3) := by decide +kernel
theorem dX12_undo_125 : decode cX12_undo 125 = .ok (.iload_n 1, 1) := by decide +kernel
theorem dX12_undo_126 : decode cX12_undo 126 = .ok (.iaload, 1) := by decide +kernel
theorem dX12_undo_127 : decode cX12_undo 127 = .ok (.if_icmp .ge 30, 3) := by decide +kernel
theorem dX12_undo_130 : decode cX12_undo 130 = .ok (.aload_n 0, 1) := by decide +kernel
theorem dX12_undo_131 : decode cX12_undo 131 = .ok (.iload_n 2, 1) := by decide +kernel
theorem dX12_undo_132 : decode cX12_undo 132 = .ok (.iload_n 3, 1) := by decide +kernel
theorem dX12_undo_133 : decode cX12_undo 133 = .ok (.aload_n 0, 1) := by decide +kernel
theorem dX12_undo_134 : decode cX12_undo 134 = .ok (.getfield 7, 3) := by decide +kernel
theorem dX12_undo_137 : decode cX12_undo 137 = .ok (.iload_n 1, 1) := by decide +kernel
theorem dX12_undo_138 : decode cX12_undo 138 = .ok (.iconst 5, 1) := by decide +kernel
theorem dX12_undo_139 : decode cX12_undo 139 = .ok (.iadd, 1) := by decide +kernel
theorem dX12_undo_140 : decode cX12_undo 140 = .ok (.bipush 6, 2) := by decide +kernel
theorem dX12_undo_142 : decode cX12_undo 142 = .ok (.iload_n 2, 1) := by decide +kernel
theorem dX12_undo_143 : decode cX12_undo 143 = .ok (.imul, 1) := by decide +kernel
theorem dX12_undo_144 : decode cX12_undo 144 = .ok (.iadd, 1) := by decide +kernel
theorem dX12_undo_145 : decode cX12_undo 145 = .ok (.iload_n 3, 1) := by decide +kernel
theorem dX12_undo_146 : decode cX12_undo 146 = .ok (.iadd, 1) := by decide +kernel
theorem dX12_undo_147 : decode cX12_undo 147 = .ok (.iaload, 1) := by decide +kernel
theorem dX12_undo_148 : decode cX12_undo 148 = .ok (.invokevirtual 103, 3) := by decide +kernel
theorem dX12_undo_151 : decode cX12_undo 151 = .ok (.iinc 3 1, 3) := by decide +kernel
theorem dX12_undo_154 : decode cX12_undo 154 = .ok (.goto (-40), 3) := by decide +kernel
theorem dX12_undo_157 : decode cX12_undo 157 = .ok (.iinc 2 1, 3) := by decide +kernel
theorem dX12_undo_160 : decode cX12_undo 160 = .ok (.goto (-93), 3) := by decide +kernel
theorem dX12_undo_163 : decode cX12_undo 163 = .ok (.iconst 0, 1) := by decide +kernel
theorem dX12_undo_164 : decode cX12_undo 164 = .ok (.istore_n 2, 1) := by decide +kernel
theorem dX12_undo_165 : decode cX12_undo 165 = .ok (.iload_n 2, 1) := by decide +kernel
theorem dX12_undo_166 : decode cX12_undo 166 = .ok (.bipush 30, 2) := by decide +kernel
theorem dX12_undo_168 : decode cX12_undo 168 = .ok (.if_icmp .ge 30, 3) := by decide +kernel
theorem dX12_undo_171 : decode cX12_undo 171 = .ok (.aload_n 0, 1) := by decide +kernel
theorem dX12_undo_172 : decode cX12_undo 172 = .ok (.getfield 7, 3) := by decide +kernel
theorem dX12_undo_175 : decode cX12_undo 175 = .ok (.sipush 2054, 3) := by decide +kernel
theorem dX12_undo_178 : decode cX12_undo 178 = .ok (.iload_n 2, 1) := by decide +kernel
theorem dX12_undo_179 : decode cX12_undo 179 = .ok (.iadd, 1) := by decide +kernel
theorem dX12_undo_180 : decode cX12_undo 180 = .ok (.aload_n 0, 1) := by decide +kernel
theorem dX12_undo_181 : decode cX12_undo 181 = .ok (.getfield 7, 3) := by decide +kernel
theorem dX12_undo_184 : decode cX12_undo 184 = .ok (.iload_n 1, 1) := by decide +kernel
theorem dX12_undo_185 : decode cX12_undo 185 = .ok (.bipush 35, 2) := by decide +kernel
theorem dX12_undo_187 : decode cX12_undo 187 = .ok (.iadd, 1) := by decide +kernel
theorem dX12_undo_188 : decode cX12_undo 188 = .ok (.iload_n 2, 1) := by decide +kernel
theorem dX12_undo_189 : decode cX12_undo 189 = .ok (.iadd, 1) := by decide +kernel
theorem dX12_undo_190 : decode cX12_undo 190 = .ok (.iaload, 1) := by decide +kernel
theorem dX12_undo_191 : decode cX12_undo 191 = .ok (.iastore, 1) := by decide +kernel
theorem dX12_undo_192 : decode cX12_undo 192 = .ok (.iinc 2 1, 3) := by decide +kernel
theorem dX12_undo_195 : decode cX12_undo 195 = .ok (.goto (-30), 3) := by decide +kernel
theorem dX12_undo_198 : decode cX12_undo 198 = .ok (.aload_n 0, 1) := by decide +kernel
theorem dX12_undo_199 : decode cX12_undo 199 = .ok (.getfield 7, 3) := by decide +kernel
theorem dX12_undo_202 : decode cX12_undo 202 = .ok (.iconst 3, 1) := by decide +kernel
theorem dX12_undo_203 : decode cX12_undo 203 = .ok (.iaload, 1) := by decide +kernel
theorem dX12_undo_204 : decode cX12_undo 204 = .ok (.ireturn, 1) := by decide +kernel
set_option maxRecDepth 20000 in
theorem ggX12_ask_X12_isWaiting : GoodIn wsX12_ask wsX12_isWaiting := goodIn_r _ [5, 6, 7, 8, 4, 9, 10, 11, 12, 13, 14, 15, 16, 17, 105, 106, 107, 108, 109, 110, 111, 112, 113, 114, 115, 116, 117, 118, 119, 120, 121, 122, 123, 124, 125, 126, 127, 128, 129, 130, 131, 132, 133, 134, 135, 136, 137, 138, 139, 140] (by decide +kernel) (by decide +kernel)
set_option maxRecDepth 20000 in
theorem gX12_ask_X12_isWaiting : GoodIn wsX12_ask (wsV RX12 347 RX12 yX12_isWaiting wsX12_isWaiting) := goodIn_app (goodIn_of _ (by decide +kernel)) ggX12_ask_X12_isWaiting
set_option maxRecDepth 20000 in
theorem ggX12_ask_X12_keep : GoodIn wsX12_ask wsX12_keep := goodIn_r _ [21, 10, 14, 15, 16, 4, 17, 105, 106, 107, 108, 109, 110, 111, 112, 113, 114, 115, 116, 117, 118, 119, 120, 121, 122, 123, 124, 125, 126, 127, 128, 129, 130, 131, 132, 133, 134, 135, 136, 137, 138, 139, 140] (by decide +kernel) (by decide +kernel)
set_option maxRecDepth 20000 in
theorem gX12_ask_X12_keep : GoodIn wsX12_ask (wsV RX12 356 RX12 yX12_keep wsX12_keep) := goodIn_app (goodIn_of _ (by decide +kernel)) ggX12_ask_X12_keep
set_option maxRecDepth 20000 in
theorem ggX12_ask_X12_askNow : GoodIn wsX12_ask wsX12_askNow := goodIn_r _ [25, 10, 26, 27, 28, 29, 4, 30, 14, 15, 16, 17, 31, 32, 33, 34, 35, 36, 37, 38, 39, 40, 41, 42, 43, 44, 45, 46, 47, 48, 49, 50, 51, 52, 53, 54, 55, 56, 57, 58, 59, 60, 61, 62, 63, 64, 65, 66, 67, 68, 69, 70, 71, 72, 73, 74, 75, 76, 77, 78, 79, 80, 81, 82, 83, 84, 85, 86, 87, 88, 89, 90, 91, 92, 93, 94, 95, 96, 97, 98, 99, 100, 101, 102, 103, 104, 105, 106, 107, 108, 109, 110, 111, 112, 113, 114, 115, 116, 117, 118, 119, 120, 121, 122, 123, 124, 125, 126, 127, 128, 129, 130, 131, 132, 133, 134, 135, 136, 137, 138, 139, 140] (by decide +kernel) (by decide +kernel)
set_option maxRecDepth 20000 in
theorem gX12_ask_X12_askNow : GoodIn wsX12_ask (wsV RX12 353 RX12 yX12_askNow wsX12_askNow) := goodIn_app (goodIn_of _ (by decide +kernel)) ggX12_ask_X12_askNow
set_option maxRecDepth 20000 in
theorem ggX12_ask_X12_get : GoodIn wsX12_ask wsX12_get := goodIn_r _ [17, 10, 105, 106, 107, 108, 109, 110, 111, 112, 113, 114, 115, 116, 117, 118, 119, 120, 121, 122, 123, 124, 125, 126, 127, 128, 129, 130, 131, 132, 133, 134, 135, 136, 137, 138, 139, 140] (by decide +kernel) (by decide +kernel)
set_option maxRecDepth 20000 in
theorem gX12_ask_X12_get : GoodIn wsX12_ask (wsV RX12 92 RX12 yX12_get wsX12_get) := goodIn_app (goodIn_of _ (by decide +kernel)) ggX12_ask_X12_get
theorem dX12_ask_0 : decode cX12_ask 0 = .ok (.aload_n 0, 1) := by decide +kernel
theorem dX12_ask_1 : decode cX12_ask 1 = .ok (.iload_n 1, 1) := by decide +kernel
theorem dX12_ask_2 : decode cX12_ask 2 = .ok (.invokevirtual 347, 3) := by decide +kernel
theorem dX12_ask_5 : decode cX12_ask 5 = .ok (.ifCond .ne 5, 3) := by decide +kernel
theorem dX12_ask_8 : decode cX12_ask 8 = .ok (.iconst (-1), 1) := by decide +kernel
theorem dX12_ask_9 : decode cX12_ask 9 = .ok (.ireturn, 1) := by decide +kernel
theorem dX12_ask_10 : decode cX12_ask 10 = .ok (.aload_n 0, 1) := by decide +kernel
theorem dX12_ask_11 : decode cX12_ask 11 = .ok (.invokevirtual 356, 3) := by decide +kernel
theorem dX12_ask_14 : decode cX12_ask 14 = .ok (.aload_n 0, 1) := by decide +kernel
theorem dX12_ask_15 : decode cX12_ask 15 = .ok (.iload_n 1, 1) := by decide +kernel
theorem dX12_ask_16 : decode cX12_ask 16 = .ok (.invokevirtual 353, 3) := by decide +kernel
theorem dX12_ask_19 : decode cX12_ask 19 = .ok (.aload_n 0, 1) := by decide +kernel
theorem dX12_ask_20 : decode cX12_ask 20 = .ok (.iload_n 1, 1) := by decide +kernel
theorem dX12_ask_21 : decode cX12_ask 21 = .ok (.invokevirtual 347, 3) := by decide +kernel
theorem dX12_ask_24 : decode cX12_ask 24 = .ok (.ifCond .eq 12, 3) := by decide +kernel
theorem dX12_ask_27 : decode cX12_ask 27 = .ok (.aload_n 0, 1) := by decide +kernel
theorem dX12_ask_28 : decode cX12_ask 28 = .ok (.iload_n 1, 1) := by decide +kernel
theorem dX12_ask_29 : decode cX12_ask 29 = .ok (.iconst 0, 1) := by decide +kernel
theorem dX12_ask_30 : decode cX12_ask 30 = .ok (.invokevirtual 92, 3) := by decide +kernel
theorem dX12_ask_33 : decode cX12_ask 33 = .ok (.goto 5, 3) := by decide +kernel
theorem dX12_ask_36 : decode cX12_ask 36 = .ok (.bipush 12, 2) := by decide +kernel
theorem dX12_ask_38 : decode cX12_ask 38 = .ok (.ireturn, 1) := by decide +kernel
set_option maxRecDepth 20000 in
theorem ggX12_canGive_X12_isWaiting : GoodIn wsX12_canGive wsX12_isWaiting := goodIn_r _ [5, 6, 7, 8, 4, 9, 10, 11, 12, 13, 14, 15, 16, 17, 24, 25, 26, 27, 28, 29, 30, 31, 32, 33, 34, 35, 36, 37, 38, 39, 40, 41, 42, 43, 44, 45, 46, 47, 48, 49, 50, 51, 52, 53, 54, 55, 56, 57, 58, 59] (by decide +kernel) (by decide +kernel)
set_option maxRecDepth 20000 in
theorem gX12_canGive_X12_isWaiting : GoodIn wsX12_canGive (wsV RX12 347 RX12 yX12_isWaiting wsX12_isWaiting) := goodIn_app (goodIn_of _ (by decide +kernel)) ggX12_canGive_X12_isWaiting
set_option maxRecDepth 20000 in
theorem ggX12_canGive_X12_isWant : GoodIn wsX12_canGive wsX12_isWant := goodIn_r _ [20, 11, 12, 4, 13] (by decide +kernel) (by decide +kernel)
set_option maxRecDepth 20000 in
theorem gX12_canGive_X12_isWant : GoodIn wsX12_canGive (va_wsS RX12 100 yX12_isWant wsX12_isWant) := goodIn_app (goodIn_of _ (by decide +kernel)) ggX12_canGive_X12_isWant
set_option maxRecDepth 20000 in
theorem ggX12_canGive_X12_get : GoodIn wsX12_canGive wsX12_get := goodIn_r _ [17, 10, 24, 25, 26, 27, 28, 29, 30, 31, 32, 33, 34, 35, 36, 37, 38, 39, 40, 41, 42, 43, 44, 45, 46, 47, 48, 49, 50, 51, 52, 53, 54, 55, 56, 57, 58, 59] (by decide +kernel) (by decide +kernel)
set_option maxRecDepth 20000 in
theorem gX12_canGive_X12_get : GoodIn wsX12_canGive (wsV RX12 92 RX12 yX12_get wsX12_get) := goodIn_app (goodIn_of _ (by decide +kernel)) ggX12_canGive_X12_get
set_option maxRecDepth 20000 in
theorem ggX12_canGive_X12_has : GoodIn wsX12_canGive wsX12_has := goodIn_r _ [23] (by decide +kernel) (by decide +kernel)
set_option maxRecDepth 20000 in
theorem gX12_canGive_X12_has : GoodIn wsX12_canGive (va_wsS RX12 96 yX12_has wsX12_has) := goodIn_app (goodIn_of _ (by decide +kernel)) ggX12_canGive_X12_has
theorem dX12_canGive_0 : decode cX12_canGive 0 = .ok (.aload_n 0, 1) := by decide +kernel
theorem dX12_canGive_1 : decode cX12_canGive 1 = .ok (.iload_n 1, 1) := by decide +kernel
theorem dX12_canGive_2 : decode cX12_canGive 2 = .ok (.invokevirtual 347, 3) := by decide +kernel
theorem dX12_canGive_5 : decode cX12_canGive 5 = .ok (.ifCond .eq 37, 3) := by decide +kernel
theorem dX12_canGive_8 : decode cX12_canGive 8 = .ok (.iload_n 2, 1) := by decide +kernel
theorem dX12_canGive_9 : decode cX12_canGive 9 = .ok (.invokestatic 100, 3) := by decide +kernel
theorem dX12_canGive_12 : decode cX12_canGive 12 = .ok (.ifCond .eq 30, 3) := by decide +kernel
theorem dX12_canGive_15 : decode cX12_canGive 15 = .ok (.iload_n 2, 1) := by decide +kernel
theorem dX12_canGive_16 : decode cX12_canGive 16 = .ok (.aload_n 0, 1) := by decide +kernel
theorem dX12_canGive_17 : decode cX12_canGive 17 = .ok (.iload_n 1, 1) := by decide +kernel
theorem dX12_canGive_18 : decode cX12_canGive 18 = .ok (.iconst 0, 1) := by decide +kernel
theorem dX12_canGive_19 : decode cX12_canGive 19 = .ok (.invokevirtual 92, 3) := by decide +kernel
theorem dX12_canGive_22 : decode cX12_canGive 22 = .ok (.if_icmp .eq 20, 3) := by decide +kernel
theorem dX12_canGive_25 : decode cX12_canGive 25 = .ok (.aload_n 0, 1) := by decide +kernel
theorem dX12_canGive_26 : decode cX12_canGive 26 = .ok (.iload_n 1, 1) := by decide +kernel
theorem dX12_canGive_27 : decode cX12_canGive 27 = .ok (.iconst 5, 1) := by decide +kernel
theorem dX12_canGive_28 : decode cX12_canGive 28 = .ok (.invokevirtual 92, 3) := by decide +kernel
theorem dX12_canGive_31 : decode cX12_canGive 31 = .ok (.iload_n 2, 1) := by decide +kernel
theorem dX12_canGive_32 : decode cX12_canGive 32 = .ok (.invokestatic 96, 3) := by decide +kernel
theorem dX12_canGive_35 : decode cX12_canGive 35 = .ok (.ifCond .ne 7, 3) := by decide +kernel
theorem dX12_canGive_38 : decode cX12_canGive 38 = .ok (.iconst 1, 1) := by decide +kernel
theorem dX12_canGive_39 : decode cX12_canGive 39 = .ok (.goto 4, 3) := by decide +kernel
theorem dX12_canGive_42 : decode cX12_canGive 42 = .ok (.iconst 0, 1) := by decide +kernel
theorem dX12_canGive_43 : decode cX12_canGive 43 = .ok (.ireturn, 1) := by decide +kernel
set_option maxRecDepth 20000 in
theorem ggX12_giveNow_X12_get : GoodIn wsX12_giveNow wsX12_get := goodIn_r _ [5, 6, 18, 19, 20, 21, 22, 23, 24, 25, 26, 27, 28, 29, 30, 31, 32, 33, 34, 35, 36, 37, 38, 39, 40, 41, 42, 43, 44, 45, 46, 47, 48, 49, 50, 51, 52, 53] (by decide +kernel) (by decide +kernel)
set_option maxRecDepth 20000 in
theorem gX12_giveNow_X12_get : GoodIn wsX12_giveNow (wsV RX12 92 RX12 yX12_get wsX12_get) := goodIn_app (goodIn_of _ (by decide +kernel)) ggX12_giveNow_X12_get
set_option maxRecDepth 20000 in
theorem ggX12_giveNow_X12_put : GoodIn wsX12_giveNow wsX12_put := goodIn_r _ [10, 6, 18, 19, 20, 21, 22, 23, 24, 25, 26, 27, 28, 29, 30, 31, 32, 33, 34, 35, 36, 37, 38, 39, 40, 41, 42, 43, 44, 45, 46, 47, 48, 49, 50, 51, 52, 53] (by decide +kernel) (by decide +kernel)
set_option maxRecDepth 20000 in
theorem gX12_giveNow_X12_put : GoodIn wsX12_giveNow (wsV RX12 103 RX12 yX12_put wsX12_put) := goodIn_app (goodIn_of _ (by decide +kernel)) ggX12_giveNow_X12_put
set_option maxRecDepth 20000 in
theorem ggX12_giveNow_X12_weep : GoodIn wsX12_giveNow wsX12_weep := goodIn_r _ [14, 6, 1, 2, 3, 4, 5, 15, 16, 17, 7, 8, 9, 10, 18, 19, 20, 21, 22, 23, 24, 25, 26, 27, 28, 29, 30, 31, 32, 33, 34, 35, 36, 37, 38, 39, 40, 41, 42, 43, 44, 45, 46, 47, 48, 49, 50, 51, 52, 53] (by decide +kernel) (by decide +kernel)
set_option maxRecDepth 20000 in
theorem gX12_giveNow_X12_weep : GoodIn wsX12_giveNow (wsV RX12 334 RX12 yX12_weep wsX12_weep) := goodIn_app (goodIn_of _ (by decide +kernel)) ggX12_giveNow_X12_weep
theorem dX12_giveNow_0 : decode cX12_giveNow 0 = .ok (.aload_n 0, 1) := by decide +kernel
theorem dX12_giveNow_1 : decode cX12_giveNow 1 = .ok (.iload_n 1, 1) := by decide +kernel
theorem dX12_giveNow_2 : decode cX12_giveNow 2 = .ok (.iconst 5, 1) := by decide +kernel
theorem dX12_giveNow_3 : decode cX12_giveNow 3 = .ok (.aload_n 0, 1) := by decide +kernel
theorem dX12_giveNow_4 : decode cX12_giveNow 4 = .ok (.iload_n 1, 1) := by decide +kernel
theorem dX12_giveNow_5 : decode cX12_giveNow 5 = .ok (.iconst 5, 1) := by decide +kernel
theorem dX12_giveNow_6 : decode cX12_giveNow 6 = .ok (.invokevirtual 92, 3) := by decide +kernel
theorem dX12_giveNow_9 : decode cX12_giveNow 9 = .ok (.iconst 1, 1) := by decide +kernel
theorem dX12_giveNow_10 : decode cX12_giveNow 10 = .ok (.iload_n 2, 1) := by decide +kernel
theorem dX12_giveNow_11 : decode cX12_giveNow 11 = .ok (.ishl, 1) := by decide +kernel
theorem dX12_giveNow_12 : decode cX12_giveNow 12 = .ok (.ior, 1) := by decide +kernel
theorem dX12_giveNow_13 : decode cX12_giveNow 13 = .ok (.invokevirtual 103, 3) := by decide +kernel
theorem dX12_giveNow_16 : decode cX12_giveNow 16 = .ok (.aload_n 0, 1) := by decide +kernel
theorem dX12_giveNow_17 : decode cX12_giveNow 17 = .ok (.iload_n 1, 1) := by decide +kernel
theorem dX12_giveNow_18 : decode cX12_giveNow 18 = .ok (.iload_n 2, 1) := by decide +kernel
theorem dX12_giveNow_19 : decode cX12_giveNow 19 = .ok (.invokevirtual 334, 3) := by decide +kernel
theorem dX12_giveNow_22 : decode cX12_giveNow 22 = .ok (.return_, 1) := by decide +kernel
set_option maxRecDepth 20000 in
theorem ggX12_give_X12_canGive : GoodIn wsX12_give wsX12_canGive := goodIn_r _ [5, 6, 7, 8, 4, 9, 10, 11, 12, 13, 14, 15, 16, 17, 18, 19, 20, 21, 22, 23, 24, 25, 26, 27, 47, 48, 49, 50, 51, 52, 53, 54, 55, 56, 57, 58, 59, 60, 61, 62, 63, 64, 65, 66, 67, 68, 69, 70, 71, 72, 73, 74, 75, 76, 77, 78, 79, 80, 81, 82] (by decide +kernel) (by decide +kernel)
set_option maxRecDepth 20000 in
theorem gX12_give_X12_canGive : GoodIn wsX12_give (wsV RX12 359 RX12 yX12_canGive wsX12_canGive) := goodIn_app (goodIn_of _ (by decide +kernel)) ggX12_give_X12_canGive
set_option maxRecDepth 20000 in
theorem ggX12_give_X12_keep : GoodIn wsX12_give wsX12_keep := goodIn_r _ [31, 14, 18, 19, 20, 4, 21, 47, 48, 49, 50, 51, 52, 53, 54, 55, 56, 57, 58, 59, 60, 61, 62, 63, 64, 65, 66, 67, 68, 69, 70, 71, 72, 73, 74, 75, 76, 77, 78, 79, 80, 81, 82] (by decide +kernel) (by decide +kernel)
set_option maxRecDepth 20000 in
theorem gX12_give_X12_keep : GoodIn wsX12_give (wsV RX12 356 RX12 yX12_keep wsX12_keep) := goodIn_app (goodIn_of _ (by decide +kernel)) ggX12_give_X12_keep
set_option maxRecDepth 20000 in
theorem ggX12_give_X12_giveNow : GoodIn wsX12_give wsX12_giveNow := goodIn_r _ [35, 18, 19, 20, 4, 21, 14, 36, 37, 38, 39, 40, 41, 42, 43, 44, 45, 46, 47, 48, 49, 50, 51, 52, 53, 54, 55, 56, 57, 58, 59, 60, 61, 62, 63, 64, 65, 66, 67, 68, 69, 70, 71, 72, 73, 74, 75, 76, 77, 78, 79, 80, 81, 82] (by decide +kernel) (by decide +kernel)
set_option maxRecDepth 20000 in
theorem gX12_give_X12_giveNow : GoodIn wsX12_give (wsV RX12 362 RX12 yX12_giveNow wsX12_giveNow) := goodIn_app (goodIn_of _ (by decide +kernel)) ggX12_give_X12_giveNow
theorem dX12_give_0 : decode cX12_give 0 = .ok (.aload_n 0, 1) := by decide +kernel
theorem dX12_give_1 : decode cX12_give 1 = .ok (.iload_n 1, 1) := by decide +kernel
theorem dX12_give_2 : decode cX12_give 2 = .ok (.iload_n 2, 1) := by decide +kernel
theorem dX12_give_3 : decode cX12_give 3 = .ok (.invokevirtual 359, 3) := by decide +kernel
theorem dX12_give_6 : decode cX12_give 6 = .ok (.ifCond .ne 5, 3) := by decide +kernel
theorem dX12_give_9 : decode cX12_give 9 = .ok (.iconst 0, 1) := by decide +kernel
theorem dX12_give_10 : decode cX12_give 10 = .ok (.ireturn, 1) := by decide +kernel
theorem dX12_give_11 : decode cX12_give 11 = .ok (.aload_n 0, 1) := by decide +kernel
theorem dX12_give_12 : decode cX12_give 12 = .ok (.invokevirtual 356, 3) := by decide +kernel
theorem dX12_give_15 : decode cX12_give 15 = .ok (.aload_n 0, 1) := by decide +kernel
theorem dX12_give_16 : decode cX12_give 16 = .ok (.iload_n 1, 1) := by decide +kernel
theorem dX12_give_17 : decode cX12_give 17 = .ok (.iload_n 2, 1) := by decide +kernel
theorem dX12_give_18 : decode cX12_give 18 = .ok (.invokevirtual 362, 3) := by decide +kernel
theorem dX12_give_21 : decode cX12_give 21 = .ok (.iconst 1, 1) := by decide +kernel
theorem dX12_give_22 : decode cX12_give 22 = .ok (.ireturn, 1) := by decide +kernel
set_option maxRecDepth 20000 in
theorem ggX12_canCome_X12_isPerson : GoodIn wsX12_canCome wsX12_isPerson := goodIn_r _ [5, 6, 7, 8, 4, 9, 21, 22, 23, 24, 25, 26, 27, 28, 29, 30, 31, 32, 33, 34, 35, 36, 37, 38, 39, 40, 41, 42, 43, 44, 45, 46, 47, 48, 49, 50, 51, 52, 53, 54, 55, 56] (by decide +kernel) (by decide +kernel)
set_option maxRecDepth 20000 in
theorem gX12_canCome_X12_isPerson : GoodIn wsX12_canCome (wsV RX12 88 RX12 yX12_isPerson wsX12_isPerson) := goodIn_app (goodIn_of _ (by decide +kernel)) ggX12_canCome_X12_isPerson
set_option maxRecDepth 20000 in
theorem ggX12_canCome_X12_isWaiting : GoodIn wsX12_canCome wsX12_isWaiting := goodIn_r _ [13, 1, 2, 3, 4, 5, 6, 7, 8, 9, 14, 15, 16, 17, 21, 22, 23, 24, 25, 26, 27, 28, 29, 30, 31, 32, 33, 34, 35, 36, 37, 38, 39, 40, 41, 42, 43, 44, 45, 46, 47, 48, 49, 50, 51, 52, 53, 54, 55, 56] (by decide +kernel) (by decide +kernel)
set_option maxRecDepth 20000 in
theorem gX12_canCome_X12_isWaiting : GoodIn wsX12_canCome (wsV RX12 347 RX12 yX12_isWaiting wsX12_isWaiting) := goodIn_app (goodIn_of _ (by decide +kernel)) ggX12_canCome_X12_isWaiting
set_option maxRecDepth 20000 in
theorem ggX12_canCome_X12_isWant : GoodIn wsX12_canCome wsX12_isWant := goodIn_r _ [20, 7, 8, 4, 9] (by decide +kernel) (by decide +kernel)
set_option maxRecDepth 20000 in
theorem gX12_canCome_X12_isWant : GoodIn wsX12_canCome (va_wsS RX12 100 yX12_isWant wsX12_isWant) := goodIn_app (goodIn_of _ (by decide +kernel)) ggX12_canCome_X12_isWant
theorem dX12_canCome_0 : decode cX12_canCome 0 = .ok (.aload_n 0, 1) := by decide +kernel
theorem dX12_canCome_1 : decode cX12_canCome 1 = .ok (.iload_n 1, 1) := by decide +kernel
theorem dX12_canCome_2 : decode cX12_canCome 2 = .ok (.invokevirtual 88, 3) := by decide +kernel
theorem dX12_canCome_5 : decode cX12_canCome 5 = .ok (.ifCond .eq 22, 3) := by decide +kernel
theorem dX12_canCome_8 : decode cX12_canCome 8 = .ok (.aload_n 0, 1) := by decide +kernel
theorem dX12_canCome_9 : decode cX12_canCome 9 = .ok (.iload_n 1, 1) := by decide +kernel
theorem dX12_canCome_10 : decode cX12_canCome 10 = .ok (.invokevirtual 347, 3) := by decide +kernel
theorem dX12_canCome_13 : decode cX12_canCome 13 = .ok (.ifCond .ne 14, 3) := by decide +kernel
theorem dX12_canCome_16 : decode cX12_canCome 16 = .ok (.iload_n 2, 1) := by decide +kernel
theorem dX12_canCome_17 : decode cX12_canCome 17 = .ok (.invokestatic 100, 3) := by decide +kernel
theorem dX12_canCome_20 : decode cX12_canCome 20 = .ok (.ifCond .eq 7, 3) := by decide +kernel
theorem dX12_canCome_23 : decode cX12_canCome 23 = .ok (.iconst 1, 1) := by decide +kernel
theorem dX12_canCome_24 : decode cX12_canCome 24 = .ok (.goto 4, 3) := by decide +kernel
theorem dX12_canCome_27 : decode cX12_canCome 27 = .ok (.iconst 0, 1) := by decide +kernel
theorem dX12_canCome_28 : decode cX12_canCome 28 = .ok (.ireturn, 1) := by decide +kernel
set_option maxRecDepth 20000 in
theorem ggX12_again_X12_canCome : GoodIn wsX12_again wsX12_canCome := goodIn_r _ [5, 6, 7, 8, 4, 9, 10, 11, 12, 13, 14, 15, 16, 17, 18, 19, 20, 21, 22, 23, 24, 37, 38, 39, 40, 41, 42, 43, 44, 45, 46, 47, 48, 49, 50, 51, 52, 53, 54, 55, 56, 57, 58, 59, 60, 61, 62, 63, 64, 65, 66, 67, 68, 69, 70, 71, 72] (by decide +kernel) (by decide +kernel)
set_option maxRecDepth 20000 in
theorem gX12_again_X12_canCome : GoodIn wsX12_again (wsV RX12 365 RX12 yX12_canCome wsX12_canCome) := goodIn_app (goodIn_of _ (by decide +kernel)) ggX12_again_X12_canCome
set_option maxRecDepth 20000 in
theorem ggX12_again_X12_keep : GoodIn wsX12_again wsX12_keep := goodIn_r _ [28, 10, 18, 19, 20, 4, 21, 37, 38, 39, 40, 41, 42, 43, 44, 45, 46, 47, 48, 49, 50, 51, 52, 53, 54, 55, 56, 57, 58, 59, 60, 61, 62, 63, 64, 65, 66, 67, 68, 69, 70, 71, 72] (by decide +kernel) (by decide +kernel)
set_option maxRecDepth 20000 in
theorem gX12_again_X12_keep : GoodIn wsX12_again (wsV RX12 356 RX12 yX12_keep wsX12_keep) := goodIn_app (goodIn_of _ (by decide +kernel)) ggX12_again_X12_keep
set_option maxRecDepth 20000 in
theorem ggX12_again_X12_begin : GoodIn wsX12_again wsX12_begin := goodIn_r _ [32, 33, 34, 35, 4, 36, 10, 37, 38, 39, 40, 41, 42, 43, 44, 45, 46, 47, 48, 49, 50, 51, 52, 53, 54, 55, 56, 57, 58, 59, 60, 61, 62, 63, 64, 65, 66, 67, 68, 69, 70, 71, 72] (by decide +kernel) (by decide +kernel)
set_option maxRecDepth 20000 in
theorem gX12_again_X12_begin : GoodIn wsX12_again (wsV RX12 107 RX12 yX12_begin wsX12_begin) := goodIn_app (goodIn_of _ (by decide +kernel)) ggX12_again_X12_begin
theorem dX12_again_0 : decode cX12_again 0 = .ok (.aload_n 0, 1) := by decide +kernel
theorem dX12_again_1 : decode cX12_again 1 = .ok (.iload_n 1, 1) := by decide +kernel
theorem dX12_again_2 : decode cX12_again 2 = .ok (.iload_n 2, 1) := by decide +kernel
theorem dX12_again_3 : decode cX12_again 3 = .ok (.invokevirtual 365, 3) := by decide +kernel
theorem dX12_again_6 : decode cX12_again 6 = .ok (.ifCond .ne 5, 3) := by decide +kernel
theorem dX12_again_9 : decode cX12_again 9 = .ok (.iconst 0, 1) := by decide +kernel
theorem dX12_again_10 : decode cX12_again 10 = .ok (.ireturn, 1) := by decide +kernel
theorem dX12_again_11 : decode cX12_again 11 = .ok (.aload_n 0, 1) := by decide +kernel
theorem dX12_again_12 : decode cX12_again 12 = .ok (.invokevirtual 356, 3) := by decide +kernel
theorem dX12_again_15 : decode cX12_again 15 = .ok (.aload_n 0, 1) := by decide +kernel
theorem dX12_again_16 : decode cX12_again 16 = .ok (.iload_n 1, 1) := by decide +kernel
