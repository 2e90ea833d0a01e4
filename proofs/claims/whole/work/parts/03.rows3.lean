theorem dX12_four_12 : decode cX12_four 12 = .ok (.getfield 111, 3) := by decide +kernel
theorem dX12_four_15 : decode cX12_four 15 = .ok (.iload_n 1, 1) := by decide +kernel
theorem dX12_four_16 : decode cX12_four 16 = .ok (.iload_n 2, 1) := by decide +kernel
theorem dX12_four_17 : decode cX12_four 17 = .ok (.ishr, 1) := by decide +kernel
theorem dX12_four_18 : decode cX12_four 18 = .ok (.sipush 255, 3) := by decide +kernel
theorem dX12_four_21 : decode cX12_four 21 = .ok (.iand, 1) := by decide +kernel
theorem dX12_four_22 : decode cX12_four 22 = .ok (.iastore, 1) := by decide +kernel
theorem dX12_four_23 : decode cX12_four 23 = .ok (.aload_n 0, 1) := by decide +kernel
theorem dX12_four_24 : decode cX12_four 24 = .ok (.dup, 1) := by decide +kernel
theorem dX12_four_25 : decode cX12_four 25 = .ok (.getfield 111, 3) := by decide +kernel
theorem dX12_four_28 : decode cX12_four 28 = .ok (.iconst 1, 1) := by decide +kernel
theorem dX12_four_29 : decode cX12_four 29 = .ok (.iadd, 1) := by decide +kernel
theorem dX12_four_30 : decode cX12_four 30 = .ok (.putfield 111, 3) := by decide +kernel
theorem dX12_four_33 : decode cX12_four 33 = .ok (.iinc 2 (-8), 3) := by decide +kernel
theorem dX12_four_36 : decode cX12_four 36 = .ok (.goto (-33), 3) := by decide +kernel
theorem dX12_four_39 : decode cX12_four 39 = .ok (.return_, 1) := by decide +kernel
theorem dX12_feed_0 : decode cX12_feed 0 = .ok (.aload_n 0, 1) := by decide +kernel
theorem dX12_feed_1 : decode cX12_feed 1 = .ok (.getfield 111, 3) := by decide +kernel
theorem dX12_feed_4 : decode cX12_feed 4 = .ok (.bipush 20, 2) := by decide +kernel
theorem dX12_feed_6 : decode cX12_feed 6 = .ok (.iadd, 1) := by decide +kernel
theorem dX12_feed_7 : decode cX12_feed 7 = .ok (.sipush 300, 3) := by decide +kernel
theorem dX12_feed_10 : decode cX12_feed 10 = .ok (.if_icmp .le 5, 3) := by decide +kernel
theorem dX12_feed_13 : decode cX12_feed 13 = .ok (.iconst (-1), 1) := by decide +kernel
theorem dX12_feed_14 : decode cX12_feed 14 = .ok (.ireturn, 1) := by decide +kernel
theorem dX12_feed_15 : decode cX12_feed 15 = .ok (.aload_n 0, 1) := by decide +kernel
theorem dX12_feed_16 : decode cX12_feed 16 = .ok (.iload_n 1, 1) := by decide +kernel
theorem dX12_feed_17 : decode cX12_feed 17 = .ok (.invokevirtual 114, 3) := by decide +kernel
theorem dX12_feed_20 : decode cX12_feed 20 = .ok (.aload_n 0, 1) := by decide +kernel
theorem dX12_feed_21 : decode cX12_feed 21 = .ok (.iload_n 2, 1) := by decide +kernel
theorem dX12_feed_22 : decode cX12_feed 22 = .ok (.invokevirtual 114, 3) := by decide +kernel
theorem dX12_feed_25 : decode cX12_feed 25 = .ok (.aload_n 0, 1) := by decide +kernel
theorem dX12_feed_26 : decode cX12_feed 26 = .ok (.iload_n 3, 1) := by decide +kernel
theorem dX12_feed_27 : decode cX12_feed 27 = .ok (.invokevirtual 114, 3) := by decide +kernel
theorem dX12_feed_30 : decode cX12_feed 30 = .ok (.aload_n 0, 1) := by decide +kernel
theorem dX12_feed_31 : decode cX12_feed 31 = .ok (.iload 4, 2) := by decide +kernel
theorem dX12_feed_33 : decode cX12_feed 33 = .ok (.invokevirtual 114, 3) := by decide +kernel
theorem dX12_feed_36 : decode cX12_feed 36 = .ok (.aload_n 0, 1) := by decide +kernel
theorem dX12_feed_37 : decode cX12_feed 37 = .ok (.iload 5, 2) := by decide +kernel
theorem dX12_feed_39 : decode cX12_feed 39 = .ok (.invokevirtual 114, 3) := by decide +kernel
theorem dX12_feed_42 : decode cX12_feed 42 = .ok (.aload_n 0, 1) := by decide +kernel
theorem dX12_feed_43 : decode cX12_feed 43 = .ok (.getfield 111, 3) := by decide +kernel
theorem dX12_feed_46 : decode cX12_feed 46 = .ok (.ireturn, 1) := by decide +kernel
theorem dX12_end_0 : decode cX12_end 0 = .ok (.iload_n 1, 1) := by decide +kernel
theorem dX12_end_1 : decode cX12_end 1 = .ok (.iconst 0, 1) := by decide +kernel
theorem dX12_end_2 : decode cX12_end 2 = .ok (.aload_n 0, 1) := by decide +kernel
theorem dX12_end_3 : decode cX12_end 3 = .ok (.getfield 111, 3) := by decide +kernel
theorem dX12_end_6 : decode cX12_end 6 = .ok (.invokestatic 84, 3) := by decide +kernel
theorem dX12_end_9 : decode cX12_end 9 = .ok (.ifCond .ne 5, 3) := by decide +kernel
theorem dX12_end_12 : decode cX12_end 12 = .ok (.iconst (-1), 1) := by decide +kernel
theorem dX12_end_13 : decode cX12_end 13 = .ok (.ireturn, 1) := by decide +kernel
theorem dX12_end_14 : decode cX12_end 14 = .ok (.aload_n 0, 1) := by decide +kernel
theorem dX12_end_15 : decode cX12_end 15 = .ok (.iload_n 1, 1) := by decide +kernel
theorem dX12_end_16 : decode cX12_end 16 = .ok (.putfield 111, 3) := by decide +kernel
theorem dX12_end_19 : decode cX12_end 19 = .ok (.iload_n 1, 1) := by decide +kernel
theorem dX12_end_20 : decode cX12_end 20 = .ok (.ireturn, 1) := by decide +kernel
theorem dX12_byteAt_0 : decode cX12_byteAt 0 = .ok (.iload_n 1, 1) := by decide +kernel
theorem dX12_byteAt_1 : decode cX12_byteAt 1 = .ok (.aload_n 0, 1) := by decide +kernel
theorem dX12_byteAt_2 : decode cX12_byteAt 2 = .ok (.getfield 111, 3) := by decide +kernel
theorem dX12_byteAt_5 : decode cX12_byteAt 5 = .ok (.if_icmp .ge 12, 3) := by decide +kernel
theorem dX12_byteAt_8 : decode cX12_byteAt 8 = .ok (.aload_n 0, 1) := by decide +kernel
theorem dX12_byteAt_9 : decode cX12_byteAt 9 = .ok (.getfield 25, 3) := by decide +kernel
theorem dX12_byteAt_12 : decode cX12_byteAt 12 = .ok (.iload_n 1, 1) := by decide +kernel
theorem dX12_byteAt_13 : decode cX12_byteAt 13 = .ok (.iaload, 1) := by decide +kernel
theorem dX12_byteAt_14 : decode cX12_byteAt 14 = .ok (.goto 4, 3) := by decide +kernel
theorem dX12_byteAt_17 : decode cX12_byteAt 17 = .ok (.iconst (-1), 1) := by decide +kernel
theorem dX12_byteAt_18 : decode cX12_byteAt 18 = .ok (.ireturn, 1) := by decide +kernel
theorem dX12_isLetterByte_0 : decode cX12_isLetterByte 0 = .ok (.iload_n 0, 1) := by decide +kernel
theorem dX12_isLetterByte_1 : decode cX12_isLetterByte 1 = .ok (.bipush 97, 2) := by decide +kernel
theorem dX12_isLetterByte_3 : decode cX12_isLetterByte 3 = .ok (.if_icmp .lt 9, 3) := by decide +kernel
theorem dX12_isLetterByte_6 : decode cX12_isLetterByte 6 = .ok (.iload_n 0, 1) := by decide +kernel
theorem dX12_isLetterByte_7 : decode cX12_isLetterByte 7 = .ok (.bipush 122, 2) := by decide +kernel
theorem dX12_isLetterByte_9 : decode cX12_isLetterByte 9 = .ok (.if_icmp .le 15, 3) := by decide +kernel
theorem dX12_isLetterByte_12 : decode cX12_isLetterByte 12 = .ok (.iload_n 0, 1) := by decide +kernel
theorem dX12_isLetterByte_13 : decode cX12_isLetterByte 13 = .ok (.bipush 65, 2) := by decide +kernel
theorem dX12_isLetterByte_15 : decode cX12_isLetterByte 15 = .ok (.if_icmp .lt 13, 3) := by decide +kernel
theorem dX12_isLetterByte_18 : decode cX12_isLetterByte 18 = .ok (.iload_n 0, 1) := by decide +kernel
theorem dX12_isLetterByte_19 : decode cX12_isLetterByte 19 = .ok (.bipush 90, 2) := by decide +kernel
theorem dX12_isLetterByte_21 : decode cX12_isLetterByte 21 = .ok (.if_icmp .gt 7, 3) := by decide +kernel
theorem dX12_isLetterByte_24 : decode cX12_isLetterByte 24 = .ok (.iconst 1, 1) := by decide +kernel
theorem dX12_isLetterByte_25 : decode cX12_isLetterByte 25 = .ok (.goto 4, 3) := by decide +kernel
theorem dX12_isLetterByte_28 : decode cX12_isLetterByte 28 = .ok (.iconst 0, 1) := by decide +kernel
theorem dX12_isLetterByte_29 : decode cX12_isLetterByte 29 = .ok (.ireturn, 1) := by decide +kernel
theorem dX12_isFigure_0 : decode cX12_isFigure 0 = .ok (.iload_n 0, 1) := by decide +kernel
theorem dX12_isFigure_1 : decode cX12_isFigure 1 = .ok (.bipush 48, 2) := by decide +kernel
theorem dX12_isFigure_3 : decode cX12_isFigure 3 = .ok (.if_icmp .lt 13, 3) := by decide +kernel
theorem dX12_isFigure_6 : decode cX12_isFigure 6 = .ok (.iload_n 0, 1) := by decide +kernel
theorem dX12_isFigure_7 : decode cX12_isFigure 7 = .ok (.bipush 57, 2) := by decide +kernel
theorem dX12_isFigure_9 : decode cX12_isFigure 9 = .ok (.if_icmp .gt 7, 3) := by decide +kernel
theorem dX12_isFigure_12 : decode cX12_isFigure 12 = .ok (.iconst 1, 1) := by decide +kernel
theorem dX12_isFigure_13 : decode cX12_isFigure 13 = .ok (.goto 4, 3) := by decide +kernel
theorem dX12_isFigure_16 : decode cX12_isFigure 16 = .ok (.iconst 0, 1) := by decide +kernel
theorem dX12_isFigure_17 : decode cX12_isFigure 17 = .ok (.ireturn, 1) := by decide +kernel
theorem dX12_isSign_0 : decode cX12_isSign 0 = .ok (.iload_n 0, 1) := by decide +kernel
theorem dX12_isSign_1 : decode cX12_isSign 1 = .ok (.tableswitch 129 35 62 #[127, 129, 129, 129, 129, 127, 127, 127, 127, 129, 127, 129, 127, 129, 129, 129, 129, 129, 129, 129, 129, 129, 129, 127, 127, 127, 127, 127], 127) := by decide +kernel
theorem dX12_isSign_128 : decode cX12_isSign 128 = .ok (.iconst 1, 1) := by decide +kernel
theorem dX12_isSign_129 : decode cX12_isSign 129 = .ok (.ireturn, 1) := by decide +kernel
theorem dX12_isSign_130 : decode cX12_isSign 130 = .ok (.iconst 0, 1) := by decide +kernel
theorem dX12_isSign_131 : decode cX12_isSign 131 = .ok (.ireturn, 1) := by decide +kernel
theorem dX12_nextToken_0 : decode cX12_nextToken 0 = .ok (.aload_n 0, 1) := by decide +kernel
theorem dX12_nextToken_1 : decode cX12_nextToken 1 = .ok (.aload_n 0, 1) := by decide +kernel
theorem dX12_nextToken_2 : decode cX12_nextToken 2 = .ok (.getfield 118, 3) := by decide +kernel
theorem dX12_nextToken_5 : decode cX12_nextToken 5 = .ok (.invokevirtual 121, 3) := by decide +kernel
theorem dX12_nextToken_8 : decode cX12_nextToken 8 = .ok (.bipush 32, 2) := by decide +kernel
theorem dX12_nextToken_10 : decode cX12_nextToken 10 = .ok (.if_icmp .eq 16, 3) := by decide +kernel
theorem dX12_nextToken_13 : decode cX12_nextToken 13 = .ok (.aload_n 0, 1) := by decide +kernel
theorem dX12_nextToken_14 : decode cX12_nextToken 14 = .ok (.aload_n 0, 1) := by decide +kernel
theorem dX12_nextToken_15 : decode cX12_nextToken 15 = .ok (.getfield 118, 3) := by decide +kernel
theorem dX12_nextToken_18 : decode cX12_nextToken 18 = .ok (.invokevirtual 121, 3) := by decide +kernel
theorem dX12_nextToken_21 : decode cX12_nextToken 21 = .ok (.bipush 10, 2) := by decide +kernel
theorem dX12_nextToken_23 : decode cX12_nextToken 23 = .ok (.if_icmp .ne 16, 3) := by decide +kernel
theorem dX12_nextToken_26 : decode cX12_nextToken 26 = .ok (.aload_n 0, 1) := by decide +kernel
theorem dX12_nextToken_27 : decode cX12_nextToken 27 = .ok (.dup, 1) := by decide +kernel
theorem dX12_nextToken_28 : decode cX12_nextToken 28 = .ok (.getfield 118, 3) := by decide +kernel
theorem dX12_nextToken_31 : decode cX12_nextToken 31 = .ok (.iconst 1, 1) := by decide +kernel
theorem dX12_nextToken_32 : decode cX12_nextToken 32 = .ok (.iadd, 1) := by decide +kernel
theorem dX12_nextToken_33 : decode cX12_nextToken 33 = .ok (.putfield 118, 3) := by decide +kernel
theorem dX12_nextToken_36 : decode cX12_nextToken 36 = .ok (.goto (-36), 3) := by decide +kernel
theorem dX12_nextToken_39 : decode cX12_nextToken 39 = .ok (.aload_n 0, 1) := by decide +kernel
theorem dX12_nextToken_40 : decode cX12_nextToken 40 = .ok (.aload_n 0, 1) := by decide +kernel
theorem dX12_nextToken_41 : decode cX12_nextToken 41 = .ok (.getfield 118, 3) := by decide +kernel
theorem dX12_nextToken_44 : decode cX12_nextToken 44 = .ok (.putfield 125, 3) := by decide +kernel
theorem dX12_nextToken_47 : decode cX12_nextToken 47 = .ok (.aload_n 0, 1) := by decide +kernel
theorem dX12_nextToken_48 : decode cX12_nextToken 48 = .ok (.aload_n 0, 1) := by decide +kernel
theorem dX12_nextToken_49 : decode cX12_nextToken 49 = .ok (.getfield 118, 3) := by decide +kernel
theorem dX12_nextToken_52 : decode cX12_nextToken 52 = .ok (.invokevirtual 121, 3) := by decide +kernel
theorem dX12_nextToken_55 : decode cX12_nextToken 55 = .ok (.istore_n 1, 1) := by decide +kernel
theorem dX12_nextToken_56 : decode cX12_nextToken 56 = .ok (.iload_n 1, 1) := by decide +kernel
theorem dX12_nextToken_57 : decode cX12_nextToken 57 = .ok (.ifCond .ge 11, 3) := by decide +kernel
theorem dX12_nextToken_60 : decode cX12_nextToken 60 = .ok (.aload_n 0, 1) := by decide +kernel
theorem dX12_nextToken_61 : decode cX12_nextToken 61 = .ok (.iconst 0, 1) := by decide +kernel
theorem dX12_nextToken_62 : decode cX12_nextToken 62 = .ok (.putfield 128, 3) := by decide +kernel
theorem dX12_nextToken_65 : decode cX12_nextToken 65 = .ok (.goto 245, 3) := by decide +kernel
theorem dX12_nextToken_68 : decode cX12_nextToken 68 = .ok (.iload_n 1, 1) := by decide +kernel
theorem dX12_nextToken_69 : decode cX12_nextToken 69 = .ok (.invokestatic 131, 3) := by decide +kernel
theorem dX12_nextToken_72 : decode cX12_nextToken 72 = .ok (.ifCond .eq 79, 3) := by decide +kernel
theorem dX12_nextToken_75 : decode cX12_nextToken 75 = .ok (.aload_n 0, 1) := by decide +kernel
theorem dX12_nextToken_76 : decode cX12_nextToken 76 = .ok (.iconst 1, 1) := by decide +kernel
theorem dX12_nextToken_77 : decode cX12_nextToken 77 = .ok (.putfield 128, 3) := by decide +kernel
theorem dX12_nextToken_80 : decode cX12_nextToken 80 = .ok (.aload_n 0, 1) := by decide +kernel
theorem dX12_nextToken_81 : decode cX12_nextToken 81 = .ok (.iconst 0, 1) := by decide +kernel
theorem dX12_nextToken_82 : decode cX12_nextToken 82 = .ok (.putfield 134, 3) := by decide +kernel
theorem dX12_nextToken_85 : decode cX12_nextToken 85 = .ok (.aload_n 0, 1) := by decide +kernel
theorem dX12_nextToken_86 : decode cX12_nextToken 86 = .ok (.aload_n 0, 1) := by decide +kernel
theorem dX12_nextToken_87 : decode cX12_nextToken 87 = .ok (.getfield 118, 3) := by decide +kernel
theorem dX12_nextToken_90 : decode cX12_nextToken 90 = .ok (.invokevirtual 121, 3) := by decide +kernel
theorem dX12_nextToken_93 : decode cX12_nextToken 93 = .ok (.invokestatic 131, 3) := by decide +kernel
theorem dX12_nextToken_96 : decode cX12_nextToken 96 = .ok (.ifCond .eq 214, 3) := by decide +kernel
theorem dX12_nextToken_99 : decode cX12_nextToken 99 = .ok (.aload_n 0, 1) := by decide +kernel
theorem dX12_nextToken_100 : decode cX12_nextToken 100 = .ok (.aload_n 0, 1) := by decide +kernel
theorem dX12_nextToken_101 : decode cX12_nextToken 101 = .ok (.getfield 134, 3) := by decide +kernel
theorem dX12_nextToken_104 : decode cX12_nextToken 104 = .ok (.ldc 137, 2) := by decide +kernel
theorem dX12_nextToken_106 : decode cX12_nextToken 106 = .ok (.if_icmp .le 10, 3) := by decide +kernel
theorem dX12_nextToken_109 : decode cX12_nextToken 109 = .ok (.aload_n 0, 1) := by decide +kernel
theorem dX12_nextToken_110 : decode cX12_nextToken 110 = .ok (.getfield 134, 3) := by decide +kernel
theorem dX12_nextToken_113 : decode cX12_nextToken 113 = .ok (.goto 22, 3) := by decide +kernel
theorem dX12_nextToken_116 : decode cX12_nextToken 116 = .ok (.bipush 10, 2) := by decide +kernel
theorem dX12_nextToken_118 : decode cX12_nextToken 118 = .ok (.aload_n 0, 1) := by decide +kernel
theorem dX12_nextToken_119 : decode cX12_nextToken 119 = .ok (.getfield 134, 3) := by decide +kernel
theorem dX12_nextToken_122 : decode cX12_nextToken 122 = .ok (.imul, 1) := by decide +kernel
theorem dX12_nextToken_123 : decode cX12_nextToken 123 = .ok (.aload_n 0, 1) := by decide +kernel
theorem dX12_nextToken_124 : decode cX12_nextToken 124 = .ok (.aload_n 0, 1) := by decide +kernel
theorem dX12_nextToken_125 : decode cX12_nextToken 125 = .ok (.getfield 118, 3) := by decide +kernel
theorem dX12_nextToken_128 : decode cX12_nextToken 128 = .ok (.invokevirtual 121, 3) := by decide +kernel
theorem dX12_nextToken_131 : decode cX12_nextToken 131 = .ok (.iadd, 1) := by decide +kernel
theorem dX12_nextToken_132 : decode cX12_nextToken 132 = .ok (.bipush 48, 2) := by decide +kernel
theorem dX12_nextToken_134 : decode cX12_nextToken 134 = .ok (.isub, 1) := by decide +kernel
theorem dX12_nextToken_135 : decode cX12_nextToken 135 = .ok (.putfield 134, 3) := by decide +kernel
theorem dX12_nextToken_138 : decode cX12_nextToken 138 = .ok (.aload_n 0, 1) := by decide +kernel
theorem dX12_nextToken_139 : decode cX12_nextToken 139 = .ok (.dup, 1) := by decide +kernel
theorem dX12_nextToken_140 : decode cX12_nextToken 140 = .ok (.getfield 118, 3) := by decide +kernel
theorem dX12_nextToken_143 : decode cX12_nextToken 143 = .ok (.iconst 1, 1) := by decide +kernel
theorem dX12_nextToken_144 : decode cX12_nextToken 144 = .ok (.iadd, 1) := by decide +kernel
theorem dX12_nextToken_145 : decode cX12_nextToken 145 = .ok (.putfield 118, 3) := by decide +kernel
theorem dX12_nextToken_148 : decode cX12_nextToken 148 = .ok (.goto (-63), 3) := by decide +kernel
theorem dX12_nextToken_151 : decode cX12_nextToken 151 = .ok (.iload_n 1, 1) := by decide +kernel
theorem dX12_nextToken_152 : decode cX12_nextToken 152 = .ok (.invokestatic 138, 3) := by decide +kernel
theorem dX12_nextToken_155 : decode cX12_nextToken 155 = .ok (.ifCond .eq 79, 3) := by decide +kernel
theorem dX12_nextToken_158 : decode cX12_nextToken 158 = .ok (.aload_n 0, 1) := by decide +kernel
theorem dX12_nextToken_159 : decode cX12_nextToken 159 = .ok (.iconst 2, 1) := by decide +kernel
theorem dX12_nextToken_160 : decode cX12_nextToken 160 = .ok (.putfield 128, 3) := by decide +kernel
theorem dX12_nextToken_163 : decode cX12_nextToken 163 = .ok (.aload_n 0, 1) := by decide +kernel
theorem dX12_nextToken_164 : decode cX12_nextToken 164 = .ok (.lconst 0, 1) := by decide +kernel
theorem dX12_nextToken_165 : decode cX12_nextToken 165 = .ok (.putfield 141, 3) := by decide +kernel
theorem dX12_nextToken_168 : decode cX12_nextToken 168 = .ok (.aload_n 0, 1) := by decide +kernel
theorem dX12_nextToken_169 : decode cX12_nextToken 169 = .ok (.aload_n 0, 1) := by decide +kernel
theorem dX12_nextToken_170 : decode cX12_nextToken 170 = .ok (.getfield 118, 3) := by decide +kernel
theorem dX12_nextToken_173 : decode cX12_nextToken 173 = .ok (.invokevirtual 121, 3) := by decide +kernel
theorem dX12_nextToken_176 : decode cX12_nextToken 176 = .ok (.invokestatic 138, 3) := by decide +kernel
theorem dX12_nextToken_179 : decode cX12_nextToken 179 = .ok (.ifCond .eq 131, 3) := by decide +kernel
theorem dX12_nextToken_182 : decode cX12_nextToken 182 = .ok (.aload_n 0, 1) := by decide +kernel
theorem dX12_nextToken_183 : decode cX12_nextToken 183 = .ok (.aload_n 0, 1) := by decide +kernel
theorem dX12_nextToken_184 : decode cX12_nextToken 184 = .ok (.getfield 141, 3) := by decide +kernel
theorem dX12_nextToken_187 : decode cX12_nextToken 187 = .ok (.bipush 48, 2) := by decide +kernel
theorem dX12_nextToken_189 : decode cX12_nextToken 189 = .ok (.lshr, 1) := by decide +kernel
theorem dX12_nextToken_190 : decode cX12_nextToken 190 = .ok (.lconst 0, 1) := by decide +kernel
theorem dX12_nextToken_191 : decode cX12_nextToken 191 = .ok (.lcmp, 1) := by decide +kernel
theorem dX12_nextToken_192 : decode cX12_nextToken 192 = .ok (.ifCond .eq 9, 3) := by decide +kernel
theorem dX12_nextToken_195 : decode cX12_nextToken 195 = .ok (.ldc2_w 145, 3) := by decide +kernel
theorem dX12_nextToken_198 : decode cX12_nextToken 198 = .ok (.goto 20, 3) := by decide +kernel
theorem dX12_nextToken_201 : decode cX12_nextToken 201 = .ok (.aload_n 0, 1) := by decide +kernel
theorem dX12_nextToken_202 : decode cX12_nextToken 202 = .ok (.getfield 141, 3) := by decide +kernel
theorem dX12_nextToken_205 : decode cX12_nextToken 205 = .ok (.bipush 8, 2) := by decide +kernel
theorem dX12_nextToken_207 : decode cX12_nextToken 207 = .ok (.lshl, 1) := by decide +kernel
theorem dX12_nextToken_208 : decode cX12_nextToken 208 = .ok (.aload_n 0, 1) := by decide +kernel
theorem dX12_nextToken_209 : decode cX12_nextToken 209 = .ok (.aload_n 0, 1) := by decide +kernel
theorem dX12_nextToken_210 : decode cX12_nextToken 210 = .ok (.getfield 118, 3) := by decide +kernel
theorem dX12_nextToken_213 : decode cX12_nextToken 213 = .ok (.invokevirtual 121, 3) := by decide +kernel
theorem dX12_nextToken_216 : decode cX12_nextToken 216 = .ok (.i2l, 1) := by decide +kernel
theorem dX12_nextToken_217 : decode cX12_nextToken 217 = .ok (.lor, 1) := by decide +kernel
theorem dX12_nextToken_218 : decode cX12_nextToken 218 = .ok (.putfield 141, 3) := by decide +kernel
theorem dX12_nextToken_221 : decode cX12_nextToken 221 = .ok (.aload_n 0, 1) := by decide +kernel
theorem dX12_nextToken_222 : decode cX12_nextToken 222 = .ok (.dup, 1) := by decide +kernel
theorem dX12_nextToken_223 : decode cX12_nextToken 223 = .ok (.getfield 118, 3) := by decide +kernel
theorem dX12_nextToken_226 : decode cX12_nextToken 226 = .ok (.iconst 1, 1) := by decide +kernel
theorem dX12_nextToken_227 : decode cX12_nextToken 227 = .ok (.iadd, 1) := by decide +kernel
theorem dX12_nextToken_228 : decode cX12_nextToken 228 = .ok (.putfield 118, 3) := by decide +kernel
theorem dX12_nextToken_231 : decode cX12_nextToken 231 = .ok (.goto (-63), 3) := by decide +kernel
theorem dX12_nextToken_234 : decode cX12_nextToken 234 = .ok (.aload_n 0, 1) := by decide +kernel
theorem dX12_nextToken_235 : decode cX12_nextToken 235 = .ok (.iload_n 1, 1) := by decide +kernel
theorem dX12_nextToken_236 : decode cX12_nextToken 236 = .ok (.invokestatic 147, 3) := by decide +kernel
theorem dX12_nextToken_239 : decode cX12_nextToken 239 = .ok (.ifCond .eq 7, 3) := by decide +kernel
theorem dX12_nextToken_242 : decode cX12_nextToken 242 = .ok (.iload_n 1, 1) := by decide +kernel
theorem dX12_nextToken_243 : decode cX12_nextToken 243 = .ok (.goto 4, 3) := by decide +kernel
theorem dX12_nextToken_246 : decode cX12_nextToken 246 = .ok (.iconst 3, 1) := by decide +kernel
theorem dX12_nextToken_247 : decode cX12_nextToken 247 = .ok (.putfield 128, 3) := by decide +kernel
theorem dX12_nextToken_250 : decode cX12_nextToken 250 = .ok (.aload_n 0, 1) := by decide +kernel
theorem dX12_nextToken_251 : decode cX12_nextToken 251 = .ok (.dup, 1) := by decide +kernel
theorem dX12_nextToken_252 : decode cX12_nextToken 252 = .ok (.getfield 118, 3) := by decide +kernel
theorem dX12_nextToken_255 : decode cX12_nextToken 255 = .ok (.iconst 1, 1) := by decide +kernel
theorem dX12_nextToken_256 : decode cX12_nextToken 256 = .ok (.iadd, 1) := by decide +kernel
theorem dX12_nextToken_257 : decode cX12_nextToken 257 = .ok (.putfield 118, 3) := by decide +kernel
theorem dX12_nextToken_260 : decode cX12_nextToken 260 = .ok (.iload_n 1, 1) := by decide +kernel
theorem dX12_nextToken_261 : decode cX12_nextToken 261 = .ok (.bipush 60, 2) := by decide +kernel
theorem dX12_nextToken_263 : decode cX12_nextToken 263 = .ok (.if_icmp .eq 9, 3) := by decide +kernel
theorem dX12_nextToken_266 : decode cX12_nextToken 266 = .ok (.iload_n 1, 1) := by decide +kernel
theorem dX12_nextToken_267 : decode cX12_nextToken 267 = .ok (.bipush 62, 2) := by decide +kernel
theorem dX12_nextToken_269 : decode cX12_nextToken 269 = .ok (.if_icmp .ne 41, 3) := by decide +kernel
theorem dX12_nextToken_272 : decode cX12_nextToken 272 = .ok (.aload_n 0, 1) := by decide +kernel
theorem dX12_nextToken_273 : decode cX12_nextToken 273 = .ok (.aload_n 0, 1) := by decide +kernel
theorem dX12_nextToken_274 : decode cX12_nextToken 274 = .ok (.getfield 118, 3) := by decide +kernel
theorem dX12_nextToken_277 : decode cX12_nextToken 277 = .ok (.invokevirtual 121, 3) := by decide +kernel
theorem dX12_nextToken_280 : decode cX12_nextToken 280 = .ok (.bipush 61, 2) := by decide +kernel
theorem dX12_nextToken_282 : decode cX12_nextToken 282 = .ok (.if_icmp .ne 28, 3) := by decide +kernel
theorem dX12_nextToken_285 : decode cX12_nextToken 285 = .ok (.aload_n 0, 1) := by decide +kernel
theorem dX12_nextToken_286 : decode cX12_nextToken 286 = .ok (.iload_n 1, 1) := by decide +kernel
theorem dX12_nextToken_287 : decode cX12_nextToken 287 = .ok (.bipush 60, 2) := by decide +kernel
theorem dX12_nextToken_289 : decode cX12_nextToken 289 = .ok (.if_icmp .ne 7, 3) := by decide +kernel
theorem dX12_nextToken_292 : decode cX12_nextToken 292 = .ok (.iconst 4, 1) := by decide +kernel
theorem dX12_nextToken_293 : decode cX12_nextToken 293 = .ok (.goto 4, 3) := by decide +kernel
theorem dX12_nextToken_296 : decode cX12_nextToken 296 = .ok (.iconst 5, 1) := by decide +kernel
theorem dX12_nextToken_297 : decode cX12_nextToken 297 = .ok (.putfield 128, 3) := by decide +kernel
theorem dX12_nextToken_300 : decode cX12_nextToken 300 = .ok (.aload_n 0, 1) := by decide +kernel
theorem dX12_nextToken_301 : decode cX12_nextToken 301 = .ok (.dup, 1) := by decide +kernel
theorem dX12_nextToken_302 : decode cX12_nextToken 302 = .ok (.getfield 118, 3) := by decide +kernel
theorem dX12_nextToken_305 : decode cX12_nextToken 305 = .ok (.iconst 1, 1) := by decide +kernel
theorem dX12_nextToken_306 : decode cX12_nextToken 306 = .ok (.iadd, 1) := by decide +kernel
theorem dX12_nextToken_307 : decode cX12_nextToken 307 = .ok (.putfield 118, 3) := by decide +kernel
theorem dX12_nextToken_310 : decode cX12_nextToken 310 = .ok (.return_, 1) := by decide +kernel
theorem dX12_w2_0 : decode cX12_w2 0 = .ok (.iload_n 0, 1) := by decide +kernel
theorem dX12_w2_1 : decode cX12_w2 1 = .ok (.i2l, 1) := by decide +kernel
theorem dX12_w2_2 : decode cX12_w2 2 = .ok (.bipush 8, 2) := by decide +kernel
theorem dX12_w2_4 : decode cX12_w2 4 = .ok (.lshl, 1) := by decide +kernel
theorem dX12_w2_5 : decode cX12_w2 5 = .ok (.iload_n 1, 1) := by decide +kernel
theorem dX12_w2_6 : decode cX12_w2 6 = .ok (.i2l, 1) := by decide +kernel
theorem dX12_w2_7 : decode cX12_w2 7 = .ok (.lor, 1) := by decide +kernel
theorem dX12_w2_8 : decode cX12_w2 8 = .ok (.lreturn, 1) := by decide +kernel
theorem dX12_w3_0 : decode cX12_w3 0 = .ok (.iload_n 0, 1) := by decide +kernel
theorem dX12_w3_1 : decode cX12_w3 1 = .ok (.iload_n 1, 1) := by decide +kernel
theorem dX12_w3_2 : decode cX12_w3 2 = .ok (.invokestatic 150, 3) := by decide +kernel
theorem dX12_w3_5 : decode cX12_w3 5 = .ok (.bipush 8, 2) := by decide +kernel
theorem dX12_w3_7 : decode cX12_w3 7 = .ok (.lshl, 1) := by decide +kernel
theorem dX12_w3_8 : decode cX12_w3 8 = .ok (.iload_n 2, 1) := by decide +kernel
theorem dX12_w3_9 : decode cX12_w3 9 = .ok (.i2l, 1) := by decide +kernel
theorem dX12_w3_10 : decode cX12_w3 10 = .ok (.lor, 1) := by decide +kernel
theorem dX12_w3_11 : decode cX12_w3 11 = .ok (.lreturn, 1) := by decide +kernel
theorem dX12_w4_0 : decode cX12_w4 0 = .ok (.iload_n 0, 1) := by decide +kernel
theorem dX12_w4_1 : decode cX12_w4 1 = .ok (.iload_n 1, 1) := by decide +kernel
theorem dX12_w4_2 : decode cX12_w4 2 = .ok (.iload_n 2, 1) := by decide +kernel
theorem dX12_w4_3 : decode cX12_w4 3 = .ok (.invokestatic 154, 3) := by decide +kernel
theorem dX12_w4_6 : decode cX12_w4 6 = .ok (.bipush 8, 2) := by decide +kernel
theorem dX12_w4_8 : decode cX12_w4 8 = .ok (.lshl, 1) := by decide +kernel
theorem dX12_w4_9 : decode cX12_w4 9 = .ok (.iload_n 3, 1) := by decide +kernel
theorem dX12_w4_10 : decode cX12_w4 10 = .ok (.i2l, 1) := by decide +kernel
theorem dX12_w4_11 : decode cX12_w4 11 = .ok (.lor, 1) := by decide +kernel
theorem dX12_w4_12 : decode cX12_w4 12 = .ok (.lreturn, 1) := by decide +kernel
theorem dX12_w5_0 : decode cX12_w5 0 = .ok (.iload_n 0, 1) := by decide +kernel
theorem dX12_w5_1 : decode cX12_w5 1 = .ok (.iload_n 1, 1) := by decide +kernel
theorem dX12_w5_2 : decode cX12_w5 2 = .ok (.iload_n 2, 1) := by decide +kernel
theorem dX12_w5_3 : decode cX12_w5 3 = .ok (.iload_n 3, 1) := by decide +kernel
theorem dX12_w5_4 : decode cX12_w5 4 = .ok (.invokestatic 158, 3) := by decide +kernel
theorem dX12_w5_7 : decode cX12_w5 7 = .ok (.bipush 8, 2) := by decide +kernel
theorem dX12_w5_9 : decode cX12_w5 9 = .ok (.lshl, 1) := by decide +kernel
theorem dX12_w5_10 : decode cX12_w5 10 = .ok (.iload 4, 2) := by decide +kernel
theorem dX12_w5_12 : decode cX12_w5 12 = .ok (.i2l, 1) := by decide +kernel
theorem dX12_w5_13 : decode cX12_w5 13 = .ok (.lor, 1) := by decide +kernel
theorem dX12_w5_14 : decode cX12_w5 14 = .ok (.lreturn, 1) := by decide +kernel
theorem dX12_w6_0 : decode cX12_w6 0 = .ok (.iload_n 0, 1) := by decide +kernel
theorem dX12_w6_1 : decode cX12_w6 1 = .ok (.iload_n 1, 1) := by decide +kernel
theorem dX12_w6_2 : decode cX12_w6 2 = .ok (.iload_n 2, 1) := by decide +kernel
theorem dX12_w6_3 : decode cX12_w6 3 = .ok (.iload_n 3, 1) := by decide +kernel
theorem dX12_w6_4 : decode cX12_w6 4 = .ok (.iload 4, 2) := by decide +kernel
theorem dX12_w6_6 : decode cX12_w6 6 = .ok (.invokestatic 162, 3) := by decide +kernel
theorem dX12_w6_9 : decode cX12_w6 9 = .ok (.bipush 8, 2) := by decide +kernel
theorem dX12_w6_11 : decode cX12_w6 11 = .ok (.lshl, 1) := by decide +kernel
theorem dX12_w6_12 : decode cX12_w6 12 = .ok (.iload 5, 2) := by decide +kernel
theorem dX12_w6_14 : decode cX12_w6 14 = .ok (.i2l, 1) := by decide +kernel
theorem dX12_w6_15 : decode cX12_w6 15 = .ok (.lor, 1) := by decide +kernel
theorem dX12_w6_16 : decode cX12_w6 16 = .ok (.lreturn, 1) := by decide +kernel
theorem dX12_isWord_0 : decode cX12_isWord 0 = .ok (.aload_n 0, 1) := by decide +kernel
theorem dX12_isWord_1 : decode cX12_isWord 1 = .ok (.getfield 128, 3) := by decide +kernel
theorem dX12_isWord_4 : decode cX12_isWord 4 = .ok (.iconst 2, 1) := by decide +kernel
theorem dX12_isWord_5 : decode cX12_isWord 5 = .ok (.if_icmp .ne 16, 3) := by decide +kernel
theorem dX12_isWord_8 : decode cX12_isWord 8 = .ok (.aload_n 0, 1) := by decide +kernel
theorem dX12_isWord_9 : decode cX12_isWord 9 = .ok (.getfield 141, 3) := by decide +kernel
theorem dX12_isWord_12 : decode cX12_isWord 12 = .ok (.lload_n 1, 1) := by decide +kernel
theorem dX12_isWord_13 : decode cX12_isWord 13 = .ok (.lcmp, 1) := by decide +kernel
theorem dX12_isWord_14 : decode cX12_isWord 14 = .ok (.ifCond .ne 7, 3) := by decide +kernel
theorem dX12_isWord_17 : decode cX12_isWord 17 = .ok (.iconst 1, 1) := by decide +kernel
theorem dX12_isWord_18 : decode cX12_isWord 18 = .ok (.goto 4, 3) := by decide +kernel
theorem dX12_isWord_21 : decode cX12_isWord 21 = .ok (.iconst 0, 1) := by decide +kernel
theorem dX12_isWord_22 : decode cX12_isWord 22 = .ok (.ireturn, 1) := by decide +kernel
theorem dX12_emit_0 : decode cX12_emit 0 = .ok (.aload_n 0, 1) := by decide +kernel
theorem dX12_emit_1 : decode cX12_emit 1 = .ok (.getfield 16, 3) := by decide +kernel
theorem dX12_emit_4 : decode cX12_emit 4 = .ok (.aload_n 0, 1) := by decide +kernel
theorem dX12_emit_5 : decode cX12_emit 5 = .ok (.getfield 166, 3) := by decide +kernel
theorem dX12_emit_8 : decode cX12_emit 8 = .ok (.bipush 73, 2) := by decide +kernel
theorem dX12_emit_10 : decode cX12_emit 10 = .ok (.iadd, 1) := by decide +kernel
theorem dX12_emit_11 : decode cX12_emit 11 = .ok (.iconst 2, 1) := by decide +kernel
theorem dX12_emit_12 : decode cX12_emit 12 = .ok (.aload_n 0, 1) := by decide +kernel
theorem dX12_emit_13 : decode cX12_emit 13 = .ok (.getfield 169, 3) := by decide +kernel
theorem dX12_emit_16 : decode cX12_emit 16 = .ok (.imul, 1) := by decide +kernel
theorem dX12_emit_17 : decode cX12_emit 17 = .ok (.iadd, 1) := by decide +kernel
theorem dX12_emit_18 : decode cX12_emit 18 = .ok (.iload_n 1, 1) := by decide +kernel
theorem dX12_emit_19 : decode cX12_emit 19 = .ok (.iastore, 1) := by decide +kernel
theorem dX12_emit_20 : decode cX12_emit 20 = .ok (.aload_n 0, 1) := by decide +kernel
theorem dX12_emit_21 : decode cX12_emit 21 = .ok (.getfield 16, 3) := by decide +kernel
theorem dX12_emit_24 : decode cX12_emit 24 = .ok (.aload_n 0, 1) := by decide +kernel
theorem dX12_emit_25 : decode cX12_emit 25 = .ok (.getfield 166, 3) := by decide +kernel
theorem dX12_emit_28 : decode cX12_emit 28 = .ok (.bipush 73, 2) := by decide +kernel
theorem dX12_emit_30 : decode cX12_emit 30 = .ok (.iadd, 1) := by decide +kernel
theorem dX12_emit_31 : decode cX12_emit 31 = .ok (.iconst 2, 1) := by decide +kernel
theorem dX12_emit_32 : decode cX12_emit 32 = .ok (.aload_n 0, 1) := by decide +kernel
theorem dX12_emit_33 : decode cX12_emit 33 = .ok (.getfield 169, 3) := by decide +kernel
theorem dX12_emit_36 : decode cX12_emit 36 = .ok (.imul, 1) := by decide +kernel
theorem dX12_emit_37 : decode cX12_emit 37 = .ok (.iadd, 1) := by decide +kernel
theorem dX12_emit_38 : decode cX12_emit 38 = .ok (.iconst 1, 1) := by decide +kernel
theorem dX12_emit_39 : decode cX12_emit 39 = .ok (.iadd, 1) := by decide +kernel
theorem dX12_emit_40 : decode cX12_emit 40 = .ok (.iload_n 2, 1) := by decide +kernel
theorem dX12_emit_41 : decode cX12_emit 41 = .ok (.iastore, 1) := by decide +kernel
theorem dX12_emit_42 : decode cX12_emit 42 = .ok (.aload_n 0, 1) := by decide +kernel
theorem dX12_emit_43 : decode cX12_emit 43 = .ok (.dup, 1) := by decide +kernel
theorem dX12_emit_44 : decode cX12_emit 44 = .ok (.getfield 169, 3) := by decide +kernel
theorem dX12_emit_47 : decode cX12_emit 47 = .ok (.iconst 1, 1) := by decide +kernel
theorem dX12_emit_48 : decode cX12_emit 48 = .ok (.iadd, 1) := by decide +kernel
theorem dX12_emit_49 : decode cX12_emit 49 = .ok (.putfield 169, 3) := by decide +kernel
theorem dX12_emit_52 : decode cX12_emit 52 = .ok (.return_, 1) := by decide +kernel
theorem dX12_isAnswers_0 : decode cX12_isAnswers 0 = .ok (.aload_n 0, 1) := by decide +kernel
theorem dX12_isAnswers_1 : decode cX12_isAnswers 1 = .ok (.getfield 128, 3) := by decide +kernel
theorem dX12_isAnswers_4 : decode cX12_isAnswers 4 = .ok (.iconst 2, 1) := by decide +kernel
theorem dX12_isAnswers_5 : decode cX12_isAnswers 5 = .ok (.if_icmp .ne 124, 3) := by decide +kernel
theorem dX12_isAnswers_8 : decode cX12_isAnswers 8 = .ok (.aload_n 0, 1) := by decide +kernel
theorem dX12_isAnswers_9 : decode cX12_isAnswers 9 = .ok (.getfield 118, 3) := by decide +kernel
theorem dX12_isAnswers_12 : decode cX12_isAnswers 12 = .ok (.aload_n 0, 1) := by decide +kernel
theorem dX12_isAnswers_13 : decode cX12_isAnswers 13 = .ok (.getfield 125, 3) := by decide +kernel
theorem dX12_isAnswers_16 : decode cX12_isAnswers 16 = .ok (.isub, 1) := by decide +kernel
theorem dX12_isAnswers_17 : decode cX12_isAnswers 17 = .ok (.bipush 7, 2) := by decide +kernel
theorem dX12_isAnswers_19 : decode cX12_isAnswers 19 = .ok (.if_icmp .ne 110, 3) := by decide +kernel
theorem dX12_isAnswers_22 : decode cX12_isAnswers 22 = .ok (.aload_n 0, 1) := by decide +kernel
theorem dX12_isAnswers_23 : decode cX12_isAnswers 23 = .ok (.aload_n 0, 1) := by decide +kernel
theorem dX12_isAnswers_24 : decode cX12_isAnswers 24 = .ok (.getfield 125, 3) := by decide +kernel
theorem dX12_isAnswers_27 : decode cX12_isAnswers 27 = .ok (.invokevirtual 121, 3) := by decide +kernel
theorem dX12_isAnswers_30 : decode cX12_isAnswers 30 = .ok (.aload_n 0, 1) := by decide +kernel
theorem dX12_isAnswers_31 : decode cX12_isAnswers 31 = .ok (.aload_n 0, 1) := by decide +kernel
theorem dX12_isAnswers_32 : decode cX12_isAnswers 32 = .ok (.getfield 125, 3) := by decide +kernel
theorem dX12_isAnswers_35 : decode cX12_isAnswers 35 = .ok (.iconst 1, 1) := by decide +kernel
theorem dX12_isAnswers_36 : decode cX12_isAnswers 36 = .ok (.iadd, 1) := by decide +kernel
theorem dX12_isAnswers_37 : decode cX12_isAnswers 37 = .ok (.invokevirtual 121, 3) := by decide +kernel
theorem dX12_isAnswers_40 : decode cX12_isAnswers 40 = .ok (.aload_n 0, 1) := by decide +kernel
theorem dX12_isAnswers_41 : decode cX12_isAnswers 41 = .ok (.aload_n 0, 1) := by decide +kernel
theorem dX12_isAnswers_42 : decode cX12_isAnswers 42 = .ok (.getfield 125, 3) := by decide +kernel
theorem dX12_isAnswers_45 : decode cX12_isAnswers 45 = .ok (.iconst 2, 1) := by decide +kernel
theorem dX12_isAnswers_46 : decode cX12_isAnswers 46 = .ok (.iadd, 1) := by decide +kernel
theorem dX12_isAnswers_47 : decode cX12_isAnswers 47 = .ok (.invokevirtual 121, 3) := by decide +kernel
theorem dX12_isAnswers_50 : decode cX12_isAnswers 50 = .ok (.aload_n 0, 1) := by decide +kernel
theorem dX12_isAnswers_51 : decode cX12_isAnswers 51 = .ok (.aload_n 0, 1) := by decide +kernel
theorem dX12_isAnswers_52 : decode cX12_isAnswers 52 = .ok (.getfield 125, 3) := by decide +kernel
theorem dX12_isAnswers_55 : decode cX12_isAnswers 55 = .ok (.iconst 3, 1) := by decide +kernel
theorem dX12_isAnswers_56 : decode cX12_isAnswers 56 = .ok (.iadd, 1) := by decide +kernel
theorem dX12_isAnswers_57 : decode cX12_isAnswers 57 = .ok (.invokevirtual 121, 3) := by decide +kernel
theorem dX12_isAnswers_60 : decode cX12_isAnswers 60 = .ok (.invokestatic 158, 3) := by decide +kernel
theorem dX12_isAnswers_63 : decode cX12_isAnswers 63 = .ok (.bipush 97, 2) := by decide +kernel
theorem dX12_isAnswers_65 : decode cX12_isAnswers 65 = .ok (.bipush 110, 2) := by decide +kernel
theorem dX12_isAnswers_67 : decode cX12_isAnswers 67 = .ok (.bipush 115, 2) := by decide +kernel
theorem dX12_isAnswers_69 : decode cX12_isAnswers 69 = .ok (.bipush 119, 2) := by decide +kernel
theorem dX12_isAnswers_71 : decode cX12_isAnswers 71 = .ok (.invokestatic 158, 3) := by decide +kernel
theorem dX12_isAnswers_74 : decode cX12_isAnswers 74 = .ok (.lcmp, 1) := by decide +kernel
theorem dX12_isAnswers_75 : decode cX12_isAnswers 75 = .ok (.ifCond .ne 54, 3) := by decide +kernel
theorem dX12_isAnswers_78 : decode cX12_isAnswers 78 = .ok (.aload_n 0, 1) := by decide +kernel
theorem dX12_isAnswers_79 : decode cX12_isAnswers 79 = .ok (.aload_n 0, 1) := by decide +kernel
theorem dX12_isAnswers_80 : decode cX12_isAnswers 80 = .ok (.getfield 125, 3) := by decide +kernel
theorem dX12_isAnswers_83 : decode cX12_isAnswers 83 = .ok (.iconst 4, 1) := by decide +kernel
theorem dX12_isAnswers_84 : decode cX12_isAnswers 84 = .ok (.iadd, 1) := by decide +kernel
theorem dX12_isAnswers_85 : decode cX12_isAnswers 85 = .ok (.invokevirtual 121, 3) := by decide +kernel
theorem dX12_isAnswers_88 : decode cX12_isAnswers 88 = .ok (.aload_n 0, 1) := by decide +kernel
theorem dX12_isAnswers_89 : decode cX12_isAnswers 89 = .ok (.aload_n 0, 1) := by decide +kernel
theorem dX12_isAnswers_90 : decode cX12_isAnswers 90 = .ok (.getfield 125, 3) := by decide +kernel
theorem dX12_isAnswers_93 : decode cX12_isAnswers 93 = .ok (.iconst 5, 1) := by decide +kernel
theorem dX12_isAnswers_94 : decode cX12_isAnswers 94 = .ok (.iadd, 1) := by decide +kernel
theorem dX12_isAnswers_95 : decode cX12_isAnswers 95 = .ok (.invokevirtual 121, 3) := by decide +kernel
theorem dX12_isAnswers_98 : decode cX12_isAnswers 98 = .ok (.aload_n 0, 1) := by decide +kernel
theorem dX12_isAnswers_99 : decode cX12_isAnswers 99 = .ok (.aload_n 0, 1) := by decide +kernel
theorem dX12_isAnswers_100 : decode cX12_isAnswers 100 = .ok (.getfield 125, 3) := by decide +kernel
theorem dX12_isAnswers_103 : decode cX12_isAnswers 103 = .ok (.bipush 6, 2) := by decide +kernel
theorem dX12_isAnswers_105 : decode cX12_isAnswers 105 = .ok (.iadd, 1) := by decide +kernel
theorem dX12_isAnswers_106 : decode cX12_isAnswers 106 = .ok (.invokevirtual 121, 3) := by decide +kernel
theorem dX12_isAnswers_109 : decode cX12_isAnswers 109 = .ok (.invokestatic 154, 3) := by decide +kernel
theorem dX12_isAnswers_112 : decode cX12_isAnswers 112 = .ok (.bipush 101, 2) := by decide +kernel
theorem dX12_isAnswers_114 : decode cX12_isAnswers 114 = .ok (.bipush 114, 2) := by decide +kernel
theorem dX12_isAnswers_116 : decode cX12_isAnswers 116 = .ok (.bipush 115, 2) := by decide +kernel
theorem dX12_isAnswers_118 : decode cX12_isAnswers 118 = .ok (.invokestatic 154, 3) := by decide +kernel
theorem dX12_isAnswers_121 : decode cX12_isAnswers 121 = .ok (.lcmp, 1) := by decide +kernel
theorem dX12_isAnswers_122 : decode cX12_isAnswers 122 = .ok (.ifCond .ne 7, 3) := by decide +kernel
theorem dX12_isAnswers_125 : decode cX12_isAnswers 125 = .ok (.iconst 1, 1) := by decide +kernel
theorem dX12_isAnswers_126 : decode cX12_isAnswers 126 = .ok (.goto 4, 3) := by decide +kernel
theorem dX12_isAnswers_129 : decode cX12_isAnswers 129 = .ok (.iconst 0, 1) := by decide +kernel
theorem dX12_isAnswers_130 : decode cX12_isAnswers 130 = .ok (.ireturn, 1) := by decide +kernel
theorem dX12_nameOf_0 : decode cX12_nameOf 0 = .ok (.aload_n 0, 1) := by decide +kernel
theorem dX12_nameOf_1 : decode cX12_nameOf 1 = .ok (.getfield 128, 3) := by decide +kernel
theorem dX12_nameOf_4 : decode cX12_nameOf 4 = .ok (.iconst 2, 1) := by decide +kernel
theorem dX12_nameOf_5 : decode cX12_nameOf 5 = .ok (.if_icmp .eq 5, 3) := by decide +kernel
theorem dX12_nameOf_8 : decode cX12_nameOf 8 = .ok (.iconst (-1), 1) := by decide +kernel
theorem dX12_nameOf_9 : decode cX12_nameOf 9 = .ok (.ireturn, 1) := by decide +kernel
theorem dX12_nameOf_10 : decode cX12_nameOf 10 = .ok (.aload_n 0, 1) := by decide +kernel
theorem dX12_nameOf_11 : decode cX12_nameOf 11 = .ok (.getfield 141, 3) := by decide +kernel
theorem dX12_nameOf_14 : decode cX12_nameOf 14 = .ok (.bipush 100, 2) := by decide +kernel
theorem dX12_nameOf_16 : decode cX12_nameOf 16 = .ok (.bipush 97, 2) := by decide +kernel
theorem dX12_nameOf_18 : decode cX12_nameOf 18 = .ok (.bipush 121, 2) := by decide +kernel
theorem dX12_nameOf_20 : decode cX12_nameOf 20 = .ok (.invokestatic 154, 3) := by decide +kernel
theorem dX12_nameOf_23 : decode cX12_nameOf 23 = .ok (.lcmp, 1) := by decide +kernel
theorem dX12_nameOf_24 : decode cX12_nameOf 24 = .ok (.ifCond .ne 5, 3) := by decide +kernel
theorem dX12_nameOf_27 : decode cX12_nameOf 27 = .ok (.iconst 0, 1) := by decide +kernel
theorem dX12_nameOf_28 : decode cX12_nameOf 28 = .ok (.ireturn, 1) := by decide +kernel
theorem dX12_nameOf_29 : decode cX12_nameOf 29 = .ok (.aload_n 0, 1) := by decide +kernel
theorem dX12_nameOf_30 : decode cX12_nameOf 30 = .ok (.getfield 141, 3) := by decide +kernel
theorem dX12_nameOf_33 : decode cX12_nameOf 33 = .ok (.bipush 119, 2) := by decide +kernel
theorem dX12_nameOf_35 : decode cX12_nameOf 35 = .ok (.bipush 104, 2) := by decide +kernel
theorem dX12_nameOf_37 : decode cX12_nameOf 37 = .ok (.bipush 111, 2) := by decide +kernel
theorem dX12_nameOf_39 : decode cX12_nameOf 39 = .ok (.invokestatic 154, 3) := by decide +kernel
theorem dX12_nameOf_42 : decode cX12_nameOf 42 = .ok (.lcmp, 1) := by decide +kernel
theorem dX12_nameOf_43 : decode cX12_nameOf 43 = .ok (.ifCond .ne 5, 3) := by decide +kernel
theorem dX12_nameOf_46 : decode cX12_nameOf 46 = .ok (.iconst 1, 1) := by decide +kernel
theorem dX12_nameOf_47 : decode cX12_nameOf 47 = .ok (.ireturn, 1) := by decide +kernel
theorem dX12_nameOf_48 : decode cX12_nameOf 48 = .ok (.aload_n 0, 1) := by decide +kernel
theorem dX12_nameOf_49 : decode cX12_nameOf 49 = .ok (.getfield 141, 3) := by decide +kernel
theorem dX12_nameOf_52 : decode cX12_nameOf 52 = .ok (.bipush 116, 2) := by decide +kernel
theorem dX12_nameOf_54 : decode cX12_nameOf 54 = .ok (.bipush 101, 2) := by decide +kernel
theorem dX12_nameOf_56 : decode cX12_nameOf 56 = .ok (.bipush 97, 2) := by decide +kernel
theorem dX12_nameOf_58 : decode cX12_nameOf 58 = .ok (.bipush 114, 2) := by decide +kernel
theorem dX12_nameOf_60 : decode cX12_nameOf 60 = .ok (.bipush 115, 2) := by decide +kernel
theorem dX12_nameOf_62 : decode cX12_nameOf 62 = .ok (.invokestatic 162, 3) := by decide +kernel
theorem dX12_nameOf_65 : decode cX12_nameOf 65 = .ok (.lcmp, 1) := by decide +kernel
theorem dX12_nameOf_66 : decode cX12_nameOf 66 = .ok (.ifCond .ne 5, 3) := by decide +kernel
theorem dX12_nameOf_69 : decode cX12_nameOf 69 = .ok (.iconst 2, 1) := by decide +kernel
theorem dX12_nameOf_70 : decode cX12_nameOf 70 = .ok (.ireturn, 1) := by decide +kernel
theorem dX12_nameOf_71 : decode cX12_nameOf 71 = .ok (.aload_n 0, 1) := by decide +kernel
theorem dX12_nameOf_72 : decode cX12_nameOf 72 = .ok (.getfield 141, 3) := by decide +kernel
theorem dX12_nameOf_75 : decode cX12_nameOf 75 = .ok (.bipush 112, 2) := by decide +kernel
theorem dX12_nameOf_77 : decode cX12_nameOf 77 = .ok (.bipush 117, 2) := by decide +kernel
theorem dX12_nameOf_79 : decode cX12_nameOf 79 = .ok (.bipush 114, 2) := by decide +kernel
theorem dX12_nameOf_81 : decode cX12_nameOf 81 = .ok (.bipush 115, 2) := by decide +kernel
theorem dX12_nameOf_83 : decode cX12_nameOf 83 = .ok (.bipush 101, 2) := by decide +kernel
theorem dX12_nameOf_85 : decode cX12_nameOf 85 = .ok (.invokestatic 162, 3) := by decide +kernel
theorem dX12_nameOf_88 : decode cX12_nameOf 88 = .ok (.lcmp, 1) := by decide +kernel
theorem dX12_nameOf_89 : decode cX12_nameOf 89 = .ok (.ifCond .ne 5, 3) := by decide +kernel
theorem dX12_nameOf_92 : decode cX12_nameOf 92 = .ok (.iconst 3, 1) := by decide +kernel
theorem dX12_nameOf_93 : decode cX12_nameOf 93 = .ok (.ireturn, 1) := by decide +kernel
theorem dX12_nameOf_94 : decode cX12_nameOf 94 = .ok (.aload_n 0, 1) := by decide +kernel
theorem dX12_nameOf_95 : decode cX12_nameOf 95 = .ok (.invokevirtual 172, 3) := by decide +kernel
theorem dX12_nameOf_98 : decode cX12_nameOf 98 = .ok (.ifCond .eq 5, 3) := by decide +kernel
theorem dX12_nameOf_101 : decode cX12_nameOf 101 = .ok (.iconst 4, 1) := by decide +kernel
theorem dX12_nameOf_102 : decode cX12_nameOf 102 = .ok (.ireturn, 1) := by decide +kernel
theorem dX12_nameOf_103 : decode cX12_nameOf 103 = .ok (.aload_n 0, 1) := by decide +kernel
theorem dX12_nameOf_104 : decode cX12_nameOf 104 = .ok (.getfield 141, 3) := by decide +kernel
theorem dX12_nameOf_107 : decode cX12_nameOf 107 = .ok (.bipush 119, 2) := by decide +kernel
theorem dX12_nameOf_109 : decode cX12_nameOf 109 = .ok (.bipush 97, 2) := by decide +kernel
theorem dX12_nameOf_111 : decode cX12_nameOf 111 = .ok (.bipush 110, 2) := by decide +kernel
theorem dX12_nameOf_113 : decode cX12_nameOf 113 = .ok (.bipush 116, 2) := by decide +kernel
theorem dX12_nameOf_115 : decode cX12_nameOf 115 = .ok (.invokestatic 158, 3) := by decide +kernel
theorem dX12_nameOf_118 : decode cX12_nameOf 118 = .ok (.lcmp, 1) := by decide +kernel
theorem dX12_nameOf_119 : decode cX12_nameOf 119 = .ok (.ifCond .ne 5, 3) := by decide +kernel
theorem dX12_nameOf_122 : decode cX12_nameOf 122 = .ok (.iconst 5, 1) := by decide +kernel
theorem dX12_nameOf_123 : decode cX12_nameOf 123 = .ok (.ireturn, 1) := by decide +kernel
theorem dX12_nameOf_124 : decode cX12_nameOf 124 = .ok (.aload_n 0, 1) := by decide +kernel
theorem dX12_nameOf_125 : decode cX12_nameOf 125 = .ok (.getfield 141, 3) := by decide +kernel
theorem dX12_nameOf_128 : decode cX12_nameOf 128 = .ok (.bipush 103, 2) := by decide +kernel
theorem dX12_nameOf_130 : decode cX12_nameOf 130 = .ok (.bipush 105, 2) := by decide +kernel
theorem dX12_nameOf_132 : decode cX12_nameOf 132 = .ok (.bipush 118, 2) := by decide +kernel
theorem dX12_nameOf_134 : decode cX12_nameOf 134 = .ok (.bipush 101, 2) := by decide +kernel
theorem dX12_nameOf_136 : decode cX12_nameOf 136 = .ok (.bipush 110, 2) := by decide +kernel
theorem dX12_nameOf_138 : decode cX12_nameOf 138 = .ok (.invokestatic 162, 3) := by decide +kernel
theorem dX12_nameOf_141 : decode cX12_nameOf 141 = .ok (.lcmp, 1) := by decide +kernel
theorem dX12_nameOf_142 : decode cX12_nameOf 142 = .ok (.ifCond .ne 6, 3) := by decide +kernel
theorem dX12_nameOf_145 : decode cX12_nameOf 145 = .ok (.bipush 6, 2) := by decide +kernel
theorem dX12_nameOf_147 : decode cX12_nameOf 147 = .ok (.ireturn, 1) := by decide +kernel
theorem dX12_nameOf_148 : decode cX12_nameOf 148 = .ok (.aload_n 0, 1) := by decide +kernel
theorem dX12_nameOf_149 : decode cX12_nameOf 149 = .ok (.getfield 141, 3) := by decide +kernel
theorem dX12_nameOf_152 : decode cX12_nameOf 152 = .ok (.bipush 110, 2) := by decide +kernel
theorem dX12_nameOf_154 : decode cX12_nameOf 154 = .ok (.bipush 101, 2) := by decide +kernel
theorem dX12_nameOf_156 : decode cX12_nameOf 156 = .ok (.bipush 120, 2) := by decide +kernel
theorem dX12_nameOf_158 : decode cX12_nameOf 158 = .ok (.bipush 116, 2) := by decide +kernel
theorem dX12_nameOf_160 : decode cX12_nameOf 160 = .ok (.invokestatic 158, 3) := by decide +kernel
theorem dX12_nameOf_163 : decode cX12_nameOf 163 = .ok (.lcmp, 1) := by decide +kernel
theorem dX12_nameOf_164 : decode cX12_nameOf 164 = .ok (.ifCond .ne 6, 3) := by decide +kernel
theorem dX12_nameOf_167 : decode cX12_nameOf 167 = .ok (.bipush 7, 2) := by decide +kernel
theorem dX12_nameOf_169 : decode cX12_nameOf 169 = .ok (.ireturn, 1) := by decide +kernel
theorem dX12_nameOf_170 : decode cX12_nameOf 170 = .ok (.aload_n 0, 1) := by decide +kernel
theorem dX12_nameOf_171 : decode cX12_nameOf 171 = .ok (.getfield 141, 3) := by decide +kernel
theorem dX12_nameOf_174 : decode cX12_nameOf 174 = .ok (.bipush 112, 2) := by decide +kernel
theorem dX12_nameOf_176 : decode cX12_nameOf 176 = .ok (.bipush 97, 2) := by decide +kernel
theorem dX12_nameOf_178 : decode cX12_nameOf 178 = .ok (.bipush 105, 2) := by decide +kernel
theorem dX12_nameOf_180 : decode cX12_nameOf 180 = .ok (.bipush 110, 2) := by decide +kernel
theorem dX12_nameOf_182 : decode cX12_nameOf 182 = .ok (.invokestatic 158, 3) := by decide +kernel
theorem dX12_nameOf_185 : decode cX12_nameOf 185 = .ok (.lcmp, 1) := by decide +kernel
theorem dX12_nameOf_186 : decode cX12_nameOf 186 = .ok (.ifCond .ne 8, 3) := by decide +kernel
theorem dX12_nameOf_189 : decode cX12_nameOf 189 = .ok (.bipush 8, 2) := by decide +kernel
theorem dX12_nameOf_191 : decode cX12_nameOf 191 = .ok (.goto 30, 3) := by decide +kernel
theorem dX12_nameOf_194 : decode cX12_nameOf 194 = .ok (.aload_n 0, 1) := by decide +kernel
theorem dX12_nameOf_195 : decode cX12_nameOf 195 = .ok (.getfield 141, 3) := by decide +kernel
theorem dX12_nameOf_198 : decode cX12_nameOf 198 = .ok (.bipush 100, 2) := by decide +kernel
theorem dX12_nameOf_200 : decode cX12_nameOf 200 = .ok (.bipush 101, 2) := by decide +kernel
theorem dX12_nameOf_202 : decode cX12_nameOf 202 = .ok (.bipush 112, 2) := by decide +kernel
theorem dX12_nameOf_204 : decode cX12_nameOf 204 = .ok (.bipush 116, 2) := by decide +kernel
theorem dX12_nameOf_206 : decode cX12_nameOf 206 = .ok (.bipush 104, 2) := by decide +kernel
theorem dX12_nameOf_208 : decode cX12_nameOf 208 = .ok (.invokestatic 162, 3) := by decide +kernel
theorem dX12_nameOf_211 : decode cX12_nameOf 211 = .ok (.lcmp, 1) := by decide +kernel
theorem dX12_nameOf_212 : decode cX12_nameOf 212 = .ok (.ifCond .ne 8, 3) := by decide +kernel
theorem dX12_nameOf_215 : decode cX12_nameOf 215 = .ok (.bipush 9, 2) := by decide +kernel
theorem dX12_nameOf_217 : decode cX12_nameOf 217 = .ok (.goto 4, 3) := by decide +kernel
theorem dX12_nameOf_220 : decode cX12_nameOf 220 = .ok (.iconst (-1), 1) := by decide +kernel
theorem dX12_nameOf_221 : decode cX12_nameOf 221 = .ok (.ireturn, 1) := by decide +kernel
theorem dX12_rank_0 : decode cX12_rank 0 = .ok (.iload_n 0, 1) := by decide +kernel
theorem dX12_rank_1 : decode cX12_rank 1 = .ok (.bipush 40, 2) := by decide +kernel
theorem dX12_rank_3 : decode cX12_rank 3 = .ok (.if_icmp .lt 7, 3) := by decide +kernel
theorem dX12_rank_6 : decode cX12_rank 6 = .ok (.iconst 0, 1) := by decide +kernel
theorem dX12_rank_7 : decode cX12_rank 7 = .ok (.goto 75, 3) := by decide +kernel
theorem dX12_rank_10 : decode cX12_rank 10 = .ok (.iload_n 0, 1) := by decide +kernel
theorem dX12_rank_11 : decode cX12_rank 11 = .ok (.bipush 22, 2) := by decide +kernel
theorem dX12_rank_13 : decode cX12_rank 13 = .ok (.if_icmp .ne 7, 3) := by decide +kernel
theorem dX12_rank_16 : decode cX12_rank 16 = .ok (.iconst 1, 1) := by decide +kernel
theorem dX12_rank_17 : decode cX12_rank 17 = .ok (.goto 65, 3) := by decide +kernel
theorem dX12_rank_20 : decode cX12_rank 20 = .ok (.iload_n 0, 1) := by decide +kernel
theorem dX12_rank_21 : decode cX12_rank 21 = .ok (.bipush 21, 2) := by decide +kernel
theorem dX12_rank_23 : decode cX12_rank 23 = .ok (.if_icmp .ne 7, 3) := by decide +kernel
theorem dX12_rank_26 : decode cX12_rank 26 = .ok (.iconst 2, 1) := by decide +kernel
theorem dX12_rank_27 : decode cX12_rank 27 = .ok (.goto 55, 3) := by decide +kernel
theorem dX12_rank_30 : decode cX12_rank 30 = .ok (.iload_n 0, 1) := by decide +kernel
theorem dX12_rank_31 : decode cX12_rank 31 = .ok (.bipush 20, 2) := by decide +kernel
theorem dX12_rank_33 : decode cX12_rank 33 = .ok (.if_icmp .ne 7, 3) := by decide +kernel
theorem dX12_rank_36 : decode cX12_rank 36 = .ok (.iconst 3, 1) := by decide +kernel
theorem dX12_rank_37 : decode cX12_rank 37 = .ok (.goto 45, 3) := by decide +kernel
theorem dX12_rank_40 : decode cX12_rank 40 = .ok (.iload_n 0, 1) := by decide +kernel
theorem dX12_rank_41 : decode cX12_rank 41 = .ok (.bipush 10, 2) := by decide +kernel
theorem dX12_rank_43 : decode cX12_rank 43 = .ok (.if_icmp .lt 7, 3) := by decide +kernel
theorem dX12_rank_46 : decode cX12_rank 46 = .ok (.iconst 4, 1) := by decide +kernel
theorem dX12_rank_47 : decode cX12_rank 47 = .ok (.goto 35, 3) := by decide +kernel
theorem dX12_rank_50 : decode cX12_rank 50 = .ok (.iload_n 0, 1) := by decide +kernel
theorem dX12_rank_51 : decode cX12_rank 51 = .ok (.iconst 5, 1) := by decide +kernel
theorem dX12_rank_52 : decode cX12_rank 52 = .ok (.if_icmp .eq 13, 3) := by decide +kernel
theorem dX12_rank_55 : decode cX12_rank 55 = .ok (.iload_n 0, 1) := by decide +kernel
theorem dX12_rank_56 : decode cX12_rank 56 = .ok (.iconst 2, 1) := by decide +kernel
theorem dX12_rank_57 : decode cX12_rank 57 = .ok (.if_icmp .eq 8, 3) := by decide +kernel
theorem dX12_rank_60 : decode cX12_rank 60 = .ok (.iload_n 0, 1) := by decide +kernel
theorem dX12_rank_61 : decode cX12_rank 61 = .ok (.iconst 4, 1) := by decide +kernel
theorem dX12_rank_62 : decode cX12_rank 62 = .ok (.if_icmp .ne 8, 3) := by decide +kernel
theorem dX12_rank_65 : decode cX12_rank 65 = .ok (.bipush 7, 2) := by decide +kernel
theorem dX12_rank_67 : decode cX12_rank 67 = .ok (.goto 15, 3) := by decide +kernel
theorem dX12_rank_70 : decode cX12_rank 70 = .ok (.iload_n 0, 1) := by decide +kernel
theorem dX12_rank_71 : decode cX12_rank 71 = .ok (.bipush 8, 2) := by decide +kernel
theorem dX12_rank_73 : decode cX12_rank 73 = .ok (.if_icmp .lt 8, 3) := by decide +kernel
theorem dX12_rank_76 : decode cX12_rank 76 = .ok (.bipush 6, 2) := by decide +kernel
theorem dX12_rank_78 : decode cX12_rank 78 = .ok (.goto 4, 3) := by decide +kernel
theorem dX12_rank_81 : decode cX12_rank 81 = .ok (.iconst 5, 1) := by decide +kernel
theorem dX12_rank_82 : decode cX12_rank 82 = .ok (.ireturn, 1) := by decide +kernel
theorem dX12_settle_0 : decode cX12_settle 0 = .ok (.aload_n 0, 1) := by decide +kernel
theorem dX12_settle_1 : decode cX12_settle 1 = .ok (.getfield 176, 3) := by decide +kernel
theorem dX12_settle_4 : decode cX12_settle 4 = .ok (.ifCond .le 89, 3) := by decide +kernel
theorem dX12_settle_7 : decode cX12_settle 7 = .ok (.aload_n 0, 1) := by decide +kernel
theorem dX12_settle_8 : decode cX12_settle 8 = .ok (.getfield 35, 3) := by decide +kernel
theorem dX12_settle_11 : decode cX12_settle 11 = .ok (.aload_n 0, 1) := by decide +kernel
theorem dX12_settle_12 : decode cX12_settle 12 = .ok (.getfield 176, 3) := by decide +kernel
theorem dX12_settle_15 : decode cX12_settle 15 = .ok (.iconst 1, 1) := by decide +kernel
theorem dX12_settle_16 : decode cX12_settle 16 = .ok (.isub, 1) := by decide +kernel
theorem dX12_settle_17 : decode cX12_settle 17 = .ok (.iaload, 1) := by decide +kernel
theorem dX12_settle_18 : decode cX12_settle 18 = .ok (.invokestatic 179, 3) := by decide +kernel
theorem dX12_settle_21 : decode cX12_settle 21 = .ok (.iload_n 1, 1) := by decide +kernel
theorem dX12_settle_22 : decode cX12_settle 22 = .ok (.if_icmp .lt 71, 3) := by decide +kernel
theorem dX12_settle_25 : decode cX12_settle 25 = .ok (.aload_n 0, 1) := by decide +kernel
theorem dX12_settle_26 : decode cX12_settle 26 = .ok (.dup, 1) := by decide +kernel
theorem dX12_settle_27 : decode cX12_settle 27 = .ok (.getfield 176, 3) := by decide +kernel
theorem dX12_settle_30 : decode cX12_settle 30 = .ok (.iconst 1, 1) := by decide +kernel
theorem dX12_settle_31 : decode cX12_settle 31 = .ok (.isub, 1) := by decide +kernel
theorem dX12_settle_32 : decode cX12_settle 32 = .ok (.putfield 176, 3) := by decide +kernel
theorem dX12_settle_35 : decode cX12_settle 35 = .ok (.aload_n 0, 1) := by decide +kernel
theorem dX12_settle_36 : decode cX12_settle 36 = .ok (.aload_n 0, 1) := by decide +kernel
theorem dX12_settle_37 : decode cX12_settle 37 = .ok (.getfield 35, 3) := by decide +kernel
theorem dX12_settle_40 : decode cX12_settle 40 = .ok (.aload_n 0, 1) := by decide +kernel
theorem dX12_settle_41 : decode cX12_settle 41 = .ok (.getfield 176, 3) := by decide +kernel
theorem dX12_settle_44 : decode cX12_settle 44 = .ok (.iaload, 1) := by decide +kernel
theorem dX12_settle_45 : decode cX12_settle 45 = .ok (.iconst 0, 1) := by decide +kernel
theorem dX12_settle_46 : decode cX12_settle 46 = .ok (.invokevirtual 182, 3) := by decide +kernel
theorem dX12_settle_49 : decode cX12_settle 49 = .ok (.aload_n 0, 1) := by decide +kernel
theorem dX12_settle_50 : decode cX12_settle 50 = .ok (.getfield 35, 3) := by decide +kernel
theorem dX12_settle_53 : decode cX12_settle 53 = .ok (.aload_n 0, 1) := by decide +kernel
theorem dX12_settle_54 : decode cX12_settle 54 = .ok (.getfield 176, 3) := by decide +kernel
theorem dX12_settle_57 : decode cX12_settle 57 = .ok (.iaload, 1) := by decide +kernel
theorem dX12_settle_58 : decode cX12_settle 58 = .ok (.invokestatic 179, 3) := by decide +kernel
theorem dX12_settle_61 : decode cX12_settle 61 = .ok (.bipush 7, 2) := by decide +kernel
theorem dX12_settle_63 : decode cX12_settle 63 = .ok (.if_icmp .eq 17, 3) := by decide +kernel
theorem dX12_settle_66 : decode cX12_settle 66 = .ok (.aload_n 0, 1) := by decide +kernel
theorem dX12_settle_67 : decode cX12_settle 67 = .ok (.getfield 35, 3) := by decide +kernel
theorem dX12_settle_70 : decode cX12_settle 70 = .ok (.aload_n 0, 1) := by decide +kernel
theorem dX12_settle_71 : decode cX12_settle 71 = .ok (.getfield 176, 3) := by decide +kernel
theorem dX12_settle_74 : decode cX12_settle 74 = .ok (.iaload, 1) := by decide +kernel
theorem dX12_settle_75 : decode cX12_settle 75 = .ok (.bipush 20, 2) := by decide +kernel
theorem dX12_settle_77 : decode cX12_settle 77 = .ok (.if_icmp .ne (-77), 3) := by decide +kernel
theorem dX12_settle_80 : decode cX12_settle 80 = .ok (.aload_n 0, 1) := by decide +kernel
theorem dX12_settle_81 : decode cX12_settle 81 = .ok (.dup, 1) := by decide +kernel
theorem dX12_settle_82 : decode cX12_settle 82 = .ok (.getfield 185, 3) := by decide +kernel
theorem dX12_settle_85 : decode cX12_settle 85 = .ok (.iconst 1, 1) := by decide +kernel
theorem dX12_settle_86 : decode cX12_settle 86 = .ok (.isub, 1) := by decide +kernel
theorem dX12_settle_87 : decode cX12_settle 87 = .ok (.putfield 185, 3) := by decide +kernel
theorem dX12_settle_90 : decode cX12_settle 90 = .ok (.goto (-90), 3) := by decide +kernel
theorem dX12_settle_93 : decode cX12_settle 93 = .ok (.return_, 1) := by decide +kernel
theorem dX12_openAt_0 : decode cX12_openAt 0 = .ok (.aload_n 0, 1) := by decide +kernel
theorem dX12_openAt_1 : decode cX12_openAt 1 = .ok (.getfield 176, 3) := by decide +kernel
theorem dX12_openAt_4 : decode cX12_openAt 4 = .ok (.iconst 1, 1) := by decide +kernel
theorem dX12_openAt_5 : decode cX12_openAt 5 = .ok (.isub, 1) := by decide +kernel
theorem dX12_openAt_6 : decode cX12_openAt 6 = .ok (.istore_n 1, 1) := by decide +kernel
theorem dX12_openAt_7 : decode cX12_openAt 7 = .ok (.iload_n 1, 1) := by decide +kernel
theorem dX12_openAt_8 : decode cX12_openAt 8 = .ok (.ifCond .lt 20, 3) := by decide +kernel
theorem dX12_openAt_11 : decode cX12_openAt 11 = .ok (.aload_n 0, 1) := by decide +kernel
theorem dX12_openAt_12 : decode cX12_openAt 12 = .ok (.getfield 35, 3) := by decide +kernel
theorem dX12_openAt_15 : decode cX12_openAt 15 = .ok (.iload_n 1, 1) := by decide +kernel
theorem dX12_openAt_16 : decode cX12_openAt 16 = .ok (.iaload, 1) := by decide +kernel
theorem dX12_openAt_17 : decode cX12_openAt 17 = .ok (.bipush 40, 2) := by decide +kernel
theorem dX12_openAt_19 : decode cX12_openAt 19 = .ok (.if_icmp .ge 9, 3) := by decide +kernel
theorem dX12_openAt_22 : decode cX12_openAt 22 = .ok (.iinc 1 (-1), 3) := by decide +kernel
theorem dX12_openAt_25 : decode cX12_openAt 25 = .ok (.goto (-18), 3) := by decide +kernel
theorem dX12_openAt_28 : decode cX12_openAt 28 = .ok (.iload_n 1, 1) := by decide +kernel
theorem dX12_openAt_29 : decode cX12_openAt 29 = .ok (.ireturn, 1) := by decide +kernel
theorem dX12_openNow_0 : decode cX12_openNow 0 = .ok (.aload_n 0, 1) := by decide +kernel
theorem dX12_openNow_1 : decode cX12_openNow 1 = .ok (.invokevirtual 188, 3) := by decide +kernel
theorem dX12_openNow_4 : decode cX12_openNow 4 = .ok (.ifCond .ge 7, 3) := by decide +kernel
theorem dX12_openNow_7 : decode cX12_openNow 7 = .ok (.iconst (-1), 1) := by decide +kernel
theorem dX12_openNow_8 : decode cX12_openNow 8 = .ok (.goto 12, 3) := by decide +kernel
theorem dX12_openNow_11 : decode cX12_openNow 11 = .ok (.aload_n 0, 1) := by decide +kernel
theorem dX12_openNow_12 : decode cX12_openNow 12 = .ok (.getfield 35, 3) := by decide +kernel
theorem dX12_openNow_15 : decode cX12_openNow 15 = .ok (.aload_n 0, 1) := by decide +kernel
theorem dX12_openNow_16 : decode cX12_openNow 16 = .ok (.invokevirtual 188, 3) := by decide +kernel
theorem dX12_openNow_19 : decode cX12_openNow 19 = .ok (.iaload, 1) := by decide +kernel
theorem dX12_openNow_20 : decode cX12_openNow 20 = .ok (.ireturn, 1) := by decide +kernel
theorem dX12_isCompared_0 : decode cX12_isCompared 0 = .ok (.aload_n 0, 1) := by decide +kernel
theorem dX12_isCompared_1 : decode cX12_isCompared 1 = .ok (.getfield 176, 3) := by decide +kernel
theorem dX12_isCompared_4 : decode cX12_isCompared 4 = .ok (.iconst 1, 1) := by decide +kernel
theorem dX12_isCompared_5 : decode cX12_isCompared 5 = .ok (.isub, 1) := by decide +kernel
theorem dX12_isCompared_6 : decode cX12_isCompared 6 = .ok (.istore_n 1, 1) := by decide +kernel
theorem dX12_isCompared_7 : decode cX12_isCompared 7 = .ok (.iload_n 1, 1) := by decide +kernel
theorem dX12_isCompared_8 : decode cX12_isCompared 8 = .ok (.ifCond .lt 22, 3) := by decide +kernel
theorem dX12_isCompared_11 : decode cX12_isCompared 11 = .ok (.aload_n 0, 1) := by decide +kernel
theorem dX12_isCompared_12 : decode cX12_isCompared 12 = .ok (.getfield 35, 3) := by decide +kernel
theorem dX12_isCompared_15 : decode cX12_isCompared 15 = .ok (.iload_n 1, 1) := by decide +kernel
theorem dX12_isCompared_16 : decode cX12_isCompared 16 = .ok (.iaload, 1) := by decide +kernel
theorem dX12_isCompared_17 : decode cX12_isCompared 17 = .ok (.invokestatic 179, 3) := by decide +kernel
theorem dX12_isCompared_20 : decode cX12_isCompared 20 = .ok (.iconst 4, 1) := by decide +kernel
theorem dX12_isCompared_21 : decode cX12_isCompared 21 = .ok (.if_icmp .le 9, 3) := by decide +kernel
theorem dX12_isCompared_24 : decode cX12_isCompared 24 = .ok (.iinc 1 (-1), 3) := by decide +kernel
theorem dX12_isCompared_27 : decode cX12_isCompared 27 = .ok (.goto (-20), 3) := by decide +kernel
theorem dX12_isCompared_30 : decode cX12_isCompared 30 = .ok (.iload_n 1, 1) := by decide +kernel
theorem dX12_isCompared_31 : decode cX12_isCompared 31 = .ok (.ifCond .lt 20, 3) := by decide +kernel
theorem dX12_isCompared_34 : decode cX12_isCompared 34 = .ok (.aload_n 0, 1) := by decide +kernel
theorem dX12_isCompared_35 : decode cX12_isCompared 35 = .ok (.getfield 35, 3) := by decide +kernel
theorem dX12_isCompared_38 : decode cX12_isCompared 38 = .ok (.iload_n 1, 1) := by decide +kernel
theorem dX12_isCompared_39 : decode cX12_isCompared 39 = .ok (.iaload, 1) := by decide +kernel
theorem dX12_isCompared_40 : decode cX12_isCompared 40 = .ok (.invokestatic 179, 3) := by decide +kernel
theorem dX12_isCompared_43 : decode cX12_isCompared 43 = .ok (.iconst 4, 1) := by decide +kernel
theorem dX12_isCompared_44 : decode cX12_isCompared 44 = .ok (.if_icmp .ne 7, 3) := by decide +kernel
theorem dX12_isCompared_47 : decode cX12_isCompared 47 = .ok (.iconst 1, 1) := by decide +kernel
theorem dX12_isCompared_48 : decode cX12_isCompared 48 = .ok (.goto 4, 3) := by decide +kernel
theorem dX12_isCompared_51 : decode cX12_isCompared 51 = .ok (.iconst 0, 1) := by decide +kernel
theorem dX12_isCompared_52 : decode cX12_isCompared 52 = .ok (.ireturn, 1) := by decide +kernel
theorem dX12_isAskAhead_0 : decode cX12_isAskAhead 0 = .ok (.aload_n 0, 1) := by decide +kernel
theorem dX12_isAskAhead_1 : decode cX12_isAskAhead 1 = .ok (.invokevirtual 192, 3) := by decide +kernel
theorem dX12_isAskAhead_4 : decode cX12_isAskAhead 4 = .ok (.bipush 42, 2) := by decide +kernel
theorem dX12_isAskAhead_6 : decode cX12_isAskAhead 6 = .ok (.if_icmp .ne 45, 3) := by decide +kernel
theorem dX12_isAskAhead_9 : decode cX12_isAskAhead 9 = .ok (.aload_n 0, 1) := by decide +kernel
theorem dX12_isAskAhead_10 : decode cX12_isAskAhead 10 = .ok (.getfield 35, 3) := by decide +kernel
theorem dX12_isAskAhead_13 : decode cX12_isAskAhead 13 = .ok (.aload_n 0, 1) := by decide +kernel
theorem dX12_isAskAhead_14 : decode cX12_isAskAhead 14 = .ok (.getfield 176, 3) := by decide +kernel
theorem dX12_isAskAhead_17 : decode cX12_isAskAhead 17 = .ok (.iconst 1, 1) := by decide +kernel
theorem dX12_isAskAhead_18 : decode cX12_isAskAhead 18 = .ok (.isub, 1) := by decide +kernel
theorem dX12_isAskAhead_19 : decode cX12_isAskAhead 19 = .ok (.iaload, 1) := by decide +kernel
theorem dX12_isAskAhead_20 : decode cX12_isAskAhead 20 = .ok (.bipush 40, 2) := by decide +kernel
theorem dX12_isAskAhead_22 : decode cX12_isAskAhead 22 = .ok (.if_icmp .ge 25, 3) := by decide +kernel
theorem dX12_isAskAhead_25 : decode cX12_isAskAhead 25 = .ok (.aload_n 0, 1) := by decide +kernel
theorem dX12_isAskAhead_26 : decode cX12_isAskAhead 26 = .ok (.getfield 35, 3) := by decide +kernel
theorem dX12_isAskAhead_29 : decode cX12_isAskAhead 29 = .ok (.aload_n 0, 1) := by decide +kernel
theorem dX12_isAskAhead_30 : decode cX12_isAskAhead 30 = .ok (.getfield 176, 3) := by decide +kernel
theorem dX12_isAskAhead_33 : decode cX12_isAskAhead 33 = .ok (.iconst 1, 1) := by decide +kernel
theorem dX12_isAskAhead_34 : decode cX12_isAskAhead 34 = .ok (.isub, 1) := by decide +kernel
theorem dX12_isAskAhead_35 : decode cX12_isAskAhead 35 = .ok (.iaload, 1) := by decide +kernel
theorem dX12_isAskAhead_36 : decode cX12_isAskAhead 36 = .ok (.invokestatic 179, 3) := by decide +kernel
theorem dX12_isAskAhead_39 : decode cX12_isAskAhead 39 = .ok (.iconst 1, 1) := by decide +kernel
theorem dX12_isAskAhead_40 : decode cX12_isAskAhead 40 = .ok (.iconst 3, 1) := by decide +kernel
theorem dX12_isAskAhead_41 : decode cX12_isAskAhead 41 = .ok (.invokestatic 84, 3) := by decide +kernel
theorem dX12_isAskAhead_44 : decode cX12_isAskAhead 44 = .ok (.ifCond .eq 7, 3) := by decide +kernel
theorem dX12_isAskAhead_47 : decode cX12_isAskAhead 47 = .ok (.iconst 1, 1) := by decide +kernel
theorem dX12_isAskAhead_48 : decode cX12_isAskAhead 48 = .ok (.goto 4, 3) := by decide +kernel
theorem dX12_isAskAhead_51 : decode cX12_isAskAhead 51 = .ok (.iconst 0, 1) := by decide +kernel
theorem dX12_isAskAhead_52 : decode cX12_isAskAhead 52 = .ok (.ireturn, 1) := by decide +kernel
theorem dX12_opened_0 : decode cX12_opened 0 = .ok (.aload_n 0, 1) := by decide +kernel
theorem dX12_opened_1 : decode cX12_opened 1 = .ok (.getfield 185, 3) := by decide +kernel
theorem dX12_opened_4 : decode cX12_opened 4 = .ok (.bipush 8, 2) := by decide +kernel
theorem dX12_opened_6 : decode cX12_opened 6 = .ok (.if_icmp .ne 5, 3) := by decide +kernel
theorem dX12_opened_9 : decode cX12_opened 9 = .ok (.iconst 3, 1) := by decide +kernel
theorem dX12_opened_10 : decode cX12_opened 10 = .ok (.ireturn, 1) := by decide +kernel
theorem dX12_opened_11 : decode cX12_opened 11 = .ok (.aload_n 0, 1) := by decide +kernel
theorem dX12_opened_12 : decode cX12_opened 12 = .ok (.dup, 1) := by decide +kernel
theorem dX12_opened_13 : decode cX12_opened 13 = .ok (.getfield 185, 3) := by decide +kernel
theorem dX12_opened_16 : decode cX12_opened 16 = .ok (.iconst 1, 1) := by decide +kernel
theorem dX12_opened_17 : decode cX12_opened 17 = .ok (.iadd, 1) := by decide +kernel
theorem dX12_opened_18 : decode cX12_opened 18 = .ok (.putfield 185, 3) := by decide +kernel
theorem dX12_opened_21 : decode cX12_opened 21 = .ok (.aload_n 0, 1) := by decide +kernel
theorem dX12_opened_22 : decode cX12_opened 22 = .ok (.getfield 35, 3) := by decide +kernel
theorem dX12_opened_25 : decode cX12_opened 25 = .ok (.aload_n 0, 1) := by decide +kernel
theorem dX12_opened_26 : decode cX12_opened 26 = .ok (.getfield 176, 3) := by decide +kernel
theorem dX12_opened_29 : decode cX12_opened 29 = .ok (.iload_n 1, 1) := by decide +kernel
theorem dX12_opened_30 : decode cX12_opened 30 = .ok (.iastore, 1) := by decide +kernel
theorem dX12_opened_31 : decode cX12_opened 31 = .ok (.aload_n 0, 1) := by decide +kernel
theorem dX12_opened_32 : decode cX12_opened 32 = .ok (.dup, 1) := by decide +kernel
theorem dX12_opened_33 : decode cX12_opened 33 = .ok (.getfield 176, 3) := by decide +kernel
theorem dX12_opened_36 : decode cX12_opened 36 = .ok (.iconst 1, 1) := by decide +kernel
theorem dX12_opened_37 : decode cX12_opened 37 = .ok (.iadd, 1) := by decide +kernel
theorem dX12_opened_38 : decode cX12_opened 38 = .ok (.putfield 176, 3) := by decide +kernel
theorem dX12_opened_41 : decode cX12_opened 41 = .ok (.aload_n 0, 1) := by decide +kernel
theorem dX12_opened_42 : decode cX12_opened 42 = .ok (.invokevirtual 195, 3) := by decide +kernel
theorem dX12_opened_45 : decode cX12_opened 45 = .ok (.iconst 0, 1) := by decide +kernel
theorem dX12_opened_46 : decode cX12_opened 46 = .ok (.ireturn, 1) := by decide +kernel
theorem dX12_beginOne_0 : decode cX12_beginOne 0 = .ok (.aload_n 0, 1) := by decide +kernel
theorem dX12_beginOne_1 : decode cX12_beginOne 1 = .ok (.getfield 128, 3) := by decide +kernel
theorem dX12_beginOne_4 : decode cX12_beginOne 4 = .ok (.iconst 1, 1) := by decide +kernel
theorem dX12_beginOne_5 : decode cX12_beginOne 5 = .ok (.if_icmp .ne 15, 3) := by decide +kernel
theorem dX12_beginOne_8 : decode cX12_beginOne 8 = .ok (.aload_n 0, 1) := by decide +kernel
theorem dX12_beginOne_9 : decode cX12_beginOne 9 = .ok (.getfield 134, 3) := by decide +kernel
theorem dX12_beginOne_12 : decode cX12_beginOne 12 = .ok (.sipush 9999, 3) := by decide +kernel
theorem dX12_beginOne_15 : decode cX12_beginOne 15 = .ok (.if_icmp .le 5, 3) := by decide +kernel
theorem dX12_beginOne_18 : decode cX12_beginOne 18 = .ok (.iconst 2, 1) := by decide +kernel
theorem dX12_beginOne_19 : decode cX12_beginOne 19 = .ok (.ireturn, 1) := by decide +kernel
theorem dX12_beginOne_20 : decode cX12_beginOne 20 = .ok (.aload_n 0, 1) := by decide +kernel
theorem dX12_beginOne_21 : decode cX12_beginOne 21 = .ok (.invokevirtual 198, 3) := by decide +kernel
theorem dX12_beginOne_24 : decode cX12_beginOne 24 = .ok (.istore_n 1, 1) := by decide +kernel
theorem dX12_beginOne_25 : decode cX12_beginOne 25 = .ok (.iload_n 1, 1) := by decide +kernel
theorem dX12_beginOne_26 : decode cX12_beginOne 26 = .ok (.bipush 6, 2) := by decide +kernel
theorem dX12_beginOne_28 : decode cX12_beginOne 28 = .ok (.if_icmp .le 12, 3) := by decide +kernel
theorem dX12_beginOne_31 : decode cX12_beginOne 31 = .ok (.aload_n 0, 1) := by decide +kernel
theorem dX12_beginOne_32 : decode cX12_beginOne 32 = .ok (.getfield 201, 3) := by decide +kernel
theorem dX12_beginOne_35 : decode cX12_beginOne 35 = .ok (.ifCond .eq 5, 3) := by decide +kernel
theorem dX12_beginOne_38 : decode cX12_beginOne 38 = .ok (.iconst 5, 1) := by decide +kernel
theorem dX12_beginOne_39 : decode cX12_beginOne 39 = .ok (.ireturn, 1) := by decide +kernel
theorem dX12_beginOne_40 : decode cX12_beginOne 40 = .ok (.aload_n 0, 1) := by decide +kernel
theorem dX12_beginOne_41 : decode cX12_beginOne 41 = .ok (.getfield 128, 3) := by decide +kernel
theorem dX12_beginOne_44 : decode cX12_beginOne 44 = .ok (.iconst 1, 1) := by decide +kernel
theorem dX12_beginOne_45 : decode cX12_beginOne 45 = .ok (.if_icmp .eq 7, 3) := by decide +kernel
theorem dX12_beginOne_48 : decode cX12_beginOne 48 = .ok (.iload_n 1, 1) := by decide +kernel
theorem dX12_beginOne_49 : decode cX12_beginOne 49 = .ok (.ifCond .lt 45, 3) := by decide +kernel
theorem dX12_beginOne_52 : decode cX12_beginOne 52 = .ok (.aload_n 0, 1) := by decide +kernel
theorem dX12_beginOne_53 : decode cX12_beginOne 53 = .ok (.aload_n 0, 1) := by decide +kernel
theorem dX12_beginOne_54 : decode cX12_beginOne 54 = .ok (.getfield 128, 3) := by decide +kernel
theorem dX12_beginOne_57 : decode cX12_beginOne 57 = .ok (.iconst 1, 1) := by decide +kernel
theorem dX12_beginOne_58 : decode cX12_beginOne 58 = .ok (.if_icmp .ne 7, 3) := by decide +kernel
theorem dX12_beginOne_61 : decode cX12_beginOne 61 = .ok (.iconst 0, 1) := by decide +kernel
theorem dX12_beginOne_62 : decode cX12_beginOne 62 = .ok (.goto 4, 3) := by decide +kernel
theorem dX12_beginOne_65 : decode cX12_beginOne 65 = .ok (.iconst 1, 1) := by decide +kernel
theorem dX12_beginOne_66 : decode cX12_beginOne 66 = .ok (.aload_n 0, 1) := by decide +kernel
theorem dX12_beginOne_67 : decode cX12_beginOne 67 = .ok (.getfield 128, 3) := by decide +kernel
theorem dX12_beginOne_70 : decode cX12_beginOne 70 = .ok (.iconst 1, 1) := by decide +kernel
theorem dX12_beginOne_71 : decode cX12_beginOne 71 = .ok (.if_icmp .ne 10, 3) := by decide +kernel
theorem dX12_beginOne_74 : decode cX12_beginOne 74 = .ok (.aload_n 0, 1) := by decide +kernel
theorem dX12_beginOne_75 : decode cX12_beginOne 75 = .ok (.getfield 134, 3) := by decide +kernel
theorem dX12_beginOne_78 : decode cX12_beginOne 78 = .ok (.goto 4, 3) := by decide +kernel
theorem dX12_beginOne_81 : decode cX12_beginOne 81 = .ok (.iload_n 1, 1) := by decide +kernel
theorem dX12_beginOne_82 : decode cX12_beginOne 82 = .ok (.invokevirtual 182, 3) := by decide +kernel
theorem dX12_beginOne_85 : decode cX12_beginOne 85 = .ok (.aload_n 0, 1) := by decide +kernel
theorem dX12_beginOne_86 : decode cX12_beginOne 86 = .ok (.invokevirtual 195, 3) := by decide +kernel
theorem dX12_beginOne_89 : decode cX12_beginOne 89 = .ok (.aload_n 0, 1) := by decide +kernel
theorem dX12_beginOne_90 : decode cX12_beginOne 90 = .ok (.invokevirtual 204, 3) := by decide +kernel
theorem dX12_beginOne_93 : decode cX12_beginOne 93 = .ok (.ireturn, 1) := by decide +kernel
theorem dX12_beginOne_94 : decode cX12_beginOne 94 = .ok (.aload_n 0, 1) := by decide +kernel
theorem dX12_beginOne_95 : decode cX12_beginOne 95 = .ok (.getfield 128, 3) := by decide +kernel
theorem dX12_beginOne_98 : decode cX12_beginOne 98 = .ok (.bipush 40, 2) := by decide +kernel
theorem dX12_beginOne_100 : decode cX12_beginOne 100 = .ok (.if_icmp .ne 10, 3) := by decide +kernel
theorem dX12_beginOne_103 : decode cX12_beginOne 103 = .ok (.aload_n 0, 1) := by decide +kernel
theorem dX12_beginOne_104 : decode cX12_beginOne 104 = .ok (.bipush 40, 2) := by decide +kernel
theorem dX12_beginOne_106 : decode cX12_beginOne 106 = .ok (.invokevirtual 207, 3) := by decide +kernel
theorem dX12_beginOne_109 : decode cX12_beginOne 109 = .ok (.ireturn, 1) := by decide +kernel
theorem dX12_beginOne_110 : decode cX12_beginOne 110 = .ok (.aload_n 0, 1) := by decide +kernel
theorem dX12_beginOne_111 : decode cX12_beginOne 111 = .ok (.getfield 128, 3) := by decide +kernel
theorem dX12_beginOne_114 : decode cX12_beginOne 114 = .ok (.bipush 45, 2) := by decide +kernel
theorem dX12_beginOne_116 : decode cX12_beginOne 116 = .ok (.if_icmp .ne 9, 3) := by decide +kernel
theorem dX12_beginOne_119 : decode cX12_beginOne 119 = .ok (.aload_n 0, 1) := by decide +kernel
theorem dX12_beginOne_120 : decode cX12_beginOne 120 = .ok (.iconst 5, 1) := by decide +kernel
theorem dX12_beginOne_121 : decode cX12_beginOne 121 = .ok (.invokevirtual 207, 3) := by decide +kernel
theorem dX12_beginOne_124 : decode cX12_beginOne 124 = .ok (.ireturn, 1) := by decide +kernel
theorem dX12_beginOne_125 : decode cX12_beginOne 125 = .ok (.aload_n 0, 1) := by decide +kernel
theorem dX12_beginOne_126 : decode cX12_beginOne 126 = .ok (.bipush 119, 2) := by decide +kernel
theorem dX12_beginOne_128 : decode cX12_beginOne 128 = .ok (.bipush 105, 2) := by decide +kernel
theorem dX12_beginOne_130 : decode cX12_beginOne 130 = .ok (.bipush 116, 2) := by decide +kernel
theorem dX12_beginOne_132 : decode cX12_beginOne 132 = .ok (.bipush 104, 2) := by decide +kernel
theorem dX12_beginOne_134 : decode cX12_beginOne 134 = .ok (.bipush 105, 2) := by decide +kernel
theorem dX12_beginOne_136 : decode cX12_beginOne 136 = .ok (.bipush 110, 2) := by decide +kernel
theorem dX12_beginOne_138 : decode cX12_beginOne 138 = .ok (.invokestatic 210, 3) := by decide +kernel
theorem dX12_beginOne_141 : decode cX12_beginOne 141 = .ok (.invokevirtual 214, 3) := by decide +kernel
theorem dX12_beginOne_144 : decode cX12_beginOne 144 = .ok (.ifCond .eq 10, 3) := by decide +kernel
theorem dX12_beginOne_147 : decode cX12_beginOne 147 = .ok (.aload_n 0, 1) := by decide +kernel
theorem dX12_beginOne_148 : decode cX12_beginOne 148 = .ok (.bipush 41, 2) := by decide +kernel
theorem dX12_beginOne_150 : decode cX12_beginOne 150 = .ok (.invokevirtual 207, 3) := by decide +kernel
theorem dX12_beginOne_153 : decode cX12_beginOne 153 = .ok (.ireturn, 1) := by decide +kernel
theorem dX12_beginOne_154 : decode cX12_beginOne 154 = .ok (.aload_n 0, 1) := by decide +kernel
theorem dX12_beginOne_155 : decode cX12_beginOne 155 = .ok (.bipush 98, 2) := by decide +kernel
theorem dX12_beginOne_157 : decode cX12_beginOne 157 = .ok (.bipush 101, 2) := by decide +kernel
theorem dX12_beginOne_159 : decode cX12_beginOne 159 = .ok (.bipush 108, 2) := by decide +kernel
theorem dX12_beginOne_161 : decode cX12_beginOne 161 = .ok (.bipush 111, 2) := by decide +kernel
theorem dX12_beginOne_163 : decode cX12_beginOne 163 = .ok (.bipush 119, 2) := by decide +kernel
theorem dX12_beginOne_165 : decode cX12_beginOne 165 = .ok (.invokestatic 162, 3) := by decide +kernel
theorem dX12_beginOne_168 : decode cX12_beginOne 168 = .ok (.invokevirtual 214, 3) := by decide +kernel
theorem dX12_beginOne_171 : decode cX12_beginOne 171 = .ok (.ifCond .eq 9, 3) := by decide +kernel
theorem dX12_beginOne_174 : decode cX12_beginOne 174 = .ok (.aload_n 0, 1) := by decide +kernel
theorem dX12_beginOne_175 : decode cX12_beginOne 175 = .ok (.iconst 2, 1) := by decide +kernel
theorem dX12_beginOne_176 : decode cX12_beginOne 176 = .ok (.invokevirtual 207, 3) := by decide +kernel
theorem dX12_beginOne_179 : decode cX12_beginOne 179 = .ok (.ireturn, 1) := by decide +kernel
theorem dX12_beginOne_180 : decode cX12_beginOne 180 = .ok (.aload_n 0, 1) := by decide +kernel
theorem dX12_beginOne_181 : decode cX12_beginOne 181 = .ok (.bipush 105, 2) := by decide +kernel
theorem dX12_beginOne_183 : decode cX12_beginOne 183 = .ok (.bipush 102, 2) := by decide +kernel
theorem dX12_beginOne_185 : decode cX12_beginOne 185 = .ok (.invokestatic 150, 3) := by decide +kernel
theorem dX12_beginOne_188 : decode cX12_beginOne 188 = .ok (.invokevirtual 214, 3) := by decide +kernel
theorem dX12_beginOne_191 : decode cX12_beginOne 191 = .ok (.ifCond .eq 10, 3) := by decide +kernel
theorem dX12_beginOne_194 : decode cX12_beginOne 194 = .ok (.aload_n 0, 1) := by decide +kernel
theorem dX12_beginOne_195 : decode cX12_beginOne 195 = .ok (.bipush 42, 2) := by decide +kernel
theorem dX12_beginOne_197 : decode cX12_beginOne 197 = .ok (.invokevirtual 207, 3) := by decide +kernel
theorem dX12_beginOne_200 : decode cX12_beginOne 200 = .ok (.ireturn, 1) := by decide +kernel
theorem dX12_beginOne_201 : decode cX12_beginOne 201 = .ok (.aload_n 0, 1) := by decide +kernel
theorem dX12_beginOne_202 : decode cX12_beginOne 202 = .ok (.bipush 110, 2) := by decide +kernel
theorem dX12_beginOne_204 : decode cX12_beginOne 204 = .ok (.bipush 111, 2) := by decide +kernel
theorem dX12_beginOne_206 : decode cX12_beginOne 206 = .ok (.bipush 116, 2) := by decide +kernel
theorem dX12_beginOne_208 : decode cX12_beginOne 208 = .ok (.invokestatic 154, 3) := by decide +kernel
theorem dX12_beginOne_211 : decode cX12_beginOne 211 = .ok (.invokevirtual 214, 3) := by decide +kernel
theorem dX12_beginOne_214 : decode cX12_beginOne 214 = .ok (.ifCond .eq 19, 3) := by decide +kernel
theorem dX12_beginOne_217 : decode cX12_beginOne 217 = .ok (.aload_n 0, 1) := by decide +kernel
theorem dX12_beginOne_218 : decode cX12_beginOne 218 = .ok (.invokevirtual 218, 3) := by decide +kernel
theorem dX12_beginOne_221 : decode cX12_beginOne 221 = .ok (.ifCond .eq 12, 3) := by decide +kernel
theorem dX12_beginOne_224 : decode cX12_beginOne 224 = .ok (.aload_n 0, 1) := by decide +kernel
theorem dX12_beginOne_225 : decode cX12_beginOne 225 = .ok (.bipush 20, 2) := by decide +kernel
theorem dX12_beginOne_227 : decode cX12_beginOne 227 = .ok (.invokevirtual 207, 3) := by decide +kernel
theorem dX12_beginOne_230 : decode cX12_beginOne 230 = .ok (.goto 4, 3) := by decide +kernel
theorem dX12_beginOne_233 : decode cX12_beginOne 233 = .ok (.iconst 1, 1) := by decide +kernel
theorem dX12_beginOne_234 : decode cX12_beginOne 234 = .ok (.ireturn, 1) := by decide +kernel
theorem dX12_endOne_0 : decode cX12_endOne 0 = .ok (.aload_n 0, 1) := by decide +kernel
theorem dX12_endOne_1 : decode cX12_endOne 1 = .ok (.bipush 7, 2) := by decide +kernel
theorem dX12_endOne_3 : decode cX12_endOne 3 = .ok (.invokevirtual 221, 3) := by decide +kernel
theorem dX12_endOne_6 : decode cX12_endOne 6 = .ok (.aload_n 0, 1) := by decide +kernel
theorem dX12_endOne_7 : decode cX12_endOne 7 = .ok (.iconst 1, 1) := by decide +kernel
theorem dX12_endOne_8 : decode cX12_endOne 8 = .ok (.putfield 224, 3) := by decide +kernel
theorem dX12_endOne_11 : decode cX12_endOne 11 = .ok (.aload_n 0, 1) := by decide +kernel
theorem dX12_endOne_12 : decode cX12_endOne 12 = .ok (.getfield 176, 3) := by decide +kernel
theorem dX12_endOne_15 : decode cX12_endOne 15 = .ok (.ifCond .eq 19, 3) := by decide +kernel
theorem dX12_endOne_18 : decode cX12_endOne 18 = .ok (.aload_n 0, 1) := by decide +kernel
theorem dX12_endOne_19 : decode cX12_endOne 19 = .ok (.getfield 35, 3) := by decide +kernel
theorem dX12_endOne_22 : decode cX12_endOne 22 = .ok (.aload_n 0, 1) := by decide +kernel
theorem dX12_endOne_23 : decode cX12_endOne 23 = .ok (.getfield 176, 3) := by decide +kernel
theorem dX12_endOne_26 : decode cX12_endOne 26 = .ok (.iconst 1, 1) := by decide +kernel
theorem dX12_endOne_27 : decode cX12_endOne 27 = .ok (.isub, 1) := by decide +kernel
theorem dX12_endOne_28 : decode cX12_endOne 28 = .ok (.iaload, 1) := by decide +kernel
theorem dX12_endOne_29 : decode cX12_endOne 29 = .ok (.bipush 41, 2) := by decide +kernel
theorem dX12_endOne_31 : decode cX12_endOne 31 = .ok (.if_icmp .eq 5, 3) := by decide +kernel
theorem dX12_endOne_34 : decode cX12_endOne 34 = .ok (.iconst 0, 1) := by decide +kernel
theorem dX12_endOne_35 : decode cX12_endOne 35 = .ok (.ireturn, 1) := by decide +kernel
theorem dX12_endOne_36 : decode cX12_endOne 36 = .ok (.aload_n 0, 1) := by decide +kernel
theorem dX12_endOne_37 : decode cX12_endOne 37 = .ok (.bipush 111, 2) := by decide +kernel
theorem dX12_endOne_39 : decode cX12_endOne 39 = .ok (.bipush 102, 2) := by decide +kernel
theorem dX12_endOne_41 : decode cX12_endOne 41 = .ok (.invokestatic 150, 3) := by decide +kernel
theorem dX12_endOne_44 : decode cX12_endOne 44 = .ok (.invokevirtual 214, 3) := by decide +kernel
theorem dX12_endOne_47 : decode cX12_endOne 47 = .ok (.ifCond .ne 5, 3) := by decide +kernel
theorem dX12_endOne_50 : decode cX12_endOne 50 = .ok (.iconst 1, 1) := by decide +kernel
theorem dX12_endOne_51 : decode cX12_endOne 51 = .ok (.ireturn, 1) := by decide +kernel
theorem dX12_endOne_52 : decode cX12_endOne 52 = .ok (.aload_n 0, 1) := by decide +kernel
theorem dX12_endOne_53 : decode cX12_endOne 53 = .ok (.invokevirtual 195, 3) := by decide +kernel
theorem dX12_endOne_56 : decode cX12_endOne 56 = .ok (.aload_n 0, 1) := by decide +kernel
theorem dX12_endOne_57 : decode cX12_endOne 57 = .ok (.getfield 35, 3) := by decide +kernel
theorem dX12_endOne_60 : decode cX12_endOne 60 = .ok (.aload_n 0, 1) := by decide +kernel
theorem dX12_endOne_61 : decode cX12_endOne 61 = .ok (.getfield 176, 3) := by decide +kernel
theorem dX12_endOne_64 : decode cX12_endOne 64 = .ok (.iconst 1, 1) := by decide +kernel
theorem dX12_endOne_65 : decode cX12_endOne 65 = .ok (.isub, 1) := by decide +kernel
theorem dX12_endOne_66 : decode cX12_endOne 66 = .ok (.iconst 4, 1) := by decide +kernel
theorem dX12_endOne_67 : decode cX12_endOne 67 = .ok (.iastore, 1) := by decide +kernel
theorem dX12_endOne_68 : decode cX12_endOne 68 = .ok (.aload_n 0, 1) := by decide +kernel
theorem dX12_endOne_69 : decode cX12_endOne 69 = .ok (.iconst 0, 1) := by decide +kernel
theorem dX12_endOne_70 : decode cX12_endOne 70 = .ok (.putfield 224, 3) := by decide +kernel
theorem dX12_endOne_73 : decode cX12_endOne 73 = .ok (.iconst 0, 1) := by decide +kernel
theorem dX12_endOne_74 : decode cX12_endOne 74 = .ok (.ireturn, 1) := by decide +kernel
theorem dX12_compareOf_0 : decode cX12_compareOf 0 = .ok (.aload_n 0, 1) := by decide +kernel
theorem dX12_compareOf_1 : decode cX12_compareOf 1 = .ok (.getfield 128, 3) := by decide +kernel
theorem dX12_compareOf_4 : decode cX12_compareOf 4 = .ok (.bipush 60, 2) := by decide +kernel
theorem dX12_compareOf_6 : decode cX12_compareOf 6 = .ok (.if_icmp .ne 8, 3) := by decide +kernel
theorem dX12_compareOf_9 : decode cX12_compareOf 9 = .ok (.bipush 10, 2) := by decide +kernel
theorem dX12_compareOf_11 : decode cX12_compareOf 11 = .ok (.goto 72, 3) := by decide +kernel
theorem dX12_compareOf_14 : decode cX12_compareOf 14 = .ok (.aload_n 0, 1) := by decide +kernel
theorem dX12_compareOf_15 : decode cX12_compareOf 15 = .ok (.getfield 128, 3) := by decide +kernel
theorem dX12_compareOf_18 : decode cX12_compareOf 18 = .ok (.iconst 4, 1) := by decide +kernel
theorem dX12_compareOf_19 : decode cX12_compareOf 19 = .ok (.if_icmp .ne 8, 3) := by decide +kernel
theorem dX12_compareOf_22 : decode cX12_compareOf 22 = .ok (.bipush 11, 2) := by decide +kernel
theorem dX12_compareOf_24 : decode cX12_compareOf 24 = .ok (.goto 59, 3) := by decide +kernel
theorem dX12_compareOf_27 : decode cX12_compareOf 27 = .ok (.aload_n 0, 1) := by decide +kernel
theorem dX12_compareOf_28 : decode cX12_compareOf 28 = .ok (.getfield 128, 3) := by decide +kernel
theorem dX12_compareOf_31 : decode cX12_compareOf 31 = .ok (.bipush 62, 2) := by decide +kernel
theorem dX12_compareOf_33 : decode cX12_compareOf 33 = .ok (.if_icmp .ne 8, 3) := by decide +kernel
theorem dX12_compareOf_36 : decode cX12_compareOf 36 = .ok (.bipush 12, 2) := by decide +kernel
theorem dX12_compareOf_38 : decode cX12_compareOf 38 = .ok (.goto 45, 3) := by decide +kernel
theorem dX12_compareOf_41 : decode cX12_compareOf 41 = .ok (.aload_n 0, 1) := by decide +kernel
theorem dX12_compareOf_42 : decode cX12_compareOf 42 = .ok (.getfield 128, 3) := by decide +kernel
theorem dX12_compareOf_45 : decode cX12_compareOf 45 = .ok (.iconst 5, 1) := by decide +kernel
theorem dX12_compareOf_46 : decode cX12_compareOf 46 = .ok (.if_icmp .ne 8, 3) := by decide +kernel
theorem dX12_compareOf_49 : decode cX12_compareOf 49 = .ok (.bipush 13, 2) := by decide +kernel
theorem dX12_compareOf_51 : decode cX12_compareOf 51 = .ok (.goto 32, 3) := by decide +kernel
theorem dX12_compareOf_54 : decode cX12_compareOf 54 = .ok (.aload_n 0, 1) := by decide +kernel
theorem dX12_compareOf_55 : decode cX12_compareOf 55 = .ok (.getfield 128, 3) := by decide +kernel
theorem dX12_compareOf_58 : decode cX12_compareOf 58 = .ok (.bipush 61, 2) := by decide +kernel
theorem dX12_compareOf_60 : decode cX12_compareOf 60 = .ok (.if_icmp .ne 8, 3) := by decide +kernel
theorem dX12_compareOf_63 : decode cX12_compareOf 63 = .ok (.bipush 14, 2) := by decide +kernel
theorem dX12_compareOf_65 : decode cX12_compareOf 65 = .ok (.goto 18, 3) := by decide +kernel
theorem dX12_compareOf_68 : decode cX12_compareOf 68 = .ok (.aload_n 0, 1) := by decide +kernel
theorem dX12_compareOf_69 : decode cX12_compareOf 69 = .ok (.getfield 128, 3) := by decide +kernel
theorem dX12_compareOf_72 : decode cX12_compareOf 72 = .ok (.bipush 35, 2) := by decide +kernel
theorem dX12_compareOf_74 : decode cX12_compareOf 74 = .ok (.if_icmp .ne 8, 3) := by decide +kernel
theorem dX12_compareOf_77 : decode cX12_compareOf 77 = .ok (.bipush 15, 2) := by decide +kernel
theorem dX12_compareOf_79 : decode cX12_compareOf 79 = .ok (.goto 4, 3) := by decide +kernel
theorem dX12_compareOf_82 : decode cX12_compareOf 82 = .ok (.iconst (-1), 1) := by decide +kernel
theorem dX12_compareOf_83 : decode cX12_compareOf 83 = .ok (.ireturn, 1) := by decide +kernel
theorem dX12_betweenOf_0 : decode cX12_betweenOf 0 = .ok (.aload_n 0, 1) := by decide +kernel
theorem dX12_betweenOf_1 : decode cX12_betweenOf 1 = .ok (.getfield 128, 3) := by decide +kernel
theorem dX12_betweenOf_4 : decode cX12_betweenOf 4 = .ok (.bipush 43, 2) := by decide +kernel
theorem dX12_betweenOf_6 : decode cX12_betweenOf 6 = .ok (.if_icmp .ne 6, 3) := by decide +kernel
theorem dX12_betweenOf_9 : decode cX12_betweenOf 9 = .ok (.bipush 6, 2) := by decide +kernel
theorem dX12_betweenOf_11 : decode cX12_betweenOf 11 = .ok (.ireturn, 1) := by decide +kernel
theorem dX12_betweenOf_12 : decode cX12_betweenOf 12 = .ok (.aload_n 0, 1) := by decide +kernel
theorem dX12_betweenOf_13 : decode cX12_betweenOf 13 = .ok (.getfield 128, 3) := by decide +kernel
theorem dX12_betweenOf_16 : decode cX12_betweenOf 16 = .ok (.bipush 45, 2) := by decide +kernel
theorem dX12_betweenOf_18 : decode cX12_betweenOf 18 = .ok (.if_icmp .ne 6, 3) := by decide +kernel
theorem dX12_betweenOf_21 : decode cX12_betweenOf 21 = .ok (.bipush 7, 2) := by decide +kernel
theorem dX12_betweenOf_23 : decode cX12_betweenOf 23 = .ok (.ireturn, 1) := by decide +kernel
theorem dX12_betweenOf_24 : decode cX12_betweenOf 24 = .ok (.aload_n 0, 1) := by decide +kernel
theorem dX12_betweenOf_25 : decode cX12_betweenOf 25 = .ok (.getfield 128, 3) := by decide +kernel
theorem dX12_betweenOf_28 : decode cX12_betweenOf 28 = .ok (.bipush 42, 2) := by decide +kernel
theorem dX12_betweenOf_30 : decode cX12_betweenOf 30 = .ok (.if_icmp .ne 6, 3) := by decide +kernel
theorem dX12_betweenOf_33 : decode cX12_betweenOf 33 = .ok (.bipush 8, 2) := by decide +kernel
theorem dX12_betweenOf_35 : decode cX12_betweenOf 35 = .ok (.ireturn, 1) := by decide +kernel
theorem dX12_betweenOf_36 : decode cX12_betweenOf 36 = .ok (.aload_n 0, 1) := by decide +kernel
theorem dX12_betweenOf_37 : decode cX12_betweenOf 37 = .ok (.getfield 128, 3) := by decide +kernel
theorem dX12_betweenOf_40 : decode cX12_betweenOf 40 = .ok (.bipush 47, 2) := by decide +kernel
theorem dX12_betweenOf_42 : decode cX12_betweenOf 42 = .ok (.if_icmp .ne 6, 3) := by decide +kernel
theorem dX12_betweenOf_45 : decode cX12_betweenOf 45 = .ok (.bipush 9, 2) := by decide +kernel
theorem dX12_betweenOf_47 : decode cX12_betweenOf 47 = .ok (.ireturn, 1) := by decide +kernel
theorem dX12_betweenOf_48 : decode cX12_betweenOf 48 = .ok (.aload_n 0, 1) := by decide +kernel
theorem dX12_betweenOf_49 : decode cX12_betweenOf 49 = .ok (.invokevirtual 192, 3) := by decide +kernel
theorem dX12_betweenOf_52 : decode cX12_betweenOf 52 = .ok (.bipush 42, 2) := by decide +kernel
theorem dX12_betweenOf_54 : decode cX12_betweenOf 54 = .ok (.if_icmp .eq 5, 3) := by decide +kernel
theorem dX12_betweenOf_57 : decode cX12_betweenOf 57 = .ok (.iconst (-1), 1) := by decide +kernel
theorem dX12_betweenOf_58 : decode cX12_betweenOf 58 = .ok (.ireturn, 1) := by decide +kernel
theorem dX12_betweenOf_59 : decode cX12_betweenOf 59 = .ok (.aload_n 0, 1) := by decide +kernel
theorem dX12_betweenOf_60 : decode cX12_betweenOf 60 = .ok (.invokevirtual 227, 3) := by decide +kernel
theorem dX12_betweenOf_63 : decode cX12_betweenOf 63 = .ok (.ifCond .ne 8, 3) := by decide +kernel
theorem dX12_betweenOf_66 : decode cX12_betweenOf 66 = .ok (.aload_n 0, 1) := by decide +kernel
theorem dX12_betweenOf_67 : decode cX12_betweenOf 67 = .ok (.invokevirtual 230, 3) := by decide +kernel
theorem dX12_betweenOf_70 : decode cX12_betweenOf 70 = .ok (.ireturn, 1) := by decide +kernel
theorem dX12_betweenOf_71 : decode cX12_betweenOf 71 = .ok (.aload_n 0, 1) := by decide +kernel
theorem dX12_betweenOf_72 : decode cX12_betweenOf 72 = .ok (.bipush 97, 2) := by decide +kernel
theorem dX12_betweenOf_74 : decode cX12_betweenOf 74 = .ok (.bipush 110, 2) := by decide +kernel
theorem dX12_betweenOf_76 : decode cX12_betweenOf 76 = .ok (.bipush 100, 2) := by decide +kernel
theorem dX12_betweenOf_78 : decode cX12_betweenOf 78 = .ok (.invokestatic 154, 3) := by decide +kernel
theorem dX12_betweenOf_81 : decode cX12_betweenOf 81 = .ok (.invokevirtual 214, 3) := by decide +kernel
theorem dX12_betweenOf_84 : decode cX12_betweenOf 84 = .ok (.ifCond .eq 8, 3) := by decide +kernel
theorem dX12_betweenOf_87 : decode cX12_betweenOf 87 = .ok (.bipush 21, 2) := by decide +kernel
theorem dX12_betweenOf_89 : decode cX12_betweenOf 89 = .ok (.goto 23, 3) := by decide +kernel
theorem dX12_betweenOf_92 : decode cX12_betweenOf 92 = .ok (.aload_n 0, 1) := by decide +kernel
theorem dX12_betweenOf_93 : decode cX12_betweenOf 93 = .ok (.bipush 111, 2) := by decide +kernel
theorem dX12_betweenOf_95 : decode cX12_betweenOf 95 = .ok (.bipush 114, 2) := by decide +kernel
theorem dX12_betweenOf_97 : decode cX12_betweenOf 97 = .ok (.invokestatic 150, 3) := by decide +kernel
theorem dX12_betweenOf_100 : decode cX12_betweenOf 100 = .ok (.invokevirtual 214, 3) := by decide +kernel
theorem dX12_betweenOf_103 : decode cX12_betweenOf 103 = .ok (.ifCond .eq 8, 3) := by decide +kernel
theorem dX12_betweenOf_106 : decode cX12_betweenOf 106 = .ok (.bipush 22, 2) := by decide +kernel
theorem dX12_betweenOf_108 : decode cX12_betweenOf 108 = .ok (.goto 4, 3) := by decide +kernel
theorem dX12_betweenOf_111 : decode cX12_betweenOf 111 = .ok (.iconst (-1), 1) := by decide +kernel
theorem dX12_betweenOf_112 : decode cX12_betweenOf 112 = .ok (.ireturn, 1) := by decide +kernel
theorem dX12_partOf_0 : decode cX12_partOf 0 = .ok (.iload_n 1, 1) := by decide +kernel
theorem dX12_partOf_1 : decode cX12_partOf 1 = .ok (.tableswitch 129 40 44 #[35, 129, 50, 82, 107], 35) := by decide +kernel
theorem dX12_partOf_36 : decode cX12_partOf 36 = .ok (.aload_n 0, 1) := by decide +kernel
theorem dX12_partOf_37 : decode cX12_partOf 37 = .ok (.getfield 128, 3) := by decide +kernel
theorem dX12_partOf_40 : decode cX12_partOf 40 = .ok (.bipush 41, 2) := by decide +kernel
theorem dX12_partOf_42 : decode cX12_partOf 42 = .ok (.if_icmp .ne 7, 3) := by decide +kernel
theorem dX12_partOf_45 : decode cX12_partOf 45 = .ok (.iconst 0, 1) := by decide +kernel
theorem dX12_partOf_46 : decode cX12_partOf 46 = .ok (.goto 4, 3) := by decide +kernel
theorem dX12_partOf_49 : decode cX12_partOf 49 = .ok (.iconst (-1), 1) := by decide +kernel
theorem dX12_partOf_50 : decode cX12_partOf 50 = .ok (.ireturn, 1) := by decide +kernel
theorem dX12_partOf_51 : decode cX12_partOf 51 = .ok (.aload_n 0, 1) := by decide +kernel
theorem dX12_partOf_52 : decode cX12_partOf 52 = .ok (.bipush 116, 2) := by decide +kernel
theorem dX12_partOf_54 : decode cX12_partOf 54 = .ok (.bipush 104, 2) := by decide +kernel
theorem dX12_partOf_56 : decode cX12_partOf 56 = .ok (.bipush 101, 2) := by decide +kernel
theorem dX12_partOf_58 : decode cX12_partOf 58 = .ok (.bipush 110, 2) := by decide +kernel
theorem dX12_partOf_60 : decode cX12_partOf 60 = .ok (.invokestatic 158, 3) := by decide +kernel
theorem dX12_partOf_63 : decode cX12_partOf 63 = .ok (.invokevirtual 214, 3) := by decide +kernel
theorem dX12_partOf_66 : decode cX12_partOf 66 = .ok (.ifCond .eq 15, 3) := by decide +kernel
theorem dX12_partOf_69 : decode cX12_partOf 69 = .ok (.aload_n 0, 1) := by decide +kernel
theorem dX12_partOf_70 : decode cX12_partOf 70 = .ok (.invokevirtual 227, 3) := by decide +kernel
theorem dX12_partOf_73 : decode cX12_partOf 73 = .ok (.ifCond .eq 8, 3) := by decide +kernel
theorem dX12_partOf_76 : decode cX12_partOf 76 = .ok (.bipush 43, 2) := by decide +kernel
theorem dX12_partOf_78 : decode cX12_partOf 78 = .ok (.goto 4, 3) := by decide +kernel
theorem dX12_partOf_81 : decode cX12_partOf 81 = .ok (.iconst (-1), 1) := by decide +kernel
theorem dX12_partOf_82 : decode cX12_partOf 82 = .ok (.ireturn, 1) := by decide +kernel
theorem dX12_partOf_83 : decode cX12_partOf 83 = .ok (.aload_n 0, 1) := by decide +kernel
theorem dX12_partOf_84 : decode cX12_partOf 84 = .ok (.bipush 101, 2) := by decide +kernel
theorem dX12_partOf_86 : decode cX12_partOf 86 = .ok (.bipush 108, 2) := by decide +kernel
theorem dX12_partOf_88 : decode cX12_partOf 88 = .ok (.bipush 115, 2) := by decide +kernel
theorem dX12_partOf_90 : decode cX12_partOf 90 = .ok (.bipush 101, 2) := by decide +kernel
theorem dX12_partOf_92 : decode cX12_partOf 92 = .ok (.invokestatic 158, 3) := by decide +kernel
theorem dX12_partOf_95 : decode cX12_partOf 95 = .ok (.invokevirtual 214, 3) := by decide +kernel
theorem dX12_partOf_98 : decode cX12_partOf 98 = .ok (.ifCond .eq 8, 3) := by decide +kernel
theorem dX12_partOf_101 : decode cX12_partOf 101 = .ok (.bipush 44, 2) := by decide +kernel
theorem dX12_partOf_103 : decode cX12_partOf 103 = .ok (.goto 4, 3) := by decide +kernel
theorem dX12_partOf_106 : decode cX12_partOf 106 = .ok (.iconst (-1), 1) := by decide +kernel
theorem dX12_partOf_107 : decode cX12_partOf 107 = .ok (.ireturn, 1) := by decide +kernel
theorem dX12_partOf_108 : decode cX12_partOf 108 = .ok (.aload_n 0, 1) := by decide +kernel
theorem dX12_partOf_109 : decode cX12_partOf 109 = .ok (.bipush 101, 2) := by decide +kernel
theorem dX12_partOf_111 : decode cX12_partOf 111 = .ok (.bipush 110, 2) := by decide +kernel
theorem dX12_partOf_113 : decode cX12_partOf 113 = .ok (.bipush 100, 2) := by decide +kernel
theorem dX12_partOf_115 : decode cX12_partOf 115 = .ok (.invokestatic 154, 3) := by decide +kernel
theorem dX12_partOf_118 : decode cX12_partOf 118 = .ok (.invokevirtual 214, 3) := by decide +kernel
theorem dX12_partOf_121 : decode cX12_partOf 121 = .ok (.ifCond .eq 7, 3) := by decide +kernel
theorem dX12_partOf_124 : decode cX12_partOf 124 = .ok (.iconst 0, 1) := by decide +kernel
theorem dX12_partOf_125 : decode cX12_partOf 125 = .ok (.goto 4, 3) := by decide +kernel
theorem dX12_partOf_128 : decode cX12_partOf 128 = .ok (.iconst (-1), 1) := by decide +kernel
theorem dX12_partOf_129 : decode cX12_partOf 129 = .ok (.ireturn, 1) := by decide +kernel
theorem dX12_partOf_130 : decode cX12_partOf 130 = .ok (.iconst (-1), 1) := by decide +kernel
theorem dX12_partOf_131 : decode cX12_partOf 131 = .ok (.ireturn, 1) := by decide +kernel
theorem dX12_behindOne_0 : decode cX12_behindOne 0 = .ok (.aload_n 0, 1) := by decide +kernel
theorem dX12_behindOne_1 : decode cX12_behindOne 1 = .ok (.invokevirtual 233, 3) := by decide +kernel
theorem dX12_behindOne_4 : decode cX12_behindOne 4 = .ok (.istore_n 1, 1) := by decide +kernel
theorem dX12_behindOne_5 : decode cX12_behindOne 5 = .ok (.iload_n 1, 1) := by decide +kernel
theorem dX12_behindOne_6 : decode cX12_behindOne 6 = .ok (.ifCond .lt 54, 3) := by decide +kernel
theorem dX12_behindOne_9 : decode cX12_behindOne 9 = .ok (.aload_n 0, 1) := by decide +kernel
theorem dX12_behindOne_10 : decode cX12_behindOne 10 = .ok (.iload_n 1, 1) := by decide +kernel
theorem dX12_behindOne_11 : decode cX12_behindOne 11 = .ok (.invokestatic 179, 3) := by decide +kernel
theorem dX12_behindOne_14 : decode cX12_behindOne 14 = .ok (.iconst 4, 1) := by decide +kernel
theorem dX12_behindOne_15 : decode cX12_behindOne 15 = .ok (.if_icmp .ne 7, 3) := by decide +kernel
theorem dX12_behindOne_18 : decode cX12_behindOne 18 = .ok (.iconst 5, 1) := by decide +kernel
theorem dX12_behindOne_19 : decode cX12_behindOne 19 = .ok (.goto 7, 3) := by decide +kernel
theorem dX12_behindOne_22 : decode cX12_behindOne 22 = .ok (.iload_n 1, 1) := by decide +kernel
theorem dX12_behindOne_23 : decode cX12_behindOne 23 = .ok (.invokestatic 179, 3) := by decide +kernel
theorem dX12_behindOne_26 : decode cX12_behindOne 26 = .ok (.invokevirtual 221, 3) := by decide +kernel
theorem dX12_behindOne_29 : decode cX12_behindOne 29 = .ok (.aload_n 0, 1) := by decide +kernel
theorem dX12_behindOne_30 : decode cX12_behindOne 30 = .ok (.getfield 35, 3) := by decide +kernel
theorem dX12_behindOne_33 : decode cX12_behindOne 33 = .ok (.aload_n 0, 1) := by decide +kernel
theorem dX12_behindOne_34 : decode cX12_behindOne 34 = .ok (.getfield 176, 3) := by decide +kernel
theorem dX12_behindOne_37 : decode cX12_behindOne 37 = .ok (.iload_n 1, 1) := by decide +kernel
theorem dX12_behindOne_38 : decode cX12_behindOne 38 = .ok (.iastore, 1) := by decide +kernel
theorem dX12_behindOne_39 : decode cX12_behindOne 39 = .ok (.aload_n 0, 1) := by decide +kernel
theorem dX12_behindOne_40 : decode cX12_behindOne 40 = .ok (.dup, 1) := by decide +kernel
theorem dX12_behindOne_41 : decode cX12_behindOne 41 = .ok (.getfield 176, 3) := by decide +kernel
theorem dX12_behindOne_44 : decode cX12_behindOne 44 = .ok (.iconst 1, 1) := by decide +kernel
theorem dX12_behindOne_45 : decode cX12_behindOne 45 = .ok (.iadd, 1) := by decide +kernel
theorem dX12_behindOne_46 : decode cX12_behindOne 46 = .ok (.putfield 176, 3) := by decide +kernel
theorem dX12_behindOne_49 : decode cX12_behindOne 49 = .ok (.aload_n 0, 1) := by decide +kernel
theorem dX12_behindOne_50 : decode cX12_behindOne 50 = .ok (.iconst 0, 1) := by decide +kernel
theorem dX12_behindOne_51 : decode cX12_behindOne 51 = .ok (.putfield 224, 3) := by decide +kernel
theorem dX12_behindOne_54 : decode cX12_behindOne 54 = .ok (.aload_n 0, 1) := by decide +kernel
theorem dX12_behindOne_55 : decode cX12_behindOne 55 = .ok (.invokevirtual 195, 3) := by decide +kernel
theorem dX12_behindOne_58 : decode cX12_behindOne 58 = .ok (.iconst 0, 1) := by decide +kernel
theorem dX12_behindOne_59 : decode cX12_behindOne 59 = .ok (.ireturn, 1) := by decide +kernel
theorem dX12_behindOne_60 : decode cX12_behindOne 60 = .ok (.aload_n 0, 1) := by decide +kernel
theorem dX12_behindOne_61 : decode cX12_behindOne 61 = .ok (.invokevirtual 192, 3) := by decide +kernel
theorem dX12_behindOne_64 : decode cX12_behindOne 64 = .ok (.istore_n 2, 1) := by decide +kernel
theorem dX12_behindOne_65 : decode cX12_behindOne 65 = .ok (.aload_n 0, 1) := by decide +kernel
theorem dX12_behindOne_66 : decode cX12_behindOne 66 = .ok (.iload_n 2, 1) := by decide +kernel
theorem dX12_behindOne_67 : decode cX12_behindOne 67 = .ok (.invokevirtual 236, 3) := by decide +kernel
theorem dX12_behindOne_70 : decode cX12_behindOne 70 = .ok (.istore_n 3, 1) := by decide +kernel
theorem dX12_behindOne_71 : decode cX12_behindOne 71 = .ok (.iload_n 3, 1) := by decide +kernel
theorem dX12_behindOne_72 : decode cX12_behindOne 72 = .ok (.ifCond .ge 5, 3) := by decide +kernel
theorem dX12_behindOne_75 : decode cX12_behindOne 75 = .ok (.iconst (-1), 1) := by decide +kernel
theorem dX12_behindOne_76 : decode cX12_behindOne 76 = .ok (.ireturn, 1) := by decide +kernel
theorem dX12_behindOne_77 : decode cX12_behindOne 77 = .ok (.aload_n 0, 1) := by decide +kernel
theorem dX12_behindOne_78 : decode cX12_behindOne 78 = .ok (.iconst 1, 1) := by decide +kernel
theorem dX12_behindOne_79 : decode cX12_behindOne 79 = .ok (.invokevirtual 221, 3) := by decide +kernel
theorem dX12_behindOne_82 : decode cX12_behindOne 82 = .ok (.aload_n 0, 1) := by decide +kernel
theorem dX12_behindOne_83 : decode cX12_behindOne 83 = .ok (.invokevirtual 195, 3) := by decide +kernel
theorem dX12_behindOne_86 : decode cX12_behindOne 86 = .ok (.iload_n 3, 1) := by decide +kernel
theorem dX12_behindOne_87 : decode cX12_behindOne 87 = .ok (.ifCond .ne 40, 3) := by decide +kernel
theorem dX12_behindOne_90 : decode cX12_behindOne 90 = .ok (.aload_n 0, 1) := by decide +kernel
theorem dX12_behindOne_91 : decode cX12_behindOne 91 = .ok (.dup, 1) := by decide +kernel
theorem dX12_behindOne_92 : decode cX12_behindOne 92 = .ok (.getfield 185, 3) := by decide +kernel
theorem dX12_behindOne_95 : decode cX12_behindOne 95 = .ok (.iconst 1, 1) := by decide +kernel
theorem dX12_behindOne_96 : decode cX12_behindOne 96 = .ok (.isub, 1) := by decide +kernel
theorem dX12_behindOne_97 : decode cX12_behindOne 97 = .ok (.putfield 185, 3) := by decide +kernel
theorem dX12_behindOne_100 : decode cX12_behindOne 100 = .ok (.aload_n 0, 1) := by decide +kernel
theorem dX12_behindOne_101 : decode cX12_behindOne 101 = .ok (.dup, 1) := by decide +kernel
theorem dX12_behindOne_102 : decode cX12_behindOne 102 = .ok (.getfield 176, 3) := by decide +kernel
theorem dX12_behindOne_105 : decode cX12_behindOne 105 = .ok (.iconst 1, 1) := by decide +kernel
theorem dX12_behindOne_106 : decode cX12_behindOne 106 = .ok (.isub, 1) := by decide +kernel
theorem dX12_behindOne_107 : decode cX12_behindOne 107 = .ok (.putfield 176, 3) := by decide +kernel
theorem dX12_behindOne_110 : decode cX12_behindOne 110 = .ok (.iload_n 2, 1) := by decide +kernel
theorem dX12_behindOne_111 : decode cX12_behindOne 111 = .ok (.bipush 44, 2) := by decide +kernel
theorem dX12_behindOne_113 : decode cX12_behindOne 113 = .ok (.if_icmp .ne 9, 3) := by decide +kernel
theorem dX12_behindOne_116 : decode cX12_behindOne 116 = .ok (.aload_n 0, 1) := by decide +kernel
theorem dX12_behindOne_117 : decode cX12_behindOne 117 = .ok (.iconst 3, 1) := by decide +kernel
theorem dX12_behindOne_118 : decode cX12_behindOne 118 = .ok (.iconst 0, 1) := by decide +kernel
theorem dX12_behindOne_119 : decode cX12_behindOne 119 = .ok (.invokevirtual 182, 3) := by decide +kernel
theorem dX12_behindOne_122 : decode cX12_behindOne 122 = .ok (.aload_n 0, 1) := by decide +kernel
theorem dX12_behindOne_123 : decode cX12_behindOne 123 = .ok (.invokevirtual 204, 3) := by decide +kernel
theorem dX12_behindOne_126 : decode cX12_behindOne 126 = .ok (.ireturn, 1) := by decide +kernel
theorem dX12_behindOne_127 : decode cX12_behindOne 127 = .ok (.aload_n 0, 1) := by decide +kernel
theorem dX12_behindOne_128 : decode cX12_behindOne 128 = .ok (.getfield 35, 3) := by decide +kernel
theorem dX12_behindOne_131 : decode cX12_behindOne 131 = .ok (.aload_n 0, 1) := by decide +kernel
theorem dX12_behindOne_132 : decode cX12_behindOne 132 = .ok (.invokevirtual 188, 3) := by decide +kernel
theorem dX12_behindOne_135 : decode cX12_behindOne 135 = .ok (.iload_n 3, 1) := by decide +kernel
theorem dX12_behindOne_136 : decode cX12_behindOne 136 = .ok (.iastore, 1) := by decide +kernel
theorem dX12_behindOne_137 : decode cX12_behindOne 137 = .ok (.aload_n 0, 1) := by decide +kernel
theorem dX12_behindOne_138 : decode cX12_behindOne 138 = .ok (.iconst 0, 1) := by decide +kernel
theorem dX12_behindOne_139 : decode cX12_behindOne 139 = .ok (.putfield 224, 3) := by decide +kernel
theorem dX12_behindOne_142 : decode cX12_behindOne 142 = .ok (.iconst 0, 1) := by decide +kernel
theorem dX12_behindOne_143 : decode cX12_behindOne 143 = .ok (.ireturn, 1) := by decide +kernel
theorem dX12_summed_0 : decode cX12_summed 0 = .ok (.aload_n 0, 1) := by decide +kernel
theorem dX12_summed_1 : decode cX12_summed 1 = .ok (.iconst 0, 1) := by decide +kernel
theorem dX12_summed_2 : decode cX12_summed 2 = .ok (.putfield 176, 3) := by decide +kernel
theorem dX12_summed_5 : decode cX12_summed 5 = .ok (.aload_n 0, 1) := by decide +kernel
theorem dX12_summed_6 : decode cX12_summed 6 = .ok (.iconst 0, 1) := by decide +kernel
theorem dX12_summed_7 : decode cX12_summed 7 = .ok (.putfield 185, 3) := by decide +kernel
theorem dX12_summed_10 : decode cX12_summed 10 = .ok (.aload_n 0, 1) := by decide +kernel
theorem dX12_summed_11 : decode cX12_summed 11 = .ok (.iconst 0, 1) := by decide +kernel
theorem dX12_summed_12 : decode cX12_summed 12 = .ok (.putfield 224, 3) := by decide +kernel
theorem dX12_summed_15 : decode cX12_summed 15 = .ok (.aload_n 0, 1) := by decide +kernel
theorem dX12_summed_16 : decode cX12_summed 16 = .ok (.getfield 224, 3) := by decide +kernel
theorem dX12_summed_19 : decode cX12_summed 19 = .ok (.ifCond .eq 10, 3) := by decide +kernel
theorem dX12_summed_22 : decode cX12_summed 22 = .ok (.aload_n 0, 1) := by decide +kernel
theorem dX12_summed_23 : decode cX12_summed 23 = .ok (.invokevirtual 239, 3) := by decide +kernel
theorem dX12_summed_26 : decode cX12_summed 26 = .ok (.goto 7, 3) := by decide +kernel
theorem dX12_summed_29 : decode cX12_summed 29 = .ok (.aload_n 0, 1) := by decide +kernel
theorem dX12_summed_30 : decode cX12_summed 30 = .ok (.invokevirtual 242, 3) := by decide +kernel
theorem dX12_summed_33 : decode cX12_summed 33 = .ok (.istore_n 1, 1) := by decide +kernel
theorem dX12_summed_34 : decode cX12_summed 34 = .ok (.iload_n 1, 1) := by decide +kernel
theorem dX12_summed_35 : decode cX12_summed 35 = .ok (.ifCond .le 5, 3) := by decide +kernel
theorem dX12_summed_38 : decode cX12_summed 38 = .ok (.iload_n 1, 1) := by decide +kernel
theorem dX12_summed_39 : decode cX12_summed 39 = .ok (.ireturn, 1) := by decide +kernel
theorem dX12_summed_40 : decode cX12_summed 40 = .ok (.iload_n 1, 1) := by decide +kernel
theorem dX12_summed_41 : decode cX12_summed 41 = .ok (.ifCond .ne 6, 3) := by decide +kernel
theorem dX12_summed_44 : decode cX12_summed 44 = .ok (.goto (-29), 3) := by decide +kernel
theorem dX12_summed_47 : decode cX12_summed 47 = .ok (.aload_n 0, 1) := by decide +kernel
theorem dX12_summed_48 : decode cX12_summed 48 = .ok (.invokevirtual 192, 3) := by decide +kernel
theorem dX12_summed_51 : decode cX12_summed 51 = .ok (.ifCond .lt 5, 3) := by decide +kernel
theorem dX12_summed_54 : decode cX12_summed 54 = .ok (.iconst 1, 1) := by decide +kernel
theorem dX12_summed_55 : decode cX12_summed 55 = .ok (.ireturn, 1) := by decide +kernel
theorem dX12_summed_56 : decode cX12_summed 56 = .ok (.aload_n 0, 1) := by decide +kernel
theorem dX12_summed_57 : decode cX12_summed 57 = .ok (.iconst 1, 1) := by decide +kernel
theorem dX12_summed_58 : decode cX12_summed 58 = .ok (.invokevirtual 221, 3) := by decide +kernel
theorem dX12_summed_61 : decode cX12_summed 61 = .ok (.iconst 0, 1) := by decide +kernel
theorem dX12_summed_62 : decode cX12_summed 62 = .ok (.ireturn, 1) := by decide +kernel
theorem dX12_figure_0 : decode cX12_figure 0 = .ok (.aload_n 0, 1) := by decide +kernel
theorem dX12_figure_1 : decode cX12_figure 1 = .ok (.getfield 128, 3) := by decide +kernel
theorem dX12_figure_4 : decode cX12_figure 4 = .ok (.iconst 1, 1) := by decide +kernel
theorem dX12_figure_5 : decode cX12_figure 5 = .ok (.if_icmp .eq 5, 3) := by decide +kernel
theorem dX12_figure_8 : decode cX12_figure 8 = .ok (.iconst 1, 1) := by decide +kernel
theorem dX12_figure_9 : decode cX12_figure 9 = .ok (.ireturn, 1) := by decide +kernel
theorem dX12_figure_10 : decode cX12_figure 10 = .ok (.aload_n 0, 1) := by decide +kernel
theorem dX12_figure_11 : decode cX12_figure 11 = .ok (.getfield 134, 3) := by decide +kernel
theorem dX12_figure_14 : decode cX12_figure 14 = .ok (.iload_n 2, 1) := by decide +kernel
theorem dX12_figure_15 : decode cX12_figure 15 = .ok (.iload_n 3, 1) := by decide +kernel
theorem dX12_figure_16 : decode cX12_figure 16 = .ok (.invokestatic 84, 3) := by decide +kernel
theorem dX12_figure_19 : decode cX12_figure 19 = .ok (.ifCond .ne 5, 3) := by decide +kernel
theorem dX12_figure_22 : decode cX12_figure 22 = .ok (.iconst 2, 1) := by decide +kernel
theorem dX12_figure_23 : decode cX12_figure 23 = .ok (.ireturn, 1) := by decide +kernel
theorem dX12_figure_24 : decode cX12_figure 24 = .ok (.aload_n 0, 1) := by decide +kernel
theorem dX12_figure_25 : decode cX12_figure 25 = .ok (.getfield 16, 3) := by decide +kernel
theorem dX12_figure_28 : decode cX12_figure 28 = .ok (.iload_n 1, 1) := by decide +kernel
theorem dX12_figure_29 : decode cX12_figure 29 = .ok (.aload_n 0, 1) := by decide +kernel
theorem dX12_figure_30 : decode cX12_figure 30 = .ok (.getfield 134, 3) := by decide +kernel
theorem dX12_figure_33 : decode cX12_figure 33 = .ok (.iastore, 1) := by decide +kernel
theorem dX12_figure_34 : decode cX12_figure 34 = .ok (.aload_n 0, 1) := by decide +kernel
theorem dX12_figure_35 : decode cX12_figure 35 = .ok (.invokevirtual 195, 3) := by decide +kernel
theorem dX12_figure_38 : decode cX12_figure 38 = .ok (.iconst 0, 1) := by decide +kernel
theorem dX12_figure_39 : decode cX12_figure 39 = .ok (.ireturn, 1) := by decide +kernel
theorem dX12_lawClause_0 : decode cX12_lawClause 0 = .ok (.aload_n 0, 1) := by decide +kernel
theorem dX12_lawClause_1 : decode cX12_lawClause 1 = .ok (.getfield 16, 3) := by decide +kernel
theorem dX12_lawClause_4 : decode cX12_lawClause 4 = .ok (.iload_n 1, 1) := by decide +kernel
theorem dX12_lawClause_5 : decode cX12_lawClause 5 = .ok (.iconst 1, 1) := by decide +kernel
theorem dX12_lawClause_6 : decode cX12_lawClause 6 = .ok (.iadd, 1) := by decide +kernel
theorem dX12_lawClause_7 : decode cX12_lawClause 7 = .ok (.aload_n 0, 1) := by decide +kernel
theorem dX12_lawClause_8 : decode cX12_lawClause 8 = .ok (.getfield 169, 3) := by decide +kernel
theorem dX12_lawClause_11 : decode cX12_lawClause 11 = .ok (.iastore, 1) := by decide +kernel
theorem dX12_lawClause_12 : decode cX12_lawClause 12 = .ok (.aload_n 0, 1) := by decide +kernel
theorem dX12_lawClause_13 : decode cX12_lawClause 13 = .ok (.invokevirtual 245, 3) := by decide +kernel
theorem dX12_lawClause_16 : decode cX12_lawClause 16 = .ok (.istore_n 2, 1) := by decide +kernel
theorem dX12_lawClause_17 : decode cX12_lawClause 17 = .ok (.aload_n 0, 1) := by decide +kernel
theorem dX12_lawClause_18 : decode cX12_lawClause 18 = .ok (.getfield 16, 3) := by decide +kernel
theorem dX12_lawClause_21 : decode cX12_lawClause 21 = .ok (.iload_n 1, 1) := by decide +kernel
theorem dX12_lawClause_22 : decode cX12_lawClause 22 = .ok (.iconst 2, 1) := by decide +kernel
theorem dX12_lawClause_23 : decode cX12_lawClause 23 = .ok (.iadd, 1) := by decide +kernel
theorem dX12_lawClause_24 : decode cX12_lawClause 24 = .ok (.aload_n 0, 1) := by decide +kernel
theorem dX12_lawClause_25 : decode cX12_lawClause 25 = .ok (.getfield 169, 3) := by decide +kernel
theorem dX12_lawClause_28 : decode cX12_lawClause 28 = .ok (.iastore, 1) := by decide +kernel
theorem dX12_lawClause_29 : decode cX12_lawClause 29 = .ok (.iload_n 2, 1) := by decide +kernel
theorem dX12_lawClause_30 : decode cX12_lawClause 30 = .ok (.ireturn, 1) := by decide +kernel
theorem dX12_pair_0 : decode cX12_pair 0 = .ok (.aload_n 0, 1) := by decide +kernel
theorem dX12_pair_1 : decode cX12_pair 1 = .ok (.iload_n 1, 1) := by decide +kernel
theorem dX12_pair_2 : decode cX12_pair 2 = .ok (.iconst 1, 1) := by decide +kernel
theorem dX12_pair_3 : decode cX12_pair 3 = .ok (.iadd, 1) := by decide +kernel
theorem dX12_pair_4 : decode cX12_pair 4 = .ok (.iconst 0, 1) := by decide +kernel
theorem dX12_pair_5 : decode cX12_pair 5 = .ok (.iload_n 2, 1) := by decide +kernel
theorem dX12_pair_6 : decode cX12_pair 6 = .ok (.invokevirtual 248, 3) := by decide +kernel
theorem dX12_pair_9 : decode cX12_pair 9 = .ok (.istore 6, 2) := by decide +kernel
theorem dX12_pair_11 : decode cX12_pair 11 = .ok (.iload 6, 2) := by decide +kernel
theorem dX12_pair_13 : decode cX12_pair 13 = .ok (.ifCond .eq 6, 3) := by decide +kernel
theorem dX12_pair_16 : decode cX12_pair 16 = .ok (.iload 6, 2) := by decide +kernel
theorem dX12_pair_18 : decode cX12_pair 18 = .ok (.ireturn, 1) := by decide +kernel
theorem dX12_pair_19 : decode cX12_pair 19 = .ok (.aload_n 0, 1) := by decide +kernel
theorem dX12_pair_20 : decode cX12_pair 20 = .ok (.lload_n 3, 1) := by decide +kernel
theorem dX12_pair_21 : decode cX12_pair 21 = .ok (.invokevirtual 214, 3) := by decide +kernel
theorem dX12_pair_24 : decode cX12_pair 24 = .ok (.ifCond .ne 5, 3) := by decide +kernel
theorem dX12_pair_27 : decode cX12_pair 27 = .ok (.iconst 1, 1) := by decide +kernel
theorem dX12_pair_28 : decode cX12_pair 28 = .ok (.ireturn, 1) := by decide +kernel
theorem dX12_pair_29 : decode cX12_pair 29 = .ok (.aload_n 0, 1) := by decide +kernel
theorem dX12_pair_30 : decode cX12_pair 30 = .ok (.invokevirtual 195, 3) := by decide +kernel
theorem dX12_pair_33 : decode cX12_pair 33 = .ok (.aload_n 0, 1) := by decide +kernel
theorem dX12_pair_34 : decode cX12_pair 34 = .ok (.iload_n 1, 1) := by decide +kernel
theorem dX12_pair_35 : decode cX12_pair 35 = .ok (.iconst 2, 1) := by decide +kernel
theorem dX12_pair_36 : decode cX12_pair 36 = .ok (.iadd, 1) := by decide +kernel
theorem dX12_pair_37 : decode cX12_pair 37 = .ok (.iconst 0, 1) := by decide +kernel
theorem dX12_pair_38 : decode cX12_pair 38 = .ok (.iload 5, 2) := by decide +kernel
theorem dX12_pair_40 : decode cX12_pair 40 = .ok (.invokevirtual 248, 3) := by decide +kernel
theorem dX12_pair_43 : decode cX12_pair 43 = .ok (.ireturn, 1) := by decide +kernel
theorem dX12_body_0 : decode cX12_body 0 = .ok (.iload_n 1, 1) := by decide +kernel
theorem dX12_body_1 : decode cX12_body 1 = .ok (.tableswitch 153 2 8 #[43, 60, 77, 100, 110, 126, 142], 43) := by decide +kernel
theorem dX12_body_44 : decode cX12_body 44 = .ok (.aload_n 0, 1) := by decide +kernel
theorem dX12_body_45 : decode cX12_body 45 = .ok (.iload_n 2, 1) := by decide +kernel
theorem dX12_body_46 : decode cX12_body 46 = .ok (.bipush 99, 2) := by decide +kernel
theorem dX12_body_48 : decode cX12_body 48 = .ok (.bipush 111, 2) := by decide +kernel
theorem dX12_body_50 : decode cX12_body 50 = .ok (.bipush 102, 2) := by decide +kernel
theorem dX12_body_52 : decode cX12_body 52 = .ok (.invokestatic 150, 3) := by decide +kernel
theorem dX12_body_55 : decode cX12_body 55 = .ok (.bipush 11, 2) := by decide +kernel
theorem dX12_body_57 : decode cX12_body 57 = .ok (.invokevirtual 252, 3) := by decide +kernel
theorem dX12_body_60 : decode cX12_body 60 = .ok (.ireturn, 1) := by decide +kernel
theorem dX12_body_61 : decode cX12_body 61 = .ok (.aload_n 0, 1) := by decide +kernel
theorem dX12_body_62 : decode cX12_body 62 = .ok (.iload_n 2, 1) := by decide +kernel
theorem dX12_body_63 : decode cX12_body 63 = .ok (.bipush 11, 2) := by decide +kernel
theorem dX12_body_65 : decode cX12_body 65 = .ok (.bipush 111, 2) := by decide +kernel
theorem dX12_body_67 : decode cX12_body 67 = .ok (.bipush 110, 2) := by decide +kernel
theorem dX12_body_69 : decode cX12_body 69 = .ok (.invokestatic 150, 3) := by decide +kernel
theorem dX12_body_72 : decode cX12_body 72 = .ok (.bipush 11, 2) := by decide +kernel
theorem dX12_body_74 : decode cX12_body 74 = .ok (.invokevirtual 252, 3) := by decide +kernel
theorem dX12_body_77 : decode cX12_body 77 = .ok (.ireturn, 1) := by decide +kernel
theorem dX12_body_78 : decode cX12_body 78 = .ok (.aload_n 0, 1) := by decide +kernel
theorem dX12_body_79 : decode cX12_body 79 = .ok (.iload_n 2, 1) := by decide +kernel
theorem dX12_body_80 : decode cX12_body 80 = .ok (.bipush 11, 2) := by decide +kernel
theorem dX12_body_82 : decode cX12_body 82 = .ok (.bipush 112, 2) := by decide +kernel
theorem dX12_body_84 : decode cX12_body 84 = .ok (.bipush 117, 2) := by decide +kernel
theorem dX12_body_86 : decode cX12_body 86 = .ok (.bipush 114, 2) := by decide +kernel
theorem dX12_body_88 : decode cX12_body 88 = .ok (.bipush 115, 2) := by decide +kernel
theorem dX12_body_90 : decode cX12_body 90 = .ok (.bipush 101, 2) := by decide +kernel
theorem dX12_body_92 : decode cX12_body 92 = .ok (.invokestatic 162, 3) := by decide +kernel
theorem dX12_body_95 : decode cX12_body 95 = .ok (.bipush 99, 2) := by decide +kernel
theorem dX12_body_97 : decode cX12_body 97 = .ok (.invokevirtual 252, 3) := by decide +kernel
theorem dX12_body_100 : decode cX12_body 100 = .ok (.ireturn, 1) := by decide +kernel
theorem dX12_body_101 : decode cX12_body 101 = .ok (.aload_n 0, 1) := by decide +kernel
theorem dX12_body_102 : decode cX12_body 102 = .ok (.iload_n 2, 1) := by decide +kernel
theorem dX12_body_103 : decode cX12_body 103 = .ok (.iconst 1, 1) := by decide +kernel
theorem dX12_body_104 : decode cX12_body 104 = .ok (.iadd, 1) := by decide +kernel
theorem dX12_body_105 : decode cX12_body 105 = .ok (.iconst 0, 1) := by decide +kernel
theorem dX12_body_106 : decode cX12_body 106 = .ok (.iconst 4, 1) := by decide +kernel
theorem dX12_body_107 : decode cX12_body 107 = .ok (.invokevirtual 248, 3) := by decide +kernel
theorem dX12_body_110 : decode cX12_body 110 = .ok (.ireturn, 1) := by decide +kernel
theorem dX12_body_111 : decode cX12_body 111 = .ok (.aload_n 0, 1) := by decide +kernel
theorem dX12_body_112 : decode cX12_body 112 = .ok (.iload_n 2, 1) := by decide +kernel
theorem dX12_body_113 : decode cX12_body 113 = .ok (.bipush 11, 2) := by decide +kernel
theorem dX12_body_115 : decode cX12_body 115 = .ok (.bipush 98, 2) := by decide +kernel
theorem dX12_body_117 : decode cX12_body 117 = .ok (.bipush 121, 2) := by decide +kernel
theorem dX12_body_119 : decode cX12_body 119 = .ok (.invokestatic 150, 3) := by decide +kernel
theorem dX12_body_122 : decode cX12_body 122 = .ok (.iconst 4, 1) := by decide +kernel
theorem dX12_body_123 : decode cX12_body 123 = .ok (.invokevirtual 252, 3) := by decide +kernel
theorem dX12_body_126 : decode cX12_body 126 = .ok (.ireturn, 1) := by decide +kernel
theorem dX12_body_127 : decode cX12_body 127 = .ok (.aload_n 0, 1) := by decide +kernel
theorem dX12_body_128 : decode cX12_body 128 = .ok (.iload_n 2, 1) := by decide +kernel
theorem dX12_body_129 : decode cX12_body 129 = .ok (.bipush 11, 2) := by decide +kernel
theorem dX12_body_131 : decode cX12_body 131 = .ok (.bipush 98, 2) := by decide +kernel
theorem dX12_body_133 : decode cX12_body 133 = .ok (.bipush 121, 2) := by decide +kernel
theorem dX12_body_135 : decode cX12_body 135 = .ok (.invokestatic 150, 3) := by decide +kernel
theorem dX12_body_138 : decode cX12_body 138 = .ok (.iconst 4, 1) := by decide +kernel
theorem dX12_body_139 : decode cX12_body 139 = .ok (.invokevirtual 252, 3) := by decide +kernel
theorem dX12_body_142 : decode cX12_body 142 = .ok (.ireturn, 1) := by decide +kernel
theorem dX12_body_143 : decode cX12_body 143 = .ok (.aload_n 0, 1) := by decide +kernel
theorem dX12_body_144 : decode cX12_body 144 = .ok (.iload_n 2, 1) := by decide +kernel
theorem dX12_body_145 : decode cX12_body 145 = .ok (.iconst 1, 1) := by decide +kernel
theorem dX12_body_146 : decode cX12_body 146 = .ok (.iadd, 1) := by decide +kernel
theorem dX12_body_147 : decode cX12_body 147 = .ok (.iconst 1, 1) := by decide +kernel
theorem dX12_body_148 : decode cX12_body 148 = .ok (.bipush 60, 2) := by decide +kernel
theorem dX12_body_150 : decode cX12_body 150 = .ok (.invokevirtual 248, 3) := by decide +kernel
theorem dX12_body_153 : decode cX12_body 153 = .ok (.ireturn, 1) := by decide +kernel
theorem dX12_body_154 : decode cX12_body 154 = .ok (.aload_n 0, 1) := by decide +kernel
theorem dX12_body_155 : decode cX12_body 155 = .ok (.iload_n 2, 1) := by decide +kernel
theorem dX12_body_156 : decode cX12_body 156 = .ok (.invokevirtual 256, 3) := by decide +kernel
theorem dX12_body_159 : decode cX12_body 159 = .ok (.ireturn, 1) := by decide +kernel
theorem dX12_sortOf_0 : decode cX12_sortOf 0 = .ok (.aload_n 0, 1) := by decide +kernel
theorem dX12_sortOf_1 : decode cX12_sortOf 1 = .ok (.bipush 116, 2) := by decide +kernel
theorem dX12_sortOf_3 : decode cX12_sortOf 3 = .ok (.bipush 101, 2) := by decide +kernel
theorem dX12_sortOf_5 : decode cX12_sortOf 5 = .ok (.bipush 108, 2) := by decide +kernel
theorem dX12_sortOf_7 : decode cX12_sortOf 7 = .ok (.bipush 108, 2) := by decide +kernel
theorem dX12_sortOf_9 : decode cX12_sortOf 9 = .ok (.bipush 115, 2) := by decide +kernel
theorem dX12_sortOf_11 : decode cX12_sortOf 11 = .ok (.invokestatic 162, 3) := by decide +kernel
theorem dX12_sortOf_14 : decode cX12_sortOf 14 = .ok (.invokevirtual 214, 3) := by decide +kernel
theorem dX12_sortOf_17 : decode cX12_sortOf 17 = .ok (.ifCond .eq 5, 3) := by decide +kernel
theorem dX12_sortOf_20 : decode cX12_sortOf 20 = .ok (.iconst 0, 1) := by decide +kernel
theorem dX12_sortOf_21 : decode cX12_sortOf 21 = .ok (.ireturn, 1) := by decide +kernel
theorem dX12_sortOf_22 : decode cX12_sortOf 22 = .ok (.aload_n 0, 1) := by decide +kernel
theorem dX12_sortOf_23 : decode cX12_sortOf 23 = .ok (.bipush 110, 2) := by decide +kernel
theorem dX12_sortOf_25 : decode cX12_sortOf 25 = .ok (.bipush 101, 2) := by decide +kernel
theorem dX12_sortOf_27 : decode cX12_sortOf 27 = .ok (.bipush 101, 2) := by decide +kernel
theorem dX12_sortOf_29 : decode cX12_sortOf 29 = .ok (.bipush 100, 2) := by decide +kernel
theorem dX12_sortOf_31 : decode cX12_sortOf 31 = .ok (.bipush 115, 2) := by decide +kernel
theorem dX12_sortOf_33 : decode cX12_sortOf 33 = .ok (.invokestatic 162, 3) := by decide +kernel
theorem dX12_sortOf_36 : decode cX12_sortOf 36 = .ok (.invokevirtual 214, 3) := by decide +kernel
theorem dX12_sortOf_39 : decode cX12_sortOf 39 = .ok (.ifCond .eq 5, 3) := by decide +kernel
theorem dX12_sortOf_42 : decode cX12_sortOf 42 = .ok (.iconst 1, 1) := by decide +kernel
theorem dX12_sortOf_43 : decode cX12_sortOf 43 = .ok (.ireturn, 1) := by decide +kernel
theorem dX12_sortOf_44 : decode cX12_sortOf 44 = .ok (.aload_n 0, 1) := by decide +kernel
theorem dX12_sortOf_45 : decode cX12_sortOf 45 = .ok (.bipush 112, 2) := by decide +kernel
theorem dX12_sortOf_47 : decode cX12_sortOf 47 = .ok (.bipush 97, 2) := by decide +kernel
theorem dX12_sortOf_49 : decode cX12_sortOf 49 = .ok (.bipush 105, 2) := by decide +kernel
theorem dX12_sortOf_51 : decode cX12_sortOf 51 = .ok (.bipush 110, 2) := by decide +kernel
theorem dX12_sortOf_53 : decode cX12_sortOf 53 = .ok (.invokestatic 158, 3) := by decide +kernel
theorem dX12_sortOf_56 : decode cX12_sortOf 56 = .ok (.invokevirtual 214, 3) := by decide +kernel
theorem dX12_sortOf_59 : decode cX12_sortOf 59 = .ok (.ifCond .eq 5, 3) := by decide +kernel
theorem dX12_sortOf_62 : decode cX12_sortOf 62 = .ok (.iconst 2, 1) := by decide +kernel
theorem dX12_sortOf_63 : decode cX12_sortOf 63 = .ok (.ireturn, 1) := by decide +kernel
theorem dX12_sortOf_64 : decode cX12_sortOf 64 = .ok (.aload_n 0, 1) := by decide +kernel
theorem dX12_sortOf_65 : decode cX12_sortOf 65 = .ok (.bipush 104, 2) := by decide +kernel
theorem dX12_sortOf_67 : decode cX12_sortOf 67 = .ok (.bipush 97, 2) := by decide +kernel
theorem dX12_sortOf_69 : decode cX12_sortOf 69 = .ok (.bipush 110, 2) := by decide +kernel
theorem dX12_sortOf_71 : decode cX12_sortOf 71 = .ok (.bipush 103, 2) := by decide +kernel
theorem dX12_sortOf_73 : decode cX12_sortOf 73 = .ok (.invokestatic 158, 3) := by decide +kernel
theorem dX12_sortOf_76 : decode cX12_sortOf 76 = .ok (.invokevirtual 214, 3) := by decide +kernel
theorem dX12_sortOf_79 : decode cX12_sortOf 79 = .ok (.ifCond .eq 5, 3) := by decide +kernel
theorem dX12_sortOf_82 : decode cX12_sortOf 82 = .ok (.iconst 3, 1) := by decide +kernel
theorem dX12_sortOf_83 : decode cX12_sortOf 83 = .ok (.ireturn, 1) := by decide +kernel
theorem dX12_sortOf_84 : decode cX12_sortOf 84 = .ok (.aload_n 0, 1) := by decide +kernel
theorem dX12_sortOf_85 : decode cX12_sortOf 85 = .ok (.bipush 112, 2) := by decide +kernel
theorem dX12_sortOf_87 : decode cX12_sortOf 87 = .ok (.bipush 101, 2) := by decide +kernel
theorem dX12_sortOf_89 : decode cX12_sortOf 89 = .ok (.bipush 114, 2) := by decide +kernel
theorem dX12_sortOf_91 : decode cX12_sortOf 91 = .ok (.bipush 115, 2) := by decide +kernel
theorem dX12_sortOf_93 : decode cX12_sortOf 93 = .ok (.bipush 111, 2) := by decide +kernel
theorem dX12_sortOf_95 : decode cX12_sortOf 95 = .ok (.bipush 110, 2) := by decide +kernel
theorem dX12_sortOf_97 : decode cX12_sortOf 97 = .ok (.invokestatic 210, 3) := by decide +kernel
theorem dX12_sortOf_100 : decode cX12_sortOf 100 = .ok (.invokevirtual 214, 3) := by decide +kernel
theorem dX12_sortOf_103 : decode cX12_sortOf 103 = .ok (.ifCond .eq 5, 3) := by decide +kernel
theorem dX12_sortOf_106 : decode cX12_sortOf 106 = .ok (.iconst 4, 1) := by decide +kernel
theorem dX12_sortOf_107 : decode cX12_sortOf 107 = .ok (.ireturn, 1) := by decide +kernel
theorem dX12_sortOf_108 : decode cX12_sortOf 108 = .ok (.aload_n 0, 1) := by decide +kernel
theorem dX12_sortOf_109 : decode cX12_sortOf 109 = .ok (.bipush 97, 2) := by decide +kernel
theorem dX12_sortOf_111 : decode cX12_sortOf 111 = .ok (.bipush 115, 2) := by decide +kernel
theorem dX12_sortOf_113 : decode cX12_sortOf 113 = .ok (.bipush 107, 2) := by decide +kernel
theorem dX12_sortOf_115 : decode cX12_sortOf 115 = .ok (.invokestatic 154, 3) := by decide +kernel
theorem dX12_sortOf_118 : decode cX12_sortOf 118 = .ok (.invokevirtual 214, 3) := by decide +kernel
theorem dX12_sortOf_121 : decode cX12_sortOf 121 = .ok (.ifCond .eq 5, 3) := by decide +kernel
theorem dX12_sortOf_124 : decode cX12_sortOf 124 = .ok (.iconst 5, 1) := by decide +kernel
theorem dX12_sortOf_125 : decode cX12_sortOf 125 = .ok (.ireturn, 1) := by decide +kernel
theorem dX12_sortOf_126 : decode cX12_sortOf 126 = .ok (.aload_n 0, 1) := by decide +kernel
theorem dX12_sortOf_127 : decode cX12_sortOf 127 = .ok (.bipush 103, 2) := by decide +kernel
theorem dX12_sortOf_129 : decode cX12_sortOf 129 = .ok (.bipush 105, 2) := by decide +kernel
theorem dX12_sortOf_131 : decode cX12_sortOf 131 = .ok (.bipush 118, 2) := by decide +kernel
theorem dX12_sortOf_133 : decode cX12_sortOf 133 = .ok (.bipush 101, 2) := by decide +kernel
theorem dX12_sortOf_135 : decode cX12_sortOf 135 = .ok (.invokestatic 158, 3) := by decide +kernel
theorem dX12_sortOf_138 : decode cX12_sortOf 138 = .ok (.invokevirtual 214, 3) := by decide +kernel
theorem dX12_sortOf_141 : decode cX12_sortOf 141 = .ok (.ifCond .eq 6, 3) := by decide +kernel
theorem dX12_sortOf_144 : decode cX12_sortOf 144 = .ok (.bipush 6, 2) := by decide +kernel
theorem dX12_sortOf_146 : decode cX12_sortOf 146 = .ok (.ireturn, 1) := by decide +kernel
theorem dX12_sortOf_147 : decode cX12_sortOf 147 = .ok (.aload_n 0, 1) := by decide +kernel
theorem dX12_sortOf_148 : decode cX12_sortOf 148 = .ok (.bipush 97, 2) := by decide +kernel
theorem dX12_sortOf_150 : decode cX12_sortOf 150 = .ok (.bipush 103, 2) := by decide +kernel
theorem dX12_sortOf_152 : decode cX12_sortOf 152 = .ok (.bipush 97, 2) := by decide +kernel
theorem dX12_sortOf_154 : decode cX12_sortOf 154 = .ok (.bipush 105, 2) := by decide +kernel
theorem dX12_sortOf_156 : decode cX12_sortOf 156 = .ok (.bipush 110, 2) := by decide +kernel
theorem dX12_sortOf_158 : decode cX12_sortOf 158 = .ok (.invokestatic 162, 3) := by decide +kernel
theorem dX12_sortOf_161 : decode cX12_sortOf 161 = .ok (.invokevirtual 214, 3) := by decide +kernel
theorem dX12_sortOf_164 : decode cX12_sortOf 164 = .ok (.ifCond .eq 8, 3) := by decide +kernel
theorem dX12_sortOf_167 : decode cX12_sortOf 167 = .ok (.bipush 7, 2) := by decide +kernel
theorem dX12_sortOf_169 : decode cX12_sortOf 169 = .ok (.goto 25, 3) := by decide +kernel
theorem dX12_sortOf_172 : decode cX12_sortOf 172 = .ok (.aload_n 0, 1) := by decide +kernel
theorem dX12_sortOf_173 : decode cX12_sortOf 173 = .ok (.bipush 100, 2) := by decide +kernel
theorem dX12_sortOf_175 : decode cX12_sortOf 175 = .ok (.bipush 97, 2) := by decide +kernel
theorem dX12_sortOf_177 : decode cX12_sortOf 177 = .ok (.bipush 121, 2) := by decide +kernel
theorem dX12_sortOf_179 : decode cX12_sortOf 179 = .ok (.invokestatic 154, 3) := by decide +kernel
theorem dX12_sortOf_182 : decode cX12_sortOf 182 = .ok (.invokevirtual 214, 3) := by decide +kernel
theorem dX12_sortOf_185 : decode cX12_sortOf 185 = .ok (.ifCond .eq 8, 3) := by decide +kernel
theorem dX12_sortOf_188 : decode cX12_sortOf 188 = .ok (.bipush 8, 2) := by decide +kernel
theorem dX12_sortOf_190 : decode cX12_sortOf 190 = .ok (.goto 4, 3) := by decide +kernel
theorem dX12_sortOf_193 : decode cX12_sortOf 193 = .ok (.iconst (-1), 1) := by decide +kernel
theorem dX12_sortOf_194 : decode cX12_sortOf 194 = .ok (.ireturn, 1) := by decide +kernel
theorem dX12_clause_0 : decode cX12_clause 0 = .ok (.aload_n 0, 1) := by decide +kernel
theorem dX12_clause_1 : decode cX12_clause 1 = .ok (.invokevirtual 259, 3) := by decide +kernel
theorem dX12_clause_4 : decode cX12_clause 4 = .ok (.istore_n 1, 1) := by decide +kernel
theorem dX12_clause_5 : decode cX12_clause 5 = .ok (.iload_n 1, 1) := by decide +kernel
theorem dX12_clause_6 : decode cX12_clause 6 = .ok (.ifCond .ge 5, 3) := by decide +kernel
theorem dX12_clause_9 : decode cX12_clause 9 = .ok (.iconst 1, 1) := by decide +kernel
theorem dX12_clause_10 : decode cX12_clause 10 = .ok (.ireturn, 1) := by decide +kernel
theorem dX12_clause_11 : decode cX12_clause 11 = .ok (.iload_n 1, 1) := by decide +kernel
theorem dX12_clause_12 : decode cX12_clause 12 = .ok (.iconst 1, 1) := by decide +kernel
theorem dX12_clause_13 : decode cX12_clause 13 = .ok (.if_icmp .gt 16, 3) := by decide +kernel
theorem dX12_clause_16 : decode cX12_clause 16 = .ok (.aload_n 0, 1) := by decide +kernel
theorem dX12_clause_17 : decode cX12_clause 17 = .ok (.getfield 262, 3) := by decide +kernel
theorem dX12_clause_20 : decode cX12_clause 20 = .ok (.iload_n 1, 1) := by decide +kernel
theorem dX12_clause_21 : decode cX12_clause 21 = .ok (.invokestatic 96, 3) := by decide +kernel
theorem dX12_clause_24 : decode cX12_clause 24 = .ok (.ifCond .eq 5, 3) := by decide +kernel
theorem dX12_clause_27 : decode cX12_clause 27 = .ok (.iconst 4, 1) := by decide +kernel
theorem dX12_clause_28 : decode cX12_clause 28 = .ok (.ireturn, 1) := by decide +kernel
theorem dX12_clause_29 : decode cX12_clause 29 = .ok (.aload_n 0, 1) := by decide +kernel
theorem dX12_clause_30 : decode cX12_clause 30 = .ok (.getfield 16, 3) := by decide +kernel
theorem dX12_clause_33 : decode cX12_clause 33 = .ok (.aload_n 0, 1) := by decide +kernel
theorem dX12_clause_34 : decode cX12_clause 34 = .ok (.getfield 166, 3) := by decide +kernel
theorem dX12_clause_37 : decode cX12_clause 37 = .ok (.iaload, 1) := by decide +kernel
theorem dX12_clause_38 : decode cX12_clause 38 = .ok (.istore_n 2, 1) := by decide +kernel
theorem dX12_clause_39 : decode cX12_clause 39 = .ok (.iload_n 2, 1) := by decide +kernel
theorem dX12_clause_40 : decode cX12_clause 40 = .ok (.bipush 24, 2) := by decide +kernel
theorem dX12_clause_42 : decode cX12_clause 42 = .ok (.if_icmp .ne 6, 3) := by decide +kernel
theorem dX12_clause_45 : decode cX12_clause 45 = .ok (.bipush 6, 2) := by decide +kernel
theorem dX12_clause_47 : decode cX12_clause 47 = .ok (.ireturn, 1) := by decide +kernel
theorem dX12_clause_48 : decode cX12_clause 48 = .ok (.iload_n 1, 1) := by decide +kernel
theorem dX12_clause_49 : decode cX12_clause 49 = .ok (.iconst 1, 1) := by decide +kernel
theorem dX12_clause_50 : decode cX12_clause 50 = .ok (.if_icmp .gt 15, 3) := by decide +kernel
theorem dX12_clause_53 : decode cX12_clause 53 = .ok (.aload_n 0, 1) := by decide +kernel
theorem dX12_clause_54 : decode cX12_clause 54 = .ok (.dup, 1) := by decide +kernel
theorem dX12_clause_55 : decode cX12_clause 55 = .ok (.getfield 262, 3) := by decide +kernel
theorem dX12_clause_58 : decode cX12_clause 58 = .ok (.iconst 1, 1) := by decide +kernel
theorem dX12_clause_59 : decode cX12_clause 59 = .ok (.iload_n 1, 1) := by decide +kernel
theorem dX12_clause_60 : decode cX12_clause 60 = .ok (.ishl, 1) := by decide +kernel
theorem dX12_clause_61 : decode cX12_clause 61 = .ok (.ior, 1) := by decide +kernel
theorem dX12_clause_62 : decode cX12_clause 62 = .ok (.putfield 262, 3) := by decide +kernel
theorem dX12_clause_65 : decode cX12_clause 65 = .ok (.aload_n 0, 1) := by decide +kernel
theorem dX12_clause_66 : decode cX12_clause 66 = .ok (.iload_n 1, 1) := by decide +kernel
theorem dX12_clause_67 : decode cX12_clause 67 = .ok (.putfield 201, 3) := by decide +kernel
theorem dX12_clause_70 : decode cX12_clause 70 = .ok (.aload_n 0, 1) := by decide +kernel
theorem dX12_clause_71 : decode cX12_clause 71 = .ok (.invokevirtual 195, 3) := by decide +kernel
theorem dX12_clause_74 : decode cX12_clause 74 = .ok (.aload_n 0, 1) := by decide +kernel
theorem dX12_clause_75 : decode cX12_clause 75 = .ok (.getfield 166, 3) := by decide +kernel
theorem dX12_clause_78 : decode cX12_clause 78 = .ok (.iconst 1, 1) := by decide +kernel
theorem dX12_clause_79 : decode cX12_clause 79 = .ok (.iadd, 1) := by decide +kernel
theorem dX12_clause_80 : decode cX12_clause 80 = .ok (.iconst 3, 1) := by decide +kernel
theorem dX12_clause_81 : decode cX12_clause 81 = .ok (.iload_n 2, 1) := by decide +kernel
theorem dX12_clause_82 : decode cX12_clause 82 = .ok (.imul, 1) := by decide +kernel
theorem dX12_clause_83 : decode cX12_clause 83 = .ok (.iadd, 1) := by decide +kernel
theorem dX12_clause_84 : decode cX12_clause 84 = .ok (.istore_n 3, 1) := by decide +kernel
theorem dX12_clause_85 : decode cX12_clause 85 = .ok (.aload_n 0, 1) := by decide +kernel
theorem dX12_clause_86 : decode cX12_clause 86 = .ok (.getfield 16, 3) := by decide +kernel
theorem dX12_clause_89 : decode cX12_clause 89 = .ok (.iload_n 3, 1) := by decide +kernel
theorem dX12_clause_90 : decode cX12_clause 90 = .ok (.iload_n 1, 1) := by decide +kernel
theorem dX12_clause_91 : decode cX12_clause 91 = .ok (.iastore, 1) := by decide +kernel
theorem dX12_clause_92 : decode cX12_clause 92 = .ok (.aload_n 0, 1) := by decide +kernel
theorem dX12_clause_93 : decode cX12_clause 93 = .ok (.iload_n 1, 1) := by decide +kernel
theorem dX12_clause_94 : decode cX12_clause 94 = .ok (.iload_n 3, 1) := by decide +kernel
theorem dX12_clause_95 : decode cX12_clause 95 = .ok (.invokevirtual 265, 3) := by decide +kernel
theorem dX12_clause_98 : decode cX12_clause 98 = .ok (.istore 4, 2) := by decide +kernel
theorem dX12_clause_100 : decode cX12_clause 100 = .ok (.iload 4, 2) := by decide +kernel
theorem dX12_clause_102 : decode cX12_clause 102 = .ok (.ifCond .eq 6, 3) := by decide +kernel
theorem dX12_clause_105 : decode cX12_clause 105 = .ok (.iload 4, 2) := by decide +kernel
theorem dX12_clause_107 : decode cX12_clause 107 = .ok (.ireturn, 1) := by decide +kernel
theorem dX12_clause_108 : decode cX12_clause 108 = .ok (.aload_n 0, 1) := by decide +kernel
theorem dX12_clause_109 : decode cX12_clause 109 = .ok (.getfield 16, 3) := by decide +kernel
theorem dX12_clause_112 : decode cX12_clause 112 = .ok (.aload_n 0, 1) := by decide +kernel
theorem dX12_clause_113 : decode cX12_clause 113 = .ok (.getfield 166, 3) := by decide +kernel
theorem dX12_clause_116 : decode cX12_clause 116 = .ok (.dup2, 1) := by decide +kernel
theorem dX12_clause_117 : decode cX12_clause 117 = .ok (.iaload, 1) := by decide +kernel
theorem dX12_clause_118 : decode cX12_clause 118 = .ok (.iconst 1, 1) := by decide +kernel
theorem dX12_clause_119 : decode cX12_clause 119 = .ok (.iadd, 1) := by decide +kernel
theorem dX12_clause_120 : decode cX12_clause 120 = .ok (.iastore, 1) := by decide +kernel
theorem dX12_clause_121 : decode cX12_clause 121 = .ok (.aload_n 0, 1) := by decide +kernel
theorem dX12_clause_122 : decode cX12_clause 122 = .ok (.getfield 128, 3) := by decide +kernel
theorem dX12_clause_125 : decode cX12_clause 125 = .ok (.bipush 59, 2) := by decide +kernel
theorem dX12_clause_127 : decode cX12_clause 127 = .ok (.if_icmp .eq 5, 3) := by decide +kernel
theorem dX12_clause_130 : decode cX12_clause 130 = .ok (.iconst 1, 1) := by decide +kernel
theorem dX12_clause_131 : decode cX12_clause 131 = .ok (.ireturn, 1) := by decide +kernel
theorem dX12_clause_132 : decode cX12_clause 132 = .ok (.aload_n 0, 1) := by decide +kernel
theorem dX12_clause_133 : decode cX12_clause 133 = .ok (.invokevirtual 195, 3) := by decide +kernel
theorem dX12_clause_136 : decode cX12_clause 136 = .ok (.iconst 0, 1) := by decide +kernel
theorem dX12_clause_137 : decode cX12_clause 137 = .ok (.ireturn, 1) := by decide +kernel
theorem dX12_readText_0 : decode cX12_readText 0 = .ok (.aload_n 0, 1) := by decide +kernel
theorem dX12_readText_1 : decode cX12_readText 1 = .ok (.sipush 681, 3) := by decide +kernel
theorem dX12_readText_4 : decode cX12_readText 4 = .ok (.aload_n 0, 1) := by decide +kernel
theorem dX12_readText_5 : decode cX12_readText 5 = .ok (.getfield 7, 3) := by decide +kernel
theorem dX12_readText_8 : decode cX12_readText 8 = .ok (.iconst 1, 1) := by decide +kernel
theorem dX12_readText_9 : decode cX12_readText 9 = .ok (.iaload, 1) := by decide +kernel
theorem dX12_readText_10 : decode cX12_readText 10 = .ok (.imul, 1) := by decide +kernel
theorem dX12_readText_11 : decode cX12_readText 11 = .ok (.putfield 166, 3) := by decide +kernel
theorem dX12_readText_14 : decode cX12_readText 14 = .ok (.aload_n 0, 1) := by decide +kernel
theorem dX12_readText_15 : decode cX12_readText 15 = .ok (.getfield 16, 3) := by decide +kernel
theorem dX12_readText_18 : decode cX12_readText 18 = .ok (.aload_n 0, 1) := by decide +kernel
theorem dX12_readText_19 : decode cX12_readText 19 = .ok (.getfield 166, 3) := by decide +kernel
theorem dX12_readText_22 : decode cX12_readText 22 = .ok (.iconst 0, 1) := by decide +kernel
theorem dX12_readText_23 : decode cX12_readText 23 = .ok (.iastore, 1) := by decide +kernel
theorem dX12_readText_24 : decode cX12_readText 24 = .ok (.aload_n 0, 1) := by decide +kernel
theorem dX12_readText_25 : decode cX12_readText 25 = .ok (.iconst 0, 1) := by decide +kernel
theorem dX12_readText_26 : decode cX12_readText 26 = .ok (.putfield 169, 3) := by decide +kernel
theorem dX12_readText_29 : decode cX12_readText 29 = .ok (.aload_n 0, 1) := by decide +kernel
theorem dX12_readText_30 : decode cX12_readText 30 = .ok (.iconst 0, 1) := by decide +kernel
theorem dX12_readText_31 : decode cX12_readText 31 = .ok (.putfield 262, 3) := by decide +kernel
theorem dX12_readText_34 : decode cX12_readText 34 = .ok (.aload_n 0, 1) := by decide +kernel
theorem dX12_readText_35 : decode cX12_readText 35 = .ok (.iconst 0, 1) := by decide +kernel
theorem dX12_readText_36 : decode cX12_readText 36 = .ok (.putfield 118, 3) := by decide +kernel
theorem dX12_readText_39 : decode cX12_readText 39 = .ok (.aload_n 0, 1) := by decide +kernel
theorem dX12_readText_40 : decode cX12_readText 40 = .ok (.invokevirtual 195, 3) := by decide +kernel
theorem dX12_readText_43 : decode cX12_readText 43 = .ok (.aload_n 0, 1) := by decide +kernel
theorem dX12_readText_44 : decode cX12_readText 44 = .ok (.getfield 128, 3) := by decide +kernel
theorem dX12_readText_47 : decode cX12_readText 47 = .ok (.ifCond .eq 17, 3) := by decide +kernel
theorem dX12_readText_50 : decode cX12_readText 50 = .ok (.aload_n 0, 1) := by decide +kernel
theorem dX12_readText_51 : decode cX12_readText 51 = .ok (.invokevirtual 268, 3) := by decide +kernel
theorem dX12_readText_54 : decode cX12_readText 54 = .ok (.istore_n 1, 1) := by decide +kernel
theorem dX12_readText_55 : decode cX12_readText 55 = .ok (.iload_n 1, 1) := by decide +kernel
theorem dX12_readText_56 : decode cX12_readText 56 = .ok (.ifCond .eq 5, 3) := by decide +kernel
theorem dX12_readText_59 : decode cX12_readText 59 = .ok (.iload_n 1, 1) := by decide +kernel
theorem dX12_readText_60 : decode cX12_readText 60 = .ok (.ireturn, 1) := by decide +kernel
theorem dX12_readText_61 : decode cX12_readText 61 = .ok (.goto (-18), 3) := by decide +kernel
theorem dX12_readText_64 : decode cX12_readText 64 = .ok (.iconst 0, 1) := by decide +kernel
theorem dX12_readText_65 : decode cX12_readText 65 = .ok (.ireturn, 1) := by decide +kernel
theorem dX12_text_0 : decode cX12_text 0 = .ok (.aload_n 0, 1) := by decide +kernel
theorem dX12_text_1 : decode cX12_text 1 = .ok (.getfield 7, 3) := by decide +kernel
theorem dX12_text_4 : decode cX12_text 4 = .ok (.iconst 1, 1) := by decide +kernel
theorem dX12_text_5 : decode cX12_text 5 = .ok (.iaload, 1) := by decide +kernel
theorem dX12_text_6 : decode cX12_text 6 = .ok (.iconst 4, 1) := by decide +kernel
theorem dX12_text_7 : decode cX12_text 7 = .ok (.if_icmp .ne 5, 3) := by decide +kernel
theorem dX12_text_10 : decode cX12_text 10 = .ok (.iconst (-1), 1) := by decide +kernel
theorem dX12_text_11 : decode cX12_text 11 = .ok (.ireturn, 1) := by decide +kernel
theorem dX12_text_12 : decode cX12_text 12 = .ok (.aload_n 0, 1) := by decide +kernel
theorem dX12_text_13 : decode cX12_text 13 = .ok (.aload_n 0, 1) := by decide +kernel
theorem dX12_text_14 : decode cX12_text 14 = .ok (.invokevirtual 271, 3) := by decide +kernel
theorem dX12_text_17 : decode cX12_text 17 = .ok (.putfield 28, 3) := by decide +kernel
theorem dX12_text_20 : decode cX12_text 20 = .ok (.aload_n 0, 1) := by decide +kernel
theorem dX12_text_21 : decode cX12_text 21 = .ok (.aload_n 0, 1) := by decide +kernel
theorem dX12_text_22 : decode cX12_text 22 = .ok (.getfield 28, 3) := by decide +kernel
theorem dX12_text_25 : decode cX12_text 25 = .ok (.ifCond .ne 7, 3) := by decide +kernel
theorem dX12_text_28 : decode cX12_text 28 = .ok (.iconst (-1), 1) := by decide +kernel
theorem dX12_text_29 : decode cX12_text 29 = .ok (.goto 7, 3) := by decide +kernel
theorem dX12_text_32 : decode cX12_text 32 = .ok (.aload_n 0, 1) := by decide +kernel
theorem dX12_text_33 : decode cX12_text 33 = .ok (.getfield 125, 3) := by decide +kernel
theorem dX12_text_36 : decode cX12_text 36 = .ok (.putfield 32, 3) := by decide +kernel
theorem dX12_text_39 : decode cX12_text 39 = .ok (.aload_n 0, 1) := by decide +kernel
theorem dX12_text_40 : decode cX12_text 40 = .ok (.iconst 0, 1) := by decide +kernel
theorem dX12_text_41 : decode cX12_text 41 = .ok (.putfield 111, 3) := by decide +kernel
theorem dX12_text_44 : decode cX12_text 44 = .ok (.aload_n 0, 1) := by decide +kernel
theorem dX12_text_45 : decode cX12_text 45 = .ok (.getfield 28, 3) := by decide +kernel
theorem dX12_text_48 : decode cX12_text 48 = .ok (.ifCond .eq 5, 3) := by decide +kernel
theorem dX12_text_51 : decode cX12_text 51 = .ok (.iconst (-1), 1) := by decide +kernel
theorem dX12_text_52 : decode cX12_text 52 = .ok (.ireturn, 1) := by decide +kernel
theorem dX12_text_53 : decode cX12_text 53 = .ok (.aload_n 0, 1) := by decide +kernel
theorem dX12_text_54 : decode cX12_text 54 = .ok (.getfield 7, 3) := by decide +kernel
theorem dX12_text_57 : decode cX12_text 57 = .ok (.iconst 1, 1) := by decide +kernel
theorem dX12_text_58 : decode cX12_text 58 = .ok (.dup2, 1) := by decide +kernel
theorem dX12_text_59 : decode cX12_text 59 = .ok (.iaload, 1) := by decide +kernel
theorem dX12_text_60 : decode cX12_text 60 = .ok (.iconst 1, 1) := by decide +kernel
theorem dX12_text_61 : decode cX12_text 61 = .ok (.iadd, 1) := by decide +kernel
theorem dX12_text_62 : decode cX12_text 62 = .ok (.iastore, 1) := by decide +kernel
theorem dX12_text_63 : decode cX12_text 63 = .ok (.aload_n 0, 1) := by decide +kernel
theorem dX12_text_64 : decode cX12_text 64 = .ok (.getfield 7, 3) := by decide +kernel
theorem dX12_text_67 : decode cX12_text 67 = .ok (.iconst 1, 1) := by decide +kernel
theorem dX12_text_68 : decode cX12_text 68 = .ok (.iaload, 1) := by decide +kernel
theorem dX12_text_69 : decode cX12_text 69 = .ok (.iconst 1, 1) := by decide +kernel
theorem dX12_text_70 : decode cX12_text 70 = .ok (.isub, 1) := by decide +kernel
theorem dX12_text_71 : decode cX12_text 71 = .ok (.ireturn, 1) := by decide +kernel
theorem dX12_fault_0 : decode cX12_fault 0 = .ok (.iload_n 1, 1) := by decide +kernel
theorem dX12_fault_1 : decode cX12_fault 1 = .ok (.ifCond .ne 10, 3) := by decide +kernel
theorem dX12_fault_4 : decode cX12_fault 4 = .ok (.aload_n 0, 1) := by decide +kernel
theorem dX12_fault_5 : decode cX12_fault 5 = .ok (.getfield 28, 3) := by decide +kernel
theorem dX12_fault_8 : decode cX12_fault 8 = .ok (.goto 16, 3) := by decide +kernel
theorem dX12_fault_11 : decode cX12_fault 11 = .ok (.iload_n 1, 1) := by decide +kernel
theorem dX12_fault_12 : decode cX12_fault 12 = .ok (.iconst 1, 1) := by decide +kernel
theorem dX12_fault_13 : decode cX12_fault 13 = .ok (.if_icmp .ne 10, 3) := by decide +kernel
theorem dX12_fault_16 : decode cX12_fault 16 = .ok (.aload_n 0, 1) := by decide +kernel
theorem dX12_fault_17 : decode cX12_fault 17 = .ok (.getfield 32, 3) := by decide +kernel
theorem dX12_fault_20 : decode cX12_fault 20 = .ok (.goto 4, 3) := by decide +kernel
theorem dX12_fault_23 : decode cX12_fault 23 = .ok (.iconst (-1), 1) := by decide +kernel
theorem dX12_fault_24 : decode cX12_fault 24 = .ok (.ireturn, 1) := by decide +kernel
theorem dX12_by_0 : decode cX12_by 0 = .ok (.iload_n 1, 1) := by decide +kernel
theorem dX12_by_1 : decode cX12_by 1 = .ok (.iconst (-1), 1) := by decide +kernel
theorem dX12_by_2 : decode cX12_by 2 = .ok (.aload_n 0, 1) := by decide +kernel
theorem dX12_by_3 : decode cX12_by 3 = .ok (.getfield 7, 3) := by decide +kernel
theorem dX12_by_6 : decode cX12_by 6 = .ok (.iconst 1, 1) := by decide +kernel
theorem dX12_by_7 : decode cX12_by 7 = .ok (.iaload, 1) := by decide +kernel
theorem dX12_by_8 : decode cX12_by 8 = .ok (.iconst 1, 1) := by decide +kernel
theorem dX12_by_9 : decode cX12_by 9 = .ok (.isub, 1) := by decide +kernel
theorem dX12_by_10 : decode cX12_by 10 = .ok (.invokestatic 84, 3) := by decide +kernel
theorem dX12_by_13 : decode cX12_by 13 = .ok (.ifCond .ne 5, 3) := by decide +kernel
theorem dX12_by_16 : decode cX12_by 16 = .ok (.iconst 0, 1) := by decide +kernel
theorem dX12_by_17 : decode cX12_by 17 = .ok (.ireturn, 1) := by decide +kernel
theorem dX12_by_18 : decode cX12_by 18 = .ok (.aload_n 0, 1) := by decide +kernel
theorem dX12_by_19 : decode cX12_by 19 = .ok (.getfield 7, 3) := by decide +kernel
theorem dX12_by_22 : decode cX12_by 22 = .ok (.iconst 2, 1) := by decide +kernel
theorem dX12_by_23 : decode cX12_by 23 = .ok (.iload_n 1, 1) := by decide +kernel
theorem dX12_by_24 : decode cX12_by 24 = .ok (.iastore, 1) := by decide +kernel
theorem dX12_by_25 : decode cX12_by 25 = .ok (.iconst 1, 1) := by decide +kernel
theorem dX12_by_26 : decode cX12_by 26 = .ok (.ireturn, 1) := by decide +kernel
theorem dX12_clip_0 : decode cX12_clip 0 = .ok (.lload_n 0, 1) := by decide +kernel
theorem dX12_clip_1 : decode cX12_clip 1 = .ok (.ldc2_w 274, 3) := by decide +kernel
theorem dX12_clip_4 : decode cX12_clip 4 = .ok (.lcmp, 1) := by decide +kernel
theorem dX12_clip_5 : decode cX12_clip 5 = .ok (.ifCond .le 9, 3) := by decide +kernel
theorem dX12_clip_8 : decode cX12_clip 8 = .ok (.ldc2_w 274, 3) := by decide +kernel
theorem dX12_clip_11 : decode cX12_clip 11 = .ok (.goto 18, 3) := by decide +kernel
theorem dX12_clip_14 : decode cX12_clip 14 = .ok (.lload_n 0, 1) := by decide +kernel
theorem dX12_clip_15 : decode cX12_clip 15 = .ok (.ldc2_w 276, 3) := by decide +kernel
theorem dX12_clip_18 : decode cX12_clip 18 = .ok (.lcmp, 1) := by decide +kernel
theorem dX12_clip_19 : decode cX12_clip 19 = .ok (.ifCond .ge 9, 3) := by decide +kernel
theorem dX12_clip_22 : decode cX12_clip 22 = .ok (.ldc2_w 276, 3) := by decide +kernel
theorem dX12_clip_25 : decode cX12_clip 25 = .ok (.goto 4, 3) := by decide +kernel
theorem dX12_clip_28 : decode cX12_clip 28 = .ok (.lload_n 0, 1) := by decide +kernel
theorem dX12_clip_29 : decode cX12_clip 29 = .ok (.lreturn, 1) := by decide +kernel
theorem dX12_two_0 : decode cX12_two 0 = .ok (.iload_n 0, 1) := by decide +kernel
theorem dX12_two_1 : decode cX12_two 1 = .ok (.tableswitch 48 6 8 #[27, 34, 41], 27) := by decide +kernel
theorem dX12_two_28 : decode cX12_two 28 = .ok (.lload_n 1, 1) := by decide +kernel
theorem dX12_two_29 : decode cX12_two 29 = .ok (.lload_n 3, 1) := by decide +kernel
theorem dX12_two_30 : decode cX12_two 30 = .ok (.ladd, 1) := by decide +kernel
theorem dX12_two_31 : decode cX12_two 31 = .ok (.invokestatic 278, 3) := by decide +kernel
theorem dX12_two_34 : decode cX12_two 34 = .ok (.lreturn, 1) := by decide +kernel
theorem dX12_two_35 : decode cX12_two 35 = .ok (.lload_n 1, 1) := by decide +kernel
theorem dX12_two_36 : decode cX12_two 36 = .ok (.lload_n 3, 1) := by decide +kernel
theorem dX12_two_37 : decode cX12_two 37 = .ok (.lsub, 1) := by decide +kernel
theorem dX12_two_38 : decode cX12_two 38 = .ok (.invokestatic 278, 3) := by decide +kernel
theorem dX12_two_41 : decode cX12_two 41 = .ok (.lreturn, 1) := by decide +kernel
theorem dX12_two_42 : decode cX12_two 42 = .ok (.lload_n 1, 1) := by decide +kernel
theorem dX12_two_43 : decode cX12_two 43 = .ok (.lload_n 3, 1) := by decide +kernel
theorem dX12_two_44 : decode cX12_two 44 = .ok (.lmul, 1) := by decide +kernel
theorem dX12_two_45 : decode cX12_two 45 = .ok (.invokestatic 278, 3) := by decide +kernel
theorem dX12_two_48 : decode cX12_two 48 = .ok (.lreturn, 1) := by decide +kernel
theorem dX12_two_49 : decode cX12_two 49 = .ok (.lload_n 3, 1) := by decide +kernel
theorem dX12_two_50 : decode cX12_two 50 = .ok (.lconst 0, 1) := by decide +kernel
theorem dX12_two_51 : decode cX12_two 51 = .ok (.lcmp, 1) := by decide +kernel
theorem dX12_two_52 : decode cX12_two 52 = .ok (.ifCond .ne 7, 3) := by decide +kernel
theorem dX12_two_55 : decode cX12_two 55 = .ok (.lconst 0, 1) := by decide +kernel
theorem dX12_two_56 : decode cX12_two 56 = .ok (.goto 9, 3) := by decide +kernel
theorem dX12_two_59 : decode cX12_two 59 = .ok (.lload_n 1, 1) := by decide +kernel
theorem dX12_two_60 : decode cX12_two 60 = .ok (.lload_n 3, 1) := by decide +kernel
theorem dX12_two_61 : decode cX12_two 61 = .ok (.ldiv, 1) := by decide +kernel
theorem dX12_two_62 : decode cX12_two 62 = .ok (.invokestatic 278, 3) := by decide +kernel
theorem dX12_two_65 : decode cX12_two 65 = .ok (.lreturn, 1) := by decide +kernel
theorem dX12_isAsked_0 : decode cX12_isAsked 0 = .ok (.iload_n 0, 1) := by decide +kernel
theorem dX12_isAsked_1 : decode cX12_isAsked 1 = .ok (.bipush 10, 2) := by decide +kernel
theorem dX12_isAsked_3 : decode cX12_isAsked 3 = .ok (.if_icmp .ne 17, 3) := by decide +kernel
theorem dX12_isAsked_6 : decode cX12_isAsked 6 = .ok (.lload_n 1, 1) := by decide +kernel
theorem dX12_isAsked_7 : decode cX12_isAsked 7 = .ok (.lload_n 3, 1) := by decide +kernel
theorem dX12_isAsked_8 : decode cX12_isAsked 8 = .ok (.lcmp, 1) := by decide +kernel
theorem dX12_isAsked_9 : decode cX12_isAsked 9 = .ok (.ifCond .ge 7, 3) := by decide +kernel
theorem dX12_isAsked_12 : decode cX12_isAsked 12 = .ok (.iconst 1, 1) := by decide +kernel
theorem dX12_isAsked_13 : decode cX12_isAsked 13 = .ok (.goto 98, 3) := by decide +kernel
theorem dX12_isAsked_16 : decode cX12_isAsked 16 = .ok (.iconst 0, 1) := by decide +kernel
theorem dX12_isAsked_17 : decode cX12_isAsked 17 = .ok (.goto 94, 3) := by decide +kernel
theorem dX12_isAsked_20 : decode cX12_isAsked 20 = .ok (.iload_n 0, 1) := by decide +kernel
theorem dX12_isAsked_21 : decode cX12_isAsked 21 = .ok (.bipush 11, 2) := by decide +kernel
theorem dX12_isAsked_23 : decode cX12_isAsked 23 = .ok (.if_icmp .ne 17, 3) := by decide +kernel
theorem dX12_isAsked_26 : decode cX12_isAsked 26 = .ok (.lload_n 1, 1) := by decide +kernel
theorem dX12_isAsked_27 : decode cX12_isAsked 27 = .ok (.lload_n 3, 1) := by decide +kernel
theorem dX12_isAsked_28 : decode cX12_isAsked 28 = .ok (.lcmp, 1) := by decide +kernel
theorem dX12_isAsked_29 : decode cX12_isAsked 29 = .ok (.ifCond .gt 7, 3) := by decide +kernel
theorem dX12_isAsked_32 : decode cX12_isAsked 32 = .ok (.iconst 1, 1) := by decide +kernel
theorem dX12_isAsked_33 : decode cX12_isAsked 33 = .ok (.goto 78, 3) := by decide +kernel
theorem dX12_isAsked_36 : decode cX12_isAsked 36 = .ok (.iconst 0, 1) := by decide +kernel
theorem dX12_isAsked_37 : decode cX12_isAsked 37 = .ok (.goto 74, 3) := by decide +kernel
theorem dX12_isAsked_40 : decode cX12_isAsked 40 = .ok (.iload_n 0, 1) := by decide +kernel
theorem dX12_isAsked_41 : decode cX12_isAsked 41 = .ok (.bipush 12, 2) := by decide +kernel
theorem dX12_isAsked_43 : decode cX12_isAsked 43 = .ok (.if_icmp .ne 17, 3) := by decide +kernel
theorem dX12_isAsked_46 : decode cX12_isAsked 46 = .ok (.lload_n 1, 1) := by decide +kernel
theorem dX12_isAsked_47 : decode cX12_isAsked 47 = .ok (.lload_n 3, 1) := by decide +kernel
theorem dX12_isAsked_48 : decode cX12_isAsked 48 = .ok (.lcmp, 1) := by decide +kernel
theorem dX12_isAsked_49 : decode cX12_isAsked 49 = .ok (.ifCond .le 7, 3) := by decide +kernel
theorem dX12_isAsked_52 : decode cX12_isAsked 52 = .ok (.iconst 1, 1) := by decide +kernel
theorem dX12_isAsked_53 : decode cX12_isAsked 53 = .ok (.goto 58, 3) := by decide +kernel
theorem dX12_isAsked_56 : decode cX12_isAsked 56 = .ok (.iconst 0, 1) := by decide +kernel
theorem dX12_isAsked_57 : decode cX12_isAsked 57 = .ok (.goto 54, 3) := by decide +kernel
theorem dX12_isAsked_60 : decode cX12_isAsked 60 = .ok (.iload_n 0, 1) := by decide +kernel
theorem dX12_isAsked_61 : decode cX12_isAsked 61 = .ok (.bipush 13, 2) := by decide +kernel
theorem dX12_isAsked_63 : decode cX12_isAsked 63 = .ok (.if_icmp .ne 17, 3) := by decide +kernel
theorem dX12_isAsked_66 : decode cX12_isAsked 66 = .ok (.lload_n 1, 1) := by decide +kernel
theorem dX12_isAsked_67 : decode cX12_isAsked 67 = .ok (.lload_n 3, 1) := by decide +kernel
theorem dX12_isAsked_68 : decode cX12_isAsked 68 = .ok (.lcmp, 1) := by decide +kernel
theorem dX12_isAsked_69 : decode cX12_isAsked 69 = .ok (.ifCond .lt 7, 3) := by decide +kernel
theorem dX12_isAsked_72 : decode cX12_isAsked 72 = .ok (.iconst 1, 1) := by decide +kernel
theorem dX12_isAsked_73 : decode cX12_isAsked 73 = .ok (.goto 38, 3) := by decide +kernel
theorem dX12_isAsked_76 : decode cX12_isAsked 76 = .ok (.iconst 0, 1) := by decide +kernel
theorem dX12_isAsked_77 : decode cX12_isAsked 77 = .ok (.goto 34, 3) := by decide +kernel
theorem dX12_isAsked_80 : decode cX12_isAsked 80 = .ok (.iload_n 0, 1) := by decide +kernel
theorem dX12_isAsked_81 : decode cX12_isAsked 81 = .ok (.bipush 14, 2) := by decide +kernel
theorem dX12_isAsked_83 : decode cX12_isAsked 83 = .ok (.if_icmp .ne 17, 3) := by decide +kernel
theorem dX12_isAsked_86 : decode cX12_isAsked 86 = .ok (.lload_n 1, 1) := by decide +kernel
theorem dX12_isAsked_87 : decode cX12_isAsked 87 = .ok (.lload_n 3, 1) := by decide +kernel
theorem dX12_isAsked_88 : decode cX12_isAsked 88 = .ok (.lcmp, 1) := by decide +kernel
theorem dX12_isAsked_89 : decode cX12_isAsked 89 = .ok (.ifCond .ne 7, 3) := by decide +kernel
theorem dX12_isAsked_92 : decode cX12_isAsked 92 = .ok (.iconst 1, 1) := by decide +kernel
theorem dX12_isAsked_93 : decode cX12_isAsked 93 = .ok (.goto 18, 3) := by decide +kernel
theorem dX12_isAsked_96 : decode cX12_isAsked 96 = .ok (.iconst 0, 1) := by decide +kernel
theorem dX12_isAsked_97 : decode cX12_isAsked 97 = .ok (.goto 14, 3) := by decide +kernel
theorem dX12_isAsked_100 : decode cX12_isAsked 100 = .ok (.lload_n 1, 1) := by decide +kernel
theorem dX12_isAsked_101 : decode cX12_isAsked 101 = .ok (.lload_n 3, 1) := by decide +kernel
theorem dX12_isAsked_102 : decode cX12_isAsked 102 = .ok (.lcmp, 1) := by decide +kernel
theorem dX12_isAsked_103 : decode cX12_isAsked 103 = .ok (.ifCond .eq 7, 3) := by decide +kernel
theorem dX12_isAsked_106 : decode cX12_isAsked 106 = .ok (.iconst 1, 1) := by decide +kernel
theorem dX12_isAsked_107 : decode cX12_isAsked 107 = .ok (.goto 4, 3) := by decide +kernel
theorem dX12_isAsked_110 : decode cX12_isAsked 110 = .ok (.iconst 0, 1) := by decide +kernel
theorem dX12_isAsked_111 : decode cX12_isAsked 111 = .ok (.ireturn, 1) := by decide +kernel
theorem dX12_belowOf_0 : decode cX12_belowOf 0 = .ok (.lload_n 1, 1) := by decide +kernel
theorem dX12_belowOf_1 : decode cX12_belowOf 1 = .ok (.lconst 0, 1) := by decide +kernel
theorem dX12_belowOf_2 : decode cX12_belowOf 2 = .ok (.lcmp, 1) := by decide +kernel
theorem dX12_belowOf_3 : decode cX12_belowOf 3 = .ok (.ifCond .lt 11, 3) := by decide +kernel
theorem dX12_belowOf_6 : decode cX12_belowOf 6 = .ok (.lload_n 1, 1) := by decide +kernel
theorem dX12_belowOf_7 : decode cX12_belowOf 7 = .ok (.ldc2_w 282, 3) := by decide +kernel
theorem dX12_belowOf_10 : decode cX12_belowOf 10 = .ok (.lcmp, 1) := by decide +kernel
theorem dX12_belowOf_11 : decode cX12_belowOf 11 = .ok (.ifCond .lt 7, 3) := by decide +kernel
theorem dX12_belowOf_14 : decode cX12_belowOf 14 = .ok (.lconst 0, 1) := by decide +kernel
theorem dX12_belowOf_15 : decode cX12_belowOf 15 = .ok (.goto 14, 3) := by decide +kernel
theorem dX12_belowOf_18 : decode cX12_belowOf 18 = .ok (.aload_n 0, 1) := by decide +kernel
theorem dX12_belowOf_19 : decode cX12_belowOf 19 = .ok (.getfield 19, 3) := by decide +kernel
theorem dX12_belowOf_22 : decode cX12_belowOf 22 = .ok (.lload_n 1, 1) := by decide +kernel
theorem dX12_belowOf_23 : decode cX12_belowOf 23 = .ok (.l2i, 1) := by decide +kernel
theorem dX12_belowOf_24 : decode cX12_belowOf 24 = .ok (.iaload, 1) := by decide +kernel
theorem dX12_belowOf_25 : decode cX12_belowOf 25 = .ok (.invokestatic 284, 3) := by decide +kernel
theorem dX12_belowOf_28 : decode cX12_belowOf 28 = .ok (.i2l, 1) := by decide +kernel
theorem dX12_belowOf_29 : decode cX12_belowOf 29 = .ok (.lreturn, 1) := by decide +kernel
theorem dX12_withinOf_0 : decode cX12_withinOf 0 = .ok (.lload_n 2, 1) := by decide +kernel
theorem dX12_withinOf_1 : decode cX12_withinOf 1 = .ok (.lconst 0, 1) := by decide +kernel
theorem dX12_withinOf_2 : decode cX12_withinOf 2 = .ok (.lcmp, 1) := by decide +kernel
theorem dX12_withinOf_3 : decode cX12_withinOf 3 = .ok (.ifCond .gt 7, 3) := by decide +kernel
theorem dX12_withinOf_6 : decode cX12_withinOf 6 = .ok (.lconst 0, 1) := by decide +kernel
theorem dX12_withinOf_7 : decode cX12_withinOf 7 = .ok (.goto 26, 3) := by decide +kernel
theorem dX12_withinOf_10 : decode cX12_withinOf 10 = .ok (.lload_n 0, 1) := by decide +kernel
theorem dX12_withinOf_11 : decode cX12_withinOf 11 = .ok (.lload_n 2, 1) := by decide +kernel
theorem dX12_withinOf_12 : decode cX12_withinOf 12 = .ok (.lcmp, 1) := by decide +kernel
theorem dX12_withinOf_13 : decode cX12_withinOf 13 = .ok (.ifCond .le 7, 3) := by decide +kernel
theorem dX12_withinOf_16 : decode cX12_withinOf 16 = .ok (.lload_n 2, 1) := by decide +kernel
theorem dX12_withinOf_17 : decode cX12_withinOf 17 = .ok (.goto 16, 3) := by decide +kernel
theorem dX12_withinOf_20 : decode cX12_withinOf 20 = .ok (.lload_n 0, 1) := by decide +kernel
theorem dX12_withinOf_21 : decode cX12_withinOf 21 = .ok (.lload_n 2, 1) := by decide +kernel
theorem dX12_withinOf_22 : decode cX12_withinOf 22 = .ok (.lneg, 1) := by decide +kernel
theorem dX12_withinOf_23 : decode cX12_withinOf 23 = .ok (.lcmp, 1) := by decide +kernel
theorem dX12_withinOf_24 : decode cX12_withinOf 24 = .ok (.ifCond .ge 8, 3) := by decide +kernel
theorem dX12_withinOf_27 : decode cX12_withinOf 27 = .ok (.lload_n 2, 1) := by decide +kernel
theorem dX12_withinOf_28 : decode cX12_withinOf 28 = .ok (.lneg, 1) := by decide +kernel
theorem dX12_withinOf_29 : decode cX12_withinOf 29 = .ok (.goto 4, 3) := by decide +kernel
theorem dX12_withinOf_32 : decode cX12_withinOf 32 = .ok (.lload_n 0, 1) := by decide +kernel
theorem dX12_withinOf_33 : decode cX12_withinOf 33 = .ok (.lreturn, 1) := by decide +kernel
theorem dX12_joined_0 : decode cX12_joined 0 = .ok (.iload_n 0, 1) := by decide +kernel
theorem dX12_joined_1 : decode cX12_joined 1 = .ok (.bipush 21, 2) := by decide +kernel
theorem dX12_joined_3 : decode cX12_joined 3 = .ok (.if_icmp .ne 19, 3) := by decide +kernel
theorem dX12_joined_6 : decode cX12_joined 6 = .ok (.iload_n 1, 1) := by decide +kernel
theorem dX12_joined_7 : decode cX12_joined 7 = .ok (.ifCond .eq 11, 3) := by decide +kernel
theorem dX12_joined_10 : decode cX12_joined 10 = .ok (.iload_n 2, 1) := by decide +kernel
theorem dX12_joined_11 : decode cX12_joined 11 = .ok (.ifCond .eq 7, 3) := by decide +kernel
theorem dX12_joined_14 : decode cX12_joined 14 = .ok (.iconst 1, 1) := by decide +kernel
theorem dX12_joined_15 : decode cX12_joined 15 = .ok (.goto 20, 3) := by decide +kernel
theorem dX12_joined_18 : decode cX12_joined 18 = .ok (.iconst 0, 1) := by decide +kernel
theorem dX12_joined_19 : decode cX12_joined 19 = .ok (.goto 16, 3) := by decide +kernel
theorem dX12_joined_22 : decode cX12_joined 22 = .ok (.iload_n 1, 1) := by decide +kernel
theorem dX12_joined_23 : decode cX12_joined 23 = .ok (.ifCond .ne 7, 3) := by decide +kernel
theorem dX12_joined_26 : decode cX12_joined 26 = .ok (.iload_n 2, 1) := by decide +kernel
theorem dX12_joined_27 : decode cX12_joined 27 = .ok (.ifCond .eq 7, 3) := by decide +kernel
theorem dX12_joined_30 : decode cX12_joined 30 = .ok (.iconst 1, 1) := by decide +kernel
theorem dX12_joined_31 : decode cX12_joined 31 = .ok (.goto 4, 3) := by decide +kernel
theorem dX12_joined_34 : decode cX12_joined 34 = .ok (.iconst 0, 1) := by decide +kernel
theorem dX12_joined_35 : decode cX12_joined 35 = .ok (.ireturn, 1) := by decide +kernel
theorem dX12_summedUp_0 : decode cX12_summedUp 0 = .ok (.sipush 681, 3) := by decide +kernel
theorem dX12_summedUp_3 : decode cX12_summedUp 3 = .ok (.iload_n 1, 1) := by decide +kernel
theorem dX12_summedUp_4 : decode cX12_summedUp 4 = .ok (.imul, 1) := by decide +kernel
theorem dX12_summedUp_5 : decode cX12_summedUp 5 = .ok (.iconst 1, 1) := by decide +kernel
theorem dX12_summedUp_6 : decode cX12_summedUp 6 = .ok (.iadd, 1) := by decide +kernel
theorem dX12_summedUp_7 : decode cX12_summedUp 7 = .ok (.iconst 3, 1) := by decide +kernel
theorem dX12_summedUp_8 : decode cX12_summedUp 8 = .ok (.iload_n 2, 1) := by decide +kernel
theorem dX12_summedUp_9 : decode cX12_summedUp 9 = .ok (.imul, 1) := by decide +kernel
theorem dX12_summedUp_10 : decode cX12_summedUp 10 = .ok (.iadd, 1) := by decide +kernel
theorem dX12_summedUp_11 : decode cX12_summedUp 11 = .ok (.istore_n 3, 1) := by decide +kernel
theorem dX12_summedUp_12 : decode cX12_summedUp 12 = .ok (.sipush 681, 3) := by decide +kernel
theorem dX12_summedUp_15 : decode cX12_summedUp 15 = .ok (.iload_n 1, 1) := by decide +kernel
theorem dX12_summedUp_16 : decode cX12_summedUp 16 = .ok (.imul, 1) := by decide +kernel
theorem dX12_summedUp_17 : decode cX12_summedUp 17 = .ok (.bipush 73, 2) := by decide +kernel
theorem dX12_summedUp_19 : decode cX12_summedUp 19 = .ok (.iadd, 1) := by decide +kernel
theorem dX12_summedUp_20 : decode cX12_summedUp 20 = .ok (.istore 4, 2) := by decide +kernel
theorem dX12_summedUp_22 : decode cX12_summedUp 22 = .ok (.iconst 0, 1) := by decide +kernel
theorem dX12_summedUp_23 : decode cX12_summedUp 23 = .ok (.istore 5, 2) := by decide +kernel
theorem dX12_summedUp_25 : decode cX12_summedUp 25 = .ok (.iconst 0, 1) := by decide +kernel
theorem dX12_summedUp_26 : decode cX12_summedUp 26 = .ok (.istore 6, 2) := by decide +kernel
theorem dX12_summedUp_28 : decode cX12_summedUp 28 = .ok (.aload_n 0, 1) := by decide +kernel
theorem dX12_summedUp_29 : decode cX12_summedUp 29 = .ok (.getfield 16, 3) := by decide +kernel
theorem dX12_summedUp_32 : decode cX12_summedUp 32 = .ok (.iload_n 3, 1) := by decide +kernel
theorem dX12_summedUp_33 : decode cX12_summedUp 33 = .ok (.iconst 1, 1) := by decide +kernel
theorem dX12_summedUp_34 : decode cX12_summedUp 34 = .ok (.iadd, 1) := by decide +kernel
theorem dX12_summedUp_35 : decode cX12_summedUp 35 = .ok (.iaload, 1) := by decide +kernel
theorem dX12_summedUp_36 : decode cX12_summedUp 36 = .ok (.istore 7, 2) := by decide +kernel
theorem dX12_summedUp_38 : decode cX12_summedUp 38 = .ok (.iload 7, 2) := by decide +kernel
theorem dX12_summedUp_40 : decode cX12_summedUp 40 = .ok (.aload_n 0, 1) := by decide +kernel
theorem dX12_summedUp_41 : decode cX12_summedUp 41 = .ok (.getfield 16, 3) := by decide +kernel
theorem dX12_summedUp_44 : decode cX12_summedUp 44 = .ok (.iload_n 3, 1) := by decide +kernel
theorem dX12_summedUp_45 : decode cX12_summedUp 45 = .ok (.iconst 2, 1) := by decide +kernel
theorem dX12_summedUp_46 : decode cX12_summedUp 46 = .ok (.iadd, 1) := by decide +kernel
theorem dX12_summedUp_47 : decode cX12_summedUp 47 = .ok (.iaload, 1) := by decide +kernel
theorem dX12_summedUp_48 : decode cX12_summedUp 48 = .ok (.if_icmp .ge 358, 3) := by decide +kernel
theorem dX12_summedUp_51 : decode cX12_summedUp 51 = .ok (.aload_n 0, 1) := by decide +kernel
theorem dX12_summedUp_52 : decode cX12_summedUp 52 = .ok (.getfield 16, 3) := by decide +kernel
theorem dX12_summedUp_55 : decode cX12_summedUp 55 = .ok (.iload 4, 2) := by decide +kernel
theorem dX12_summedUp_57 : decode cX12_summedUp 57 = .ok (.iconst 2, 1) := by decide +kernel
theorem dX12_summedUp_58 : decode cX12_summedUp 58 = .ok (.iload 7, 2) := by decide +kernel
theorem dX12_summedUp_60 : decode cX12_summedUp 60 = .ok (.imul, 1) := by decide +kernel
theorem dX12_summedUp_61 : decode cX12_summedUp 61 = .ok (.iadd, 1) := by decide +kernel
theorem dX12_summedUp_62 : decode cX12_summedUp 62 = .ok (.iaload, 1) := by decide +kernel
theorem dX12_summedUp_63 : decode cX12_summedUp 63 = .ok (.istore 8, 2) := by decide +kernel
theorem dX12_summedUp_65 : decode cX12_summedUp 65 = .ok (.aload_n 0, 1) := by decide +kernel
theorem dX12_summedUp_66 : decode cX12_summedUp 66 = .ok (.getfield 16, 3) := by decide +kernel
theorem dX12_summedUp_69 : decode cX12_summedUp 69 = .ok (.iload 4, 2) := by decide +kernel
theorem dX12_summedUp_71 : decode cX12_summedUp 71 = .ok (.iconst 2, 1) := by decide +kernel
theorem dX12_summedUp_72 : decode cX12_summedUp 72 = .ok (.iload 7, 2) := by decide +kernel
theorem dX12_summedUp_74 : decode cX12_summedUp 74 = .ok (.imul, 1) := by decide +kernel
theorem dX12_summedUp_75 : decode cX12_summedUp 75 = .ok (.iadd, 1) := by decide +kernel
theorem dX12_summedUp_76 : decode cX12_summedUp 76 = .ok (.iconst 1, 1) := by decide +kernel
theorem dX12_summedUp_77 : decode cX12_summedUp 77 = .ok (.iadd, 1) := by decide +kernel
theorem dX12_summedUp_78 : decode cX12_summedUp 78 = .ok (.iaload, 1) := by decide +kernel
theorem dX12_summedUp_79 : decode cX12_summedUp 79 = .ok (.istore 9, 2) := by decide +kernel
theorem dX12_summedUp_81 : decode cX12_summedUp 81 = .ok (.iload 8, 2) := by decide +kernel
theorem dX12_summedUp_83 : decode cX12_summedUp 83 = .ok (.iconst 1, 1) := by decide +kernel
theorem dX12_summedUp_84 : decode cX12_summedUp 84 = .ok (.if_icmp .gt 35, 3) := by decide +kernel
theorem dX12_summedUp_87 : decode cX12_summedUp 87 = .ok (.aload_n 0, 1) := by decide +kernel
theorem dX12_summedUp_88 : decode cX12_summedUp 88 = .ok (.getfield 41, 3) := by decide +kernel
theorem dX12_summedUp_91 : decode cX12_summedUp 91 = .ok (.iload 5, 2) := by decide +kernel
theorem dX12_summedUp_93 : decode cX12_summedUp 93 = .ok (.iload 8, 2) := by decide +kernel
theorem dX12_summedUp_95 : decode cX12_summedUp 95 = .ok (.ifCond .ne 9, 3) := by decide +kernel
theorem dX12_summedUp_98 : decode cX12_summedUp 98 = .ok (.iload 9, 2) := by decide +kernel
theorem dX12_summedUp_100 : decode cX12_summedUp 100 = .ok (.i2l, 1) := by decide +kernel
theorem dX12_summedUp_101 : decode cX12_summedUp 101 = .ok (.goto 11, 3) := by decide +kernel
theorem dX12_summedUp_104 : decode cX12_summedUp 104 = .ok (.aload_n 0, 1) := by decide +kernel
theorem dX12_summedUp_105 : decode cX12_summedUp 105 = .ok (.getfield 38, 3) := by decide +kernel
theorem dX12_summedUp_108 : decode cX12_summedUp 108 = .ok (.iload 9, 2) := by decide +kernel
theorem dX12_summedUp_110 : decode cX12_summedUp 110 = .ok (.iaload, 1) := by decide +kernel
theorem dX12_summedUp_111 : decode cX12_summedUp 111 = .ok (.i2l, 1) := by decide +kernel
theorem dX12_summedUp_112 : decode cX12_summedUp 112 = .ok (.lastore, 1) := by decide +kernel
theorem dX12_summedUp_113 : decode cX12_summedUp 113 = .ok (.iinc 5 1, 3) := by decide +kernel
theorem dX12_summedUp_116 : decode cX12_summedUp 116 = .ok (.goto 284, 3) := by decide +kernel
theorem dX12_summedUp_119 : decode cX12_summedUp 119 = .ok (.iload 8, 2) := by decide +kernel
theorem dX12_summedUp_121 : decode cX12_summedUp 121 = .ok (.iconst 3, 1) := by decide +kernel
theorem dX12_summedUp_122 : decode cX12_summedUp 122 = .ok (.if_icmp .ne 38, 3) := by decide +kernel
theorem dX12_summedUp_125 : decode cX12_summedUp 125 = .ok (.iinc 5 (-1), 3) := by decide +kernel
theorem dX12_summedUp_128 : decode cX12_summedUp 128 = .ok (.iinc 6 (-1), 3) := by decide +kernel
theorem dX12_summedUp_131 : decode cX12_summedUp 131 = .ok (.aload_n 0, 1) := by decide +kernel
theorem dX12_summedUp_132 : decode cX12_summedUp 132 = .ok (.getfield 45, 3) := by decide +kernel
theorem dX12_summedUp_135 : decode cX12_summedUp 135 = .ok (.iload 6, 2) := by decide +kernel
theorem dX12_summedUp_137 : decode cX12_summedUp 137 = .ok (.baload, 1) := by decide +kernel
theorem dX12_summedUp_138 : decode cX12_summedUp 138 = .ok (.ifCond .ne 262, 3) := by decide +kernel
theorem dX12_summedUp_141 : decode cX12_summedUp 141 = .ok (.aload_n 0, 1) := by decide +kernel
theorem dX12_summedUp_142 : decode cX12_summedUp 142 = .ok (.getfield 41, 3) := by decide +kernel
theorem dX12_summedUp_145 : decode cX12_summedUp 145 = .ok (.iload 5, 2) := by decide +kernel
theorem dX12_summedUp_147 : decode cX12_summedUp 147 = .ok (.iconst 1, 1) := by decide +kernel
theorem dX12_summedUp_148 : decode cX12_summedUp 148 = .ok (.isub, 1) := by decide +kernel
theorem dX12_summedUp_149 : decode cX12_summedUp 149 = .ok (.aload_n 0, 1) := by decide +kernel
theorem dX12_summedUp_150 : decode cX12_summedUp 150 = .ok (.getfield 41, 3) := by decide +kernel
theorem dX12_summedUp_153 : decode cX12_summedUp 153 = .ok (.iload 5, 2) := by decide +kernel
theorem dX12_summedUp_155 : decode cX12_summedUp 155 = .ok (.laload, 1) := by decide +kernel
theorem dX12_summedUp_156 : decode cX12_summedUp 156 = .ok (.lastore, 1) := by decide +kernel
theorem dX12_summedUp_157 : decode cX12_summedUp 157 = .ok (.goto 243, 3) := by decide +kernel
theorem dX12_summedUp_160 : decode cX12_summedUp 160 = .ok (.iload 8, 2) := by decide +kernel
theorem dX12_summedUp_162 : decode cX12_summedUp 162 = .ok (.iconst 5, 1) := by decide +kernel
theorem dX12_summedUp_163 : decode cX12_summedUp 163 = .ok (.if_icmp .eq 9, 3) := by decide +kernel
theorem dX12_summedUp_166 : decode cX12_summedUp 166 = .ok (.iload 8, 2) := by decide +kernel
theorem dX12_summedUp_168 : decode cX12_summedUp 168 = .ok (.iconst 2, 1) := by decide +kernel
theorem dX12_summedUp_169 : decode cX12_summedUp 169 = .ok (.if_icmp .ne 47, 3) := by decide +kernel
theorem dX12_summedUp_172 : decode cX12_summedUp 172 = .ok (.aload_n 0, 1) := by decide +kernel
theorem dX12_summedUp_173 : decode cX12_summedUp 173 = .ok (.getfield 41, 3) := by decide +kernel
theorem dX12_summedUp_176 : decode cX12_summedUp 176 = .ok (.iload 5, 2) := by decide +kernel
theorem dX12_summedUp_178 : decode cX12_summedUp 178 = .ok (.iconst 1, 1) := by decide +kernel
theorem dX12_summedUp_179 : decode cX12_summedUp 179 = .ok (.isub, 1) := by decide +kernel
theorem dX12_summedUp_180 : decode cX12_summedUp 180 = .ok (.iload 8, 2) := by decide +kernel
theorem dX12_summedUp_182 : decode cX12_summedUp 182 = .ok (.iconst 5, 1) := by decide +kernel
theorem dX12_summedUp_183 : decode cX12_summedUp 183 = .ok (.if_icmp .ne 16, 3) := by decide +kernel
theorem dX12_summedUp_186 : decode cX12_summedUp 186 = .ok (.aload_n 0, 1) := by decide +kernel
theorem dX12_summedUp_187 : decode cX12_summedUp 187 = .ok (.getfield 41, 3) := by decide +kernel
theorem dX12_summedUp_190 : decode cX12_summedUp 190 = .ok (.iload 5, 2) := by decide +kernel
theorem dX12_summedUp_192 : decode cX12_summedUp 192 = .ok (.iconst 1, 1) := by decide +kernel
theorem dX12_summedUp_193 : decode cX12_summedUp 193 = .ok (.isub, 1) := by decide +kernel
theorem dX12_summedUp_194 : decode cX12_summedUp 194 = .ok (.laload, 1) := by decide +kernel
theorem dX12_summedUp_195 : decode cX12_summedUp 195 = .ok (.lneg, 1) := by decide +kernel
theorem dX12_summedUp_196 : decode cX12_summedUp 196 = .ok (.goto 16, 3) := by decide +kernel
theorem dX12_summedUp_199 : decode cX12_summedUp 199 = .ok (.aload_n 0, 1) := by decide +kernel
theorem dX12_summedUp_200 : decode cX12_summedUp 200 = .ok (.aload_n 0, 1) := by decide +kernel
theorem dX12_summedUp_201 : decode cX12_summedUp 201 = .ok (.getfield 41, 3) := by decide +kernel
theorem dX12_summedUp_204 : decode cX12_summedUp 204 = .ok (.iload 5, 2) := by decide +kernel
theorem dX12_summedUp_206 : decode cX12_summedUp 206 = .ok (.iconst 1, 1) := by decide +kernel
theorem dX12_summedUp_207 : decode cX12_summedUp 207 = .ok (.isub, 1) := by decide +kernel
theorem dX12_summedUp_208 : decode cX12_summedUp 208 = .ok (.laload, 1) := by decide +kernel
theorem dX12_summedUp_209 : decode cX12_summedUp 209 = .ok (.invokevirtual 287, 3) := by decide +kernel
theorem dX12_summedUp_212 : decode cX12_summedUp 212 = .ok (.lastore, 1) := by decide +kernel
theorem dX12_summedUp_213 : decode cX12_summedUp 213 = .ok (.goto 187, 3) := by decide +kernel
theorem dX12_summedUp_216 : decode cX12_summedUp 216 = .ok (.iload 8, 2) := by decide +kernel
theorem dX12_summedUp_218 : decode cX12_summedUp 218 = .ok (.bipush 10, 2) := by decide +kernel
theorem dX12_summedUp_220 : decode cX12_summedUp 220 = .ok (.if_icmp .ge 67, 3) := by decide +kernel
theorem dX12_summedUp_223 : decode cX12_summedUp 223 = .ok (.iinc 5 (-1), 3) := by decide +kernel
theorem dX12_summedUp_226 : decode cX12_summedUp 226 = .ok (.aload_n 0, 1) := by decide +kernel
theorem dX12_summedUp_227 : decode cX12_summedUp 227 = .ok (.getfield 41, 3) := by decide +kernel
theorem dX12_summedUp_230 : decode cX12_summedUp 230 = .ok (.iload 5, 2) := by decide +kernel
theorem dX12_summedUp_232 : decode cX12_summedUp 232 = .ok (.iconst 1, 1) := by decide +kernel
theorem dX12_summedUp_233 : decode cX12_summedUp 233 = .ok (.isub, 1) := by decide +kernel
theorem dX12_summedUp_234 : decode cX12_summedUp 234 = .ok (.iload 8, 2) := by decide +kernel
theorem dX12_summedUp_236 : decode cX12_summedUp 236 = .ok (.iconst 4, 1) := by decide +kernel
theorem dX12_summedUp_237 : decode cX12_summedUp 237 = .ok (.if_icmp .ne 25, 3) := by decide +kernel
theorem dX12_summedUp_240 : decode cX12_summedUp 240 = .ok (.aload_n 0, 1) := by decide +kernel
theorem dX12_summedUp_241 : decode cX12_summedUp 241 = .ok (.getfield 41, 3) := by decide +kernel
theorem dX12_summedUp_244 : decode cX12_summedUp 244 = .ok (.iload 5, 2) := by decide +kernel
theorem dX12_summedUp_246 : decode cX12_summedUp 246 = .ok (.iconst 1, 1) := by decide +kernel
theorem dX12_summedUp_247 : decode cX12_summedUp 247 = .ok (.isub, 1) := by decide +kernel
theorem dX12_summedUp_248 : decode cX12_summedUp 248 = .ok (.laload, 1) := by decide +kernel
theorem dX12_summedUp_249 : decode cX12_summedUp 249 = .ok (.aload_n 0, 1) := by decide +kernel
theorem dX12_summedUp_250 : decode cX12_summedUp 250 = .ok (.getfield 41, 3) := by decide +kernel
theorem dX12_summedUp_253 : decode cX12_summedUp 253 = .ok (.iload 5, 2) := by decide +kernel
theorem dX12_summedUp_255 : decode cX12_summedUp 255 = .ok (.laload, 1) := by decide +kernel
theorem dX12_summedUp_256 : decode cX12_summedUp 256 = .ok (.invokestatic 290, 3) := by decide +kernel
theorem dX12_summedUp_259 : decode cX12_summedUp 259 = .ok (.goto 24, 3) := by decide +kernel
theorem dX12_summedUp_262 : decode cX12_summedUp 262 = .ok (.iload 8, 2) := by decide +kernel
theorem dX12_summedUp_264 : decode cX12_summedUp 264 = .ok (.aload_n 0, 1) := by decide +kernel
theorem dX12_summedUp_265 : decode cX12_summedUp 265 = .ok (.getfield 41, 3) := by decide +kernel
theorem dX12_summedUp_268 : decode cX12_summedUp 268 = .ok (.iload 5, 2) := by decide +kernel
theorem dX12_summedUp_270 : decode cX12_summedUp 270 = .ok (.iconst 1, 1) := by decide +kernel
theorem dX12_summedUp_271 : decode cX12_summedUp 271 = .ok (.isub, 1) := by decide +kernel
theorem dX12_summedUp_272 : decode cX12_summedUp 272 = .ok (.laload, 1) := by decide +kernel
theorem dX12_summedUp_273 : decode cX12_summedUp 273 = .ok (.aload_n 0, 1) := by decide +kernel
theorem dX12_summedUp_274 : decode cX12_summedUp 274 = .ok (.getfield 41, 3) := by decide +kernel
theorem dX12_summedUp_277 : decode cX12_summedUp 277 = .ok (.iload 5, 2) := by decide +kernel
theorem dX12_summedUp_279 : decode cX12_summedUp 279 = .ok (.laload, 1) := by decide +kernel
theorem dX12_summedUp_280 : decode cX12_summedUp 280 = .ok (.invokestatic 294, 3) := by decide +kernel
theorem dX12_summedUp_283 : decode cX12_summedUp 283 = .ok (.lastore, 1) := by decide +kernel
theorem dX12_summedUp_284 : decode cX12_summedUp 284 = .ok (.goto 116, 3) := by decide +kernel
theorem dX12_summedUp_287 : decode cX12_summedUp 287 = .ok (.iload 8, 2) := by decide +kernel
theorem dX12_summedUp_289 : decode cX12_summedUp 289 = .ok (.bipush 20, 2) := by decide +kernel
theorem dX12_summedUp_291 : decode cX12_summedUp 291 = .ok (.if_icmp .ge 40, 3) := by decide +kernel
theorem dX12_summedUp_294 : decode cX12_summedUp 294 = .ok (.iinc 5 (-2), 3) := by decide +kernel
theorem dX12_summedUp_297 : decode cX12_summedUp 297 = .ok (.aload_n 0, 1) := by decide +kernel
theorem dX12_summedUp_298 : decode cX12_summedUp 298 = .ok (.getfield 45, 3) := by decide +kernel
theorem dX12_summedUp_301 : decode cX12_summedUp 301 = .ok (.iload 6, 2) := by decide +kernel
theorem dX12_summedUp_303 : decode cX12_summedUp 303 = .ok (.iload 8, 2) := by decide +kernel
theorem dX12_summedUp_305 : decode cX12_summedUp 305 = .ok (.aload_n 0, 1) := by decide +kernel
theorem dX12_summedUp_306 : decode cX12_summedUp 306 = .ok (.getfield 41, 3) := by decide +kernel
theorem dX12_summedUp_309 : decode cX12_summedUp 309 = .ok (.iload 5, 2) := by decide +kernel
theorem dX12_summedUp_311 : decode cX12_summedUp 311 = .ok (.laload, 1) := by decide +kernel
theorem dX12_summedUp_312 : decode cX12_summedUp 312 = .ok (.aload_n 0, 1) := by decide +kernel
theorem dX12_summedUp_313 : decode cX12_summedUp 313 = .ok (.getfield 41, 3) := by decide +kernel
theorem dX12_summedUp_316 : decode cX12_summedUp 316 = .ok (.iload 5, 2) := by decide +kernel
theorem dX12_summedUp_318 : decode cX12_summedUp 318 = .ok (.iconst 1, 1) := by decide +kernel
theorem dX12_summedUp_319 : decode cX12_summedUp 319 = .ok (.iadd, 1) := by decide +kernel
theorem dX12_summedUp_320 : decode cX12_summedUp 320 = .ok (.laload, 1) := by decide +kernel
theorem dX12_summedUp_321 : decode cX12_summedUp 321 = .ok (.invokestatic 298, 3) := by decide +kernel
theorem dX12_summedUp_324 : decode cX12_summedUp 324 = .ok (.bastore, 1) := by decide +kernel
theorem dX12_summedUp_325 : decode cX12_summedUp 325 = .ok (.iinc 6 1, 3) := by decide +kernel
theorem dX12_summedUp_328 : decode cX12_summedUp 328 = .ok (.goto 72, 3) := by decide +kernel
theorem dX12_summedUp_331 : decode cX12_summedUp 331 = .ok (.iload 8, 2) := by decide +kernel
theorem dX12_summedUp_333 : decode cX12_summedUp 333 = .ok (.bipush 20, 2) := by decide +kernel
theorem dX12_summedUp_335 : decode cX12_summedUp 335 = .ok (.if_icmp .ne 32, 3) := by decide +kernel
theorem dX12_summedUp_338 : decode cX12_summedUp 338 = .ok (.aload_n 0, 1) := by decide +kernel
theorem dX12_summedUp_339 : decode cX12_summedUp 339 = .ok (.getfield 45, 3) := by decide +kernel
theorem dX12_summedUp_342 : decode cX12_summedUp 342 = .ok (.iload 6, 2) := by decide +kernel
theorem dX12_summedUp_344 : decode cX12_summedUp 344 = .ok (.iconst 1, 1) := by decide +kernel
theorem dX12_summedUp_345 : decode cX12_summedUp 345 = .ok (.isub, 1) := by decide +kernel
theorem dX12_summedUp_346 : decode cX12_summedUp 346 = .ok (.aload_n 0, 1) := by decide +kernel
theorem dX12_summedUp_347 : decode cX12_summedUp 347 = .ok (.getfield 45, 3) := by decide +kernel
theorem dX12_summedUp_350 : decode cX12_summedUp 350 = .ok (.iload 6, 2) := by decide +kernel
theorem dX12_summedUp_352 : decode cX12_summedUp 352 = .ok (.iconst 1, 1) := by decide +kernel
theorem dX12_summedUp_353 : decode cX12_summedUp 353 = .ok (.isub, 1) := by decide +kernel
theorem dX12_summedUp_354 : decode cX12_summedUp 354 = .ok (.baload, 1) := by decide +kernel
theorem dX12_summedUp_355 : decode cX12_summedUp 355 = .ok (.ifCond .ne 7, 3) := by decide +kernel
theorem dX12_summedUp_358 : decode cX12_summedUp 358 = .ok (.iconst 1, 1) := by decide +kernel
theorem dX12_summedUp_359 : decode cX12_summedUp 359 = .ok (.goto 4, 3) := by decide +kernel
theorem dX12_summedUp_362 : decode cX12_summedUp 362 = .ok (.iconst 0, 1) := by decide +kernel
theorem dX12_summedUp_363 : decode cX12_summedUp 363 = .ok (.bastore, 1) := by decide +kernel
theorem dX12_summedUp_364 : decode cX12_summedUp 364 = .ok (.goto 36, 3) := by decide +kernel
theorem dX12_summedUp_367 : decode cX12_summedUp 367 = .ok (.iinc 6 (-1), 3) := by decide +kernel
theorem dX12_summedUp_370 : decode cX12_summedUp 370 = .ok (.aload_n 0, 1) := by decide +kernel
theorem dX12_summedUp_371 : decode cX12_summedUp 371 = .ok (.getfield 45, 3) := by decide +kernel
theorem dX12_summedUp_374 : decode cX12_summedUp 374 = .ok (.iload 6, 2) := by decide +kernel
theorem dX12_summedUp_376 : decode cX12_summedUp 376 = .ok (.iconst 1, 1) := by decide +kernel
theorem dX12_summedUp_377 : decode cX12_summedUp 377 = .ok (.isub, 1) := by decide +kernel
theorem dX12_summedUp_378 : decode cX12_summedUp 378 = .ok (.iload 8, 2) := by decide +kernel
theorem dX12_summedUp_380 : decode cX12_summedUp 380 = .ok (.aload_n 0, 1) := by decide +kernel
theorem dX12_summedUp_381 : decode cX12_summedUp 381 = .ok (.getfield 45, 3) := by decide +kernel
theorem dX12_summedUp_384 : decode cX12_summedUp 384 = .ok (.iload 6, 2) := by decide +kernel
theorem dX12_summedUp_386 : decode cX12_summedUp 386 = .ok (.iconst 1, 1) := by decide +kernel
theorem dX12_summedUp_387 : decode cX12_summedUp 387 = .ok (.isub, 1) := by decide +kernel
theorem dX12_summedUp_388 : decode cX12_summedUp 388 = .ok (.baload, 1) := by decide +kernel
theorem dX12_summedUp_389 : decode cX12_summedUp 389 = .ok (.aload_n 0, 1) := by decide +kernel
theorem dX12_summedUp_390 : decode cX12_summedUp 390 = .ok (.getfield 45, 3) := by decide +kernel
theorem dX12_summedUp_393 : decode cX12_summedUp 393 = .ok (.iload 6, 2) := by decide +kernel
theorem dX12_summedUp_395 : decode cX12_summedUp 395 = .ok (.baload, 1) := by decide +kernel
theorem dX12_summedUp_396 : decode cX12_summedUp 396 = .ok (.invokestatic 302, 3) := by decide +kernel
theorem dX12_summedUp_399 : decode cX12_summedUp 399 = .ok (.bastore, 1) := by decide +kernel
theorem dX12_summedUp_400 : decode cX12_summedUp 400 = .ok (.iinc 7 1, 3) := by decide +kernel
theorem dX12_summedUp_403 : decode cX12_summedUp 403 = .ok (.goto (-365), 3) := by decide +kernel
theorem dX12_summedUp_406 : decode cX12_summedUp 406 = .ok (.aload_n 0, 1) := by decide +kernel
theorem dX12_summedUp_407 : decode cX12_summedUp 407 = .ok (.getfield 41, 3) := by decide +kernel
theorem dX12_summedUp_410 : decode cX12_summedUp 410 = .ok (.iconst 0, 1) := by decide +kernel
theorem dX12_summedUp_411 : decode cX12_summedUp 411 = .ok (.laload, 1) := by decide +kernel
theorem dX12_summedUp_412 : decode cX12_summedUp 412 = .ok (.lreturn, 1) := by decide +kernel
theorem dX12_says_0 : decode cX12_says 0 = .ok (.iconst 0, 1) := by decide +kernel
theorem dX12_says_1 : decode cX12_says 1 = .ok (.istore 4, 2) := by decide +kernel
theorem dX12_says_3 : decode cX12_says 3 = .ok (.iload_n 1, 1) := by decide +kernel
theorem dX12_says_4 : decode cX12_says 4 = .ok (.ifCond .lt 62, 3) := by decide +kernel
theorem dX12_says_7 : decode cX12_says 7 = .ok (.iload 4, 2) := by decide +kernel
theorem dX12_says_9 : decode cX12_says 9 = .ok (.aload_n 0, 1) := by decide +kernel
theorem dX12_says_10 : decode cX12_says 10 = .ok (.getfield 16, 3) := by decide +kernel
theorem dX12_says_13 : decode cX12_says 13 = .ok (.sipush 681, 3) := by decide +kernel
theorem dX12_says_16 : decode cX12_says 16 = .ok (.iload_n 1, 1) := by decide +kernel
theorem dX12_says_17 : decode cX12_says 17 = .ok (.imul, 1) := by decide +kernel
theorem dX12_says_18 : decode cX12_says 18 = .ok (.iaload, 1) := by decide +kernel
theorem dX12_says_19 : decode cX12_says 19 = .ok (.if_icmp .ge 47, 3) := by decide +kernel
theorem dX12_says_22 : decode cX12_says 22 = .ok (.aload_n 0, 1) := by decide +kernel
theorem dX12_says_23 : decode cX12_says 23 = .ok (.getfield 16, 3) := by decide +kernel
theorem dX12_says_26 : decode cX12_says 26 = .ok (.sipush 681, 3) := by decide +kernel
theorem dX12_says_29 : decode cX12_says 29 = .ok (.iload_n 1, 1) := by decide +kernel
theorem dX12_says_30 : decode cX12_says 30 = .ok (.imul, 1) := by decide +kernel
theorem dX12_says_31 : decode cX12_says 31 = .ok (.iconst 1, 1) := by decide +kernel
theorem dX12_says_32 : decode cX12_says 32 = .ok (.iadd, 1) := by decide +kernel
theorem dX12_says_33 : decode cX12_says 33 = .ok (.iconst 3, 1) := by decide +kernel
theorem dX12_says_34 : decode cX12_says 34 = .ok (.iload 4, 2) := by decide +kernel
theorem dX12_says_36 : decode cX12_says 36 = .ok (.imul, 1) := by decide +kernel
theorem dX12_says_37 : decode cX12_says 37 = .ok (.iadd, 1) := by decide +kernel
theorem dX12_says_38 : decode cX12_says 38 = .ok (.iaload, 1) := by decide +kernel
theorem dX12_says_39 : decode cX12_says 39 = .ok (.iload_n 2, 1) := by decide +kernel
theorem dX12_says_40 : decode cX12_says 40 = .ok (.if_icmp .ne 20, 3) := by decide +kernel
theorem dX12_says_43 : decode cX12_says 43 = .ok (.aload_n 0, 1) := by decide +kernel
theorem dX12_says_44 : decode cX12_says 44 = .ok (.iload_n 1, 1) := by decide +kernel
theorem dX12_says_45 : decode cX12_says 45 = .ok (.iload 4, 2) := by decide +kernel
theorem dX12_says_47 : decode cX12_says 47 = .ok (.invokevirtual 306, 3) := by decide +kernel
theorem dX12_says_50 : decode cX12_says 50 = .ok (.sipush (-999), 3) := by decide +kernel
theorem dX12_says_53 : decode cX12_says 53 = .ok (.sipush 999, 3) := by decide +kernel
theorem dX12_says_56 : decode cX12_says 56 = .ok (.invokestatic 309, 3) := by decide +kernel
theorem dX12_says_59 : decode cX12_says 59 = .ok (.ireturn, 1) := by decide +kernel
theorem dX12_says_60 : decode cX12_says 60 = .ok (.iinc 4 1, 3) := by decide +kernel
theorem dX12_says_63 : decode cX12_says 63 = .ok (.goto (-60), 3) := by decide +kernel
theorem dX12_says_66 : decode cX12_says 66 = .ok (.iload_n 3, 1) := by decide +kernel
theorem dX12_says_67 : decode cX12_says 67 = .ok (.i2l, 1) := by decide +kernel
theorem dX12_says_68 : decode cX12_says 68 = .ok (.sipush (-999), 3) := by decide +kernel
theorem dX12_says_71 : decode cX12_says 71 = .ok (.sipush 999, 3) := by decide +kernel
theorem dX12_says_74 : decode cX12_says 74 = .ok (.invokestatic 309, 3) := by decide +kernel
theorem dX12_says_77 : decode cX12_says 77 = .ok (.ireturn, 1) := by decide +kernel
theorem dX12_name_0 : decode cX12_name 0 = .ok (.aload_n 0, 1) := by decide +kernel
theorem dX12_name_1 : decode cX12_name 1 = .ok (.invokevirtual 313, 3) := by decide +kernel
theorem dX12_name_4 : decode cX12_name 4 = .ok (.aload_n 0, 1) := by decide +kernel
theorem dX12_name_5 : decode cX12_name 5 = .ok (.getfield 38, 3) := by decide +kernel
theorem dX12_name_8 : decode cX12_name 8 = .ok (.iconst 0, 1) := by decide +kernel
theorem dX12_name_9 : decode cX12_name 9 = .ok (.aload_n 0, 1) := by decide +kernel
theorem dX12_name_10 : decode cX12_name 10 = .ok (.getfield 7, 3) := by decide +kernel
theorem dX12_name_13 : decode cX12_name 13 = .ok (.iconst 5, 1) := by decide +kernel
theorem dX12_name_14 : decode cX12_name 14 = .ok (.iaload, 1) := by decide +kernel
theorem dX12_name_15 : decode cX12_name 15 = .ok (.iastore, 1) := by decide +kernel
theorem dX12_name_16 : decode cX12_name 16 = .ok (.aload_n 0, 1) := by decide +kernel
theorem dX12_name_17 : decode cX12_name 17 = .ok (.getfield 38, 3) := by decide +kernel
theorem dX12_name_20 : decode cX12_name 20 = .ok (.iconst 1, 1) := by decide +kernel
theorem dX12_name_21 : decode cX12_name 21 = .ok (.iload_n 1, 1) := by decide +kernel
theorem dX12_name_22 : decode cX12_name 22 = .ok (.iastore, 1) := by decide +kernel
theorem dX12_name_23 : decode cX12_name 23 = .ok (.aload_n 0, 1) := by decide +kernel
theorem dX12_name_24 : decode cX12_name 24 = .ok (.getfield 38, 3) := by decide +kernel
theorem dX12_name_27 : decode cX12_name 27 = .ok (.iconst 2, 1) := by decide +kernel
theorem dX12_name_28 : decode cX12_name 28 = .ok (.aload_n 0, 1) := by decide +kernel
theorem dX12_name_29 : decode cX12_name 29 = .ok (.iload_n 1, 1) := by decide +kernel
theorem dX12_name_30 : decode cX12_name 30 = .ok (.iconst 2, 1) := by decide +kernel
theorem dX12_name_31 : decode cX12_name 31 = .ok (.invokevirtual 92, 3) := by decide +kernel
theorem dX12_name_34 : decode cX12_name 34 = .ok (.iastore, 1) := by decide +kernel
theorem dX12_name_35 : decode cX12_name 35 = .ok (.aload_n 0, 1) := by decide +kernel
theorem dX12_name_36 : decode cX12_name 36 = .ok (.getfield 38, 3) := by decide +kernel
theorem dX12_name_39 : decode cX12_name 39 = .ok (.iconst 3, 1) := by decide +kernel
theorem dX12_name_40 : decode cX12_name 40 = .ok (.aload_n 0, 1) := by decide +kernel
theorem dX12_name_41 : decode cX12_name 41 = .ok (.iload_n 1, 1) := by decide +kernel
theorem dX12_name_42 : decode cX12_name 42 = .ok (.iconst 4, 1) := by decide +kernel
theorem dX12_name_43 : decode cX12_name 43 = .ok (.invokevirtual 92, 3) := by decide +kernel
theorem dX12_name_46 : decode cX12_name 46 = .ok (.iastore, 1) := by decide +kernel
theorem dX12_name_47 : decode cX12_name 47 = .ok (.aload_n 0, 1) := by decide +kernel
theorem dX12_name_48 : decode cX12_name 48 = .ok (.getfield 38, 3) := by decide +kernel
theorem dX12_name_51 : decode cX12_name 51 = .ok (.iconst 4, 1) := by decide +kernel
theorem dX12_name_52 : decode cX12_name 52 = .ok (.aload_n 0, 1) := by decide +kernel
theorem dX12_name_53 : decode cX12_name 53 = .ok (.iload_n 1, 1) := by decide +kernel
theorem dX12_name_54 : decode cX12_name 54 = .ok (.iconst 3, 1) := by decide +kernel
theorem dX12_name_55 : decode cX12_name 55 = .ok (.invokevirtual 92, 3) := by decide +kernel
theorem dX12_name_58 : decode cX12_name 58 = .ok (.iastore, 1) := by decide +kernel
theorem dX12_name_59 : decode cX12_name 59 = .ok (.aload_n 0, 1) := by decide +kernel
theorem dX12_name_60 : decode cX12_name 60 = .ok (.getfield 38, 3) := by decide +kernel
theorem dX12_name_63 : decode cX12_name 63 = .ok (.iconst 5, 1) := by decide +kernel
theorem dX12_name_64 : decode cX12_name 64 = .ok (.aload_n 0, 1) := by decide +kernel
theorem dX12_name_65 : decode cX12_name 65 = .ok (.iload_n 1, 1) := by decide +kernel
theorem dX12_name_66 : decode cX12_name 66 = .ok (.iconst 0, 1) := by decide +kernel
theorem dX12_name_67 : decode cX12_name 67 = .ok (.invokevirtual 92, 3) := by decide +kernel
theorem dX12_name_70 : decode cX12_name 70 = .ok (.iastore, 1) := by decide +kernel
theorem dX12_name_71 : decode cX12_name 71 = .ok (.aload_n 0, 1) := by decide +kernel
theorem dX12_name_72 : decode cX12_name 72 = .ok (.getfield 38, 3) := by decide +kernel
theorem dX12_name_75 : decode cX12_name 75 = .ok (.bipush 6, 2) := by decide +kernel
theorem dX12_name_77 : decode cX12_name 77 = .ok (.aload_n 0, 1) := by decide +kernel
theorem dX12_name_78 : decode cX12_name 78 = .ok (.iload_n 1, 1) := by decide +kernel
theorem dX12_name_79 : decode cX12_name 79 = .ok (.iconst 5, 1) := by decide +kernel
theorem dX12_name_80 : decode cX12_name 80 = .ok (.invokevirtual 92, 3) := by decide +kernel
theorem dX12_name_83 : decode cX12_name 83 = .ok (.invokestatic 284, 3) := by decide +kernel
theorem dX12_name_86 : decode cX12_name 86 = .ok (.iastore, 1) := by decide +kernel
theorem dX12_name_87 : decode cX12_name 87 = .ok (.return_, 1) := by decide +kernel
theorem dX12_tellsOf_0 : decode cX12_tellsOf 0 = .ok (.aload_n 0, 1) := by decide +kernel
theorem dX12_tellsOf_1 : decode cX12_tellsOf 1 = .ok (.iload_n 1, 1) := by decide +kernel
theorem dX12_tellsOf_2 : decode cX12_tellsOf 2 = .ok (.invokevirtual 316, 3) := by decide +kernel
theorem dX12_tellsOf_5 : decode cX12_tellsOf 5 = .ok (.aload_n 0, 1) := by decide +kernel
theorem dX12_tellsOf_6 : decode cX12_tellsOf 6 = .ok (.getfield 38, 3) := by decide +kernel
theorem dX12_tellsOf_9 : decode cX12_tellsOf 9 = .ok (.bipush 7, 2) := by decide +kernel
theorem dX12_tellsOf_11 : decode cX12_tellsOf 11 = .ok (.iload_n 2, 1) := by decide +kernel
theorem dX12_tellsOf_12 : decode cX12_tellsOf 12 = .ok (.iastore, 1) := by decide +kernel
theorem dX12_tellsOf_13 : decode cX12_tellsOf 13 = .ok (.aload_n 0, 1) := by decide +kernel
theorem dX12_tellsOf_14 : decode cX12_tellsOf 14 = .ok (.getfield 38, 3) := by decide +kernel
theorem dX12_tellsOf_17 : decode cX12_tellsOf 17 = .ok (.bipush 8, 2) := by decide +kernel
theorem dX12_tellsOf_19 : decode cX12_tellsOf 19 = .ok (.aload_n 0, 1) := by decide +kernel
theorem dX12_tellsOf_20 : decode cX12_tellsOf 20 = .ok (.getfield 7, 3) := by decide +kernel
theorem dX12_tellsOf_23 : decode cX12_tellsOf 23 = .ok (.bipush 49, 2) := by decide +kernel
theorem dX12_tellsOf_25 : decode cX12_tellsOf 25 = .ok (.iload_n 2, 1) := by decide +kernel
theorem dX12_tellsOf_26 : decode cX12_tellsOf 26 = .ok (.iadd, 1) := by decide +kernel
theorem dX12_tellsOf_27 : decode cX12_tellsOf 27 = .ok (.iaload, 1) := by decide +kernel
theorem dX12_tellsOf_28 : decode cX12_tellsOf 28 = .ok (.iastore, 1) := by decide +kernel
theorem dX12_tellsOf_29 : decode cX12_tellsOf 29 = .ok (.aload_n 0, 1) := by decide +kernel
