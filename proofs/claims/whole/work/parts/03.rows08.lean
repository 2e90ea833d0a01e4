theorem dX12_isOneMore_128 : decode cX12_isOneMore 128 = .ok (.iastore, 1) := by decide +kernel
theorem dX12_isOneMore_129 : decode cX12_isOneMore 129 = .ok (.iinc 2 1, 3) := by decide +kernel
theorem dX12_isOneMore_132 : decode cX12_isOneMore 132 = .ok (.iinc 5 1, 3) := by decide +kernel
theorem dX12_isOneMore_135 : decode cX12_isOneMore 135 = .ok (.goto (-87), 3) := by decide +kernel
theorem dX12_isOneMore_138 : decode cX12_isOneMore 138 = .ok (.iinc 3 1, 3) := by decide +kernel
theorem dX12_isOneMore_141 : decode cX12_isOneMore 141 = .ok (.goto (-109), 3) := by decide +kernel
theorem dX12_isOneMore_144 : decode cX12_isOneMore 144 = .ok (.iconst 0, 1) := by decide +kernel
theorem dX12_isOneMore_145 : decode cX12_isOneMore 145 = .ok (.ireturn, 1) := by decide +kernel
theorem dX12_turn_0 : decode cX12_turn 0 = .ok (.iload_n 1, 1) := by decide +kernel
theorem dX12_turn_1 : decode cX12_turn 1 = .ok (.istore_n 3, 1) := by decide +kernel
theorem dX12_turn_2 : decode cX12_turn 2 = .ok (.iload_n 3, 1) := by decide +kernel
theorem dX12_turn_3 : decode cX12_turn 3 = .ok (.iconst (-1), 1) := by decide +kernel
theorem dX12_turn_4 : decode cX12_turn 4 = .ok (.if_icmp .eq 76, 3) := by decide +kernel
theorem dX12_turn_7 : decode cX12_turn 7 = .ok (.aload_n 0, 1) := by decide +kernel
theorem dX12_turn_8 : decode cX12_turn 8 = .ok (.getfield 65, 3) := by decide +kernel
theorem dX12_turn_11 : decode cX12_turn 11 = .ok (.iload_n 3, 1) := by decide +kernel
theorem dX12_turn_12 : decode cX12_turn 12 = .ok (.iaload, 1) := by decide +kernel
theorem dX12_turn_13 : decode cX12_turn 13 = .ok (.istore 4, 2) := by decide +kernel
theorem dX12_turn_15 : decode cX12_turn 15 = .ok (.iconst (-1), 1) := by decide +kernel
theorem dX12_turn_16 : decode cX12_turn 16 = .ok (.istore 5, 2) := by decide +kernel
theorem dX12_turn_18 : decode cX12_turn 18 = .ok (.iconst 0, 1) := by decide +kernel
theorem dX12_turn_19 : decode cX12_turn 19 = .ok (.istore 6, 2) := by decide +kernel
theorem dX12_turn_21 : decode cX12_turn 21 = .ok (.iload 6, 2) := by decide +kernel
theorem dX12_turn_23 : decode cX12_turn 23 = .ok (.bipush 12, 2) := by decide +kernel
theorem dX12_turn_25 : decode cX12_turn 25 = .ok (.if_icmp .ge 31, 3) := by decide +kernel
theorem dX12_turn_28 : decode cX12_turn 28 = .ok (.iload 6, 2) := by decide +kernel
theorem dX12_turn_30 : decode cX12_turn 30 = .ok (.iload_n 3, 1) := by decide +kernel
theorem dX12_turn_31 : decode cX12_turn 31 = .ok (.if_icmp .eq 19, 3) := by decide +kernel
theorem dX12_turn_34 : decode cX12_turn 34 = .ok (.aload_n 0, 1) := by decide +kernel
theorem dX12_turn_35 : decode cX12_turn 35 = .ok (.getfield 62, 3) := by decide +kernel
theorem dX12_turn_38 : decode cX12_turn 38 = .ok (.iload 6, 2) := by decide +kernel
theorem dX12_turn_40 : decode cX12_turn 40 = .ok (.iaload, 1) := by decide +kernel
theorem dX12_turn_41 : decode cX12_turn 41 = .ok (.iload 4, 2) := by decide +kernel
theorem dX12_turn_43 : decode cX12_turn 43 = .ok (.if_icmp .ne 7, 3) := by decide +kernel
theorem dX12_turn_46 : decode cX12_turn 46 = .ok (.iload 6, 2) := by decide +kernel
theorem dX12_turn_48 : decode cX12_turn 48 = .ok (.istore 5, 2) := by decide +kernel
theorem dX12_turn_50 : decode cX12_turn 50 = .ok (.iinc 6 1, 3) := by decide +kernel
theorem dX12_turn_53 : decode cX12_turn 53 = .ok (.goto (-32), 3) := by decide +kernel
theorem dX12_turn_56 : decode cX12_turn 56 = .ok (.aload_n 0, 1) := by decide +kernel
theorem dX12_turn_57 : decode cX12_turn 57 = .ok (.getfield 62, 3) := by decide +kernel
theorem dX12_turn_60 : decode cX12_turn 60 = .ok (.iload_n 3, 1) := by decide +kernel
theorem dX12_turn_61 : decode cX12_turn 61 = .ok (.iload 4, 2) := by decide +kernel
theorem dX12_turn_63 : decode cX12_turn 63 = .ok (.iastore, 1) := by decide +kernel
theorem dX12_turn_64 : decode cX12_turn 64 = .ok (.iload 4, 2) := by decide +kernel
theorem dX12_turn_66 : decode cX12_turn 66 = .ok (.iload_n 2, 1) := by decide +kernel
theorem dX12_turn_67 : decode cX12_turn 67 = .ok (.if_icmp .ne 7, 3) := by decide +kernel
theorem dX12_turn_70 : decode cX12_turn 70 = .ok (.iconst (-1), 1) := by decide +kernel
theorem dX12_turn_71 : decode cX12_turn 71 = .ok (.goto 5, 3) := by decide +kernel
theorem dX12_turn_74 : decode cX12_turn 74 = .ok (.iload 5, 2) := by decide +kernel
theorem dX12_turn_76 : decode cX12_turn 76 = .ok (.istore_n 3, 1) := by decide +kernel
theorem dX12_turn_77 : decode cX12_turn 77 = .ok (.goto (-75), 3) := by decide +kernel
theorem dX12_turn_80 : decode cX12_turn 80 = .ok (.return_, 1) := by decide +kernel
set_option maxRecDepth 20000 in
theorem ggX12_chains_X12_isOneMore : GoodIn wsX12_chains wsX12_isOneMore := goodIn_r _ [6, 7, 8, 9, 1, 10, 11, 5, 12, 13, 14, 15, 16, 17, 18, 19, 20, 21, 22, 23, 24, 25, 26, 27, 28, 29, 30, 31, 32, 33, 34, 35, 36, 37, 38, 39, 40, 41, 42, 43, 44, 45, 46, 47, 48, 49, 50, 51, 52] (by decide +kernel) (by decide +kernel)
set_option maxRecDepth 20000 in
theorem gX12_chains_X12_isOneMore : GoodIn wsX12_chains (wsV RX12 425 RX12 yX12_isOneMore wsX12_isOneMore) := goodIn_app (goodIn_of _ (by decide +kernel)) ggX12_chains_X12_isOneMore
theorem dX12_chains_0 : decode cX12_chains 0 = .ok (.iconst 0, 1) := by decide +kernel
theorem dX12_chains_1 : decode cX12_chains 1 = .ok (.istore_n 1, 1) := by decide +kernel
theorem dX12_chains_2 : decode cX12_chains 2 = .ok (.iload_n 1, 1) := by decide +kernel
theorem dX12_chains_3 : decode cX12_chains 3 = .ok (.bipush 12, 2) := by decide +kernel
theorem dX12_chains_5 : decode cX12_chains 5 = .ok (.if_icmp .ge 16, 3) := by decide +kernel
theorem dX12_chains_8 : decode cX12_chains 8 = .ok (.aload_n 0, 1) := by decide +kernel
theorem dX12_chains_9 : decode cX12_chains 9 = .ok (.getfield 62, 3) := by decide +kernel
theorem dX12_chains_12 : decode cX12_chains 12 = .ok (.iload_n 1, 1) := by decide +kernel
theorem dX12_chains_13 : decode cX12_chains 13 = .ok (.iconst (-1), 1) := by decide +kernel
theorem dX12_chains_14 : decode cX12_chains 14 = .ok (.iastore, 1) := by decide +kernel
theorem dX12_chains_15 : decode cX12_chains 15 = .ok (.iinc 1 1, 3) := by decide +kernel
theorem dX12_chains_18 : decode cX12_chains 18 = .ok (.goto (-16), 3) := by decide +kernel
theorem dX12_chains_21 : decode cX12_chains 21 = .ok (.bipush 12, 2) := by decide +kernel
theorem dX12_chains_23 : decode cX12_chains 23 = .ok (.istore_n 1, 1) := by decide +kernel
theorem dX12_chains_24 : decode cX12_chains 24 = .ok (.iconst 0, 1) := by decide +kernel
theorem dX12_chains_25 : decode cX12_chains 25 = .ok (.istore_n 2, 1) := by decide +kernel
theorem dX12_chains_26 : decode cX12_chains 26 = .ok (.iload_n 2, 1) := by decide +kernel
theorem dX12_chains_27 : decode cX12_chains 27 = .ok (.bipush 12, 2) := by decide +kernel
theorem dX12_chains_29 : decode cX12_chains 29 = .ok (.if_icmp .ge 25, 3) := by decide +kernel
theorem dX12_chains_32 : decode cX12_chains 32 = .ok (.iload_n 1, 1) := by decide +kernel
theorem dX12_chains_33 : decode cX12_chains 33 = .ok (.aload_n 0, 1) := by decide +kernel
theorem dX12_chains_34 : decode cX12_chains 34 = .ok (.iload_n 2, 1) := by decide +kernel
theorem dX12_chains_35 : decode cX12_chains 35 = .ok (.invokevirtual 425, 3) := by decide +kernel
theorem dX12_chains_38 : decode cX12_chains 38 = .ok (.ifCond .eq 7, 3) := by decide +kernel
theorem dX12_chains_41 : decode cX12_chains 41 = .ok (.iconst 1, 1) := by decide +kernel
theorem dX12_chains_42 : decode cX12_chains 42 = .ok (.goto 4, 3) := by decide +kernel
theorem dX12_chains_45 : decode cX12_chains 45 = .ok (.iconst 0, 1) := by decide +kernel
theorem dX12_chains_46 : decode cX12_chains 46 = .ok (.isub, 1) := by decide +kernel
theorem dX12_chains_47 : decode cX12_chains 47 = .ok (.istore_n 1, 1) := by decide +kernel
theorem dX12_chains_48 : decode cX12_chains 48 = .ok (.iinc 2 1, 3) := by decide +kernel
theorem dX12_chains_51 : decode cX12_chains 51 = .ok (.goto (-25), 3) := by decide +kernel
theorem dX12_chains_54 : decode cX12_chains 54 = .ok (.iload_n 1, 1) := by decide +kernel
theorem dX12_chains_55 : decode cX12_chains 55 = .ok (.ireturn, 1) := by decide +kernel
theorem dX12_asksBy_0 : decode cX12_asksBy 0 = .ok (.iload_n 1, 1) := by decide +kernel
theorem dX12_asksBy_1 : decode cX12_asksBy 1 = .ok (.aload_n 0, 1) := by decide +kernel
theorem dX12_asksBy_2 : decode cX12_asksBy 2 = .ok (.getfield 19, 3) := by decide +kernel
theorem dX12_asksBy_5 : decode cX12_asksBy 5 = .ok (.iload_n 2, 1) := by decide +kernel
theorem dX12_asksBy_6 : decode cX12_asksBy 6 = .ok (.iaload, 1) := by decide +kernel
theorem dX12_asksBy_7 : decode cX12_asksBy 7 = .ok (.iconst 1, 1) := by decide +kernel
theorem dX12_asksBy_8 : decode cX12_asksBy 8 = .ok (.iload_n 2, 1) := by decide +kernel
theorem dX12_asksBy_9 : decode cX12_asksBy 9 = .ok (.ishl, 1) := by decide +kernel
theorem dX12_asksBy_10 : decode cX12_asksBy 10 = .ok (.ior, 1) := by decide +kernel
theorem dX12_asksBy_11 : decode cX12_asksBy 11 = .ok (.iand, 1) := by decide +kernel
theorem dX12_asksBy_12 : decode cX12_asksBy 12 = .ok (.istore_n 3, 1) := by decide +kernel
theorem dX12_asksBy_13 : decode cX12_asksBy 13 = .ok (.iload_n 3, 1) := by decide +kernel
theorem dX12_asksBy_14 : decode cX12_asksBy 14 = .ok (.ifCond .eq 8, 3) := by decide +kernel
theorem dX12_asksBy_17 : decode cX12_asksBy 17 = .ok (.iload_n 3, 1) := by decide +kernel
theorem dX12_asksBy_18 : decode cX12_asksBy 18 = .ok (.iload_n 1, 1) := by decide +kernel
theorem dX12_asksBy_19 : decode cX12_asksBy 19 = .ok (.if_icmp .ne 7, 3) := by decide +kernel
theorem dX12_asksBy_22 : decode cX12_asksBy 22 = .ok (.ldc_w 428, 3) := by decide +kernel
theorem dX12_asksBy_25 : decode cX12_asksBy 25 = .ok (.ireturn, 1) := by decide +kernel
theorem dX12_asksBy_26 : decode cX12_asksBy 26 = .ok (.iload_n 1, 1) := by decide +kernel
theorem dX12_asksBy_27 : decode cX12_asksBy 27 = .ok (.iload_n 3, 1) := by decide +kernel
theorem dX12_asksBy_28 : decode cX12_asksBy 28 = .ok (.iconst (-1), 1) := by decide +kernel
theorem dX12_asksBy_29 : decode cX12_asksBy 29 = .ok (.ixor, 1) := by decide +kernel
theorem dX12_asksBy_30 : decode cX12_asksBy 30 = .ok (.iand, 1) := by decide +kernel
theorem dX12_asksBy_31 : decode cX12_asksBy 31 = .ok (.istore 4, 2) := by decide +kernel
theorem dX12_asksBy_33 : decode cX12_asksBy 33 = .ok (.iconst 1, 1) := by decide +kernel
theorem dX12_asksBy_34 : decode cX12_asksBy 34 = .ok (.aload_n 0, 1) := by decide +kernel
theorem dX12_asksBy_35 : decode cX12_asksBy 35 = .ok (.getfield 71, 3) := by decide +kernel
theorem dX12_asksBy_38 : decode cX12_asksBy 38 = .ok (.iload_n 3, 1) := by decide +kernel
theorem dX12_asksBy_39 : decode cX12_asksBy 39 = .ok (.iaload, 1) := by decide +kernel
theorem dX12_asksBy_40 : decode cX12_asksBy 40 = .ok (.aload_n 0, 1) := by decide +kernel
theorem dX12_asksBy_41 : decode cX12_asksBy 41 = .ok (.getfield 71, 3) := by decide +kernel
theorem dX12_asksBy_44 : decode cX12_asksBy 44 = .ok (.iload 4, 2) := by decide +kernel
theorem dX12_asksBy_46 : decode cX12_asksBy 46 = .ok (.iaload, 1) := by decide +kernel
theorem dX12_asksBy_47 : decode cX12_asksBy 47 = .ok (.if_icmp .le 12, 3) := by decide +kernel
theorem dX12_asksBy_50 : decode cX12_asksBy 50 = .ok (.aload_n 0, 1) := by decide +kernel
theorem dX12_asksBy_51 : decode cX12_asksBy 51 = .ok (.getfield 71, 3) := by decide +kernel
theorem dX12_asksBy_54 : decode cX12_asksBy 54 = .ok (.iload_n 3, 1) := by decide +kernel
theorem dX12_asksBy_55 : decode cX12_asksBy 55 = .ok (.iaload, 1) := by decide +kernel
theorem dX12_asksBy_56 : decode cX12_asksBy 56 = .ok (.goto 10, 3) := by decide +kernel
theorem dX12_asksBy_59 : decode cX12_asksBy 59 = .ok (.aload_n 0, 1) := by decide +kernel
theorem dX12_asksBy_60 : decode cX12_asksBy 60 = .ok (.getfield 71, 3) := by decide +kernel
theorem dX12_asksBy_63 : decode cX12_asksBy 63 = .ok (.iload 4, 2) := by decide +kernel
theorem dX12_asksBy_65 : decode cX12_asksBy 65 = .ok (.iaload, 1) := by decide +kernel
theorem dX12_asksBy_66 : decode cX12_asksBy 66 = .ok (.iadd, 1) := by decide +kernel
theorem dX12_asksBy_67 : decode cX12_asksBy 67 = .ok (.ireturn, 1) := by decide +kernel
set_option maxRecDepth 20000 in
theorem ggX12_asked_X12_isIn : GoodIn wsX12_asked wsX12_isIn := goodIn_r _ [6] (by decide +kernel) (by decide +kernel)
set_option maxRecDepth 20000 in
theorem gX12_asked_X12_isIn : GoodIn wsX12_asked (va_wsS RX12 84 yX12_isIn wsX12_isIn) := goodIn_app (goodIn_of _ (by decide +kernel)) ggX12_asked_X12_isIn
set_option maxRecDepth 20000 in
theorem ggX12_asked_X12_layLows : GoodIn wsX12_asked wsX12_layLows := goodIn_r _ [10, 11, 12, 13, 14, 15, 5, 16, 24, 25, 26, 27, 28, 29, 30, 31, 32, 33, 34, 35, 36, 37, 38, 39, 40, 41, 42, 43, 44, 45, 46, 47, 48, 49, 50, 51, 52, 53, 54, 55, 56, 57, 58, 59] (by decide +kernel) (by decide +kernel)
set_option maxRecDepth 20000 in
theorem gX12_asked_X12_layLows : GoodIn wsX12_asked (wsV RX12 313 RX12 yX12_layLows wsX12_layLows) := goodIn_app (goodIn_of _ (by decide +kernel)) ggX12_asked_X12_layLows
set_option maxRecDepth 20000 in
theorem ggX12_asked_X12_bits : GoodIn wsX12_asked wsX12_bits := goodIn_r _ [19] (by decide +kernel) (by decide +kernel)
set_option maxRecDepth 20000 in
theorem gX12_asked_X12_bits : GoodIn wsX12_asked (va_wsS RX12 284 yX12_bits wsX12_bits) := goodIn_app (goodIn_of _ (by decide +kernel)) ggX12_asked_X12_bits
set_option maxRecDepth 20000 in
theorem ggX12_asked_X12_asksBy : GoodIn wsX12_asked wsX12_asksBy := goodIn_r _ [23, 11, 2, 1, 24, 25, 26, 27, 28, 29, 30, 31, 32, 33, 34, 35, 36, 37, 38, 39, 40, 41, 42, 43, 44, 45, 46, 47, 48, 49, 50, 51, 52, 53, 54, 55, 56, 57, 58, 59] (by decide +kernel) (by decide +kernel)
set_option maxRecDepth 20000 in
theorem gX12_asked_X12_asksBy : GoodIn wsX12_asked (wsV RX12 429 RX12 yX12_asksBy wsX12_asksBy) := goodIn_app (goodIn_of _ (by decide +kernel)) ggX12_asked_X12_asksBy
theorem dX12_asked_0 : decode cX12_asked 0 = .ok (.iload_n 1, 1) := by decide +kernel
theorem dX12_asked_1 : decode cX12_asked 1 = .ok (.iconst 1, 1) := by decide +kernel
theorem dX12_asked_2 : decode cX12_asked 2 = .ok (.sipush 4095, 3) := by decide +kernel
theorem dX12_asked_5 : decode cX12_asked 5 = .ok (.invokestatic 84, 3) := by decide +kernel
theorem dX12_asked_8 : decode cX12_asked 8 = .ok (.ifCond .ne 5, 3) := by decide +kernel
theorem dX12_asked_11 : decode cX12_asked 11 = .ok (.iconst (-1), 1) := by decide +kernel
theorem dX12_asked_12 : decode cX12_asked 12 = .ok (.ireturn, 1) := by decide +kernel
theorem dX12_asked_13 : decode cX12_asked 13 = .ok (.aload_n 0, 1) := by decide +kernel
theorem dX12_asked_14 : decode cX12_asked 14 = .ok (.invokevirtual 313, 3) := by decide +kernel
theorem dX12_asked_17 : decode cX12_asked 17 = .ok (.iconst (-1), 1) := by decide +kernel
theorem dX12_asked_18 : decode cX12_asked 18 = .ok (.istore_n 3, 1) := by decide +kernel
theorem dX12_asked_19 : decode cX12_asked 19 = .ok (.iconst 1, 1) := by decide +kernel
theorem dX12_asked_20 : decode cX12_asked 20 = .ok (.istore 4, 2) := by decide +kernel
theorem dX12_asked_22 : decode cX12_asked 22 = .ok (.iload 4, 2) := by decide +kernel
theorem dX12_asked_24 : decode cX12_asked 24 = .ok (.iload_n 1, 1) := by decide +kernel
theorem dX12_asked_25 : decode cX12_asked 25 = .ok (.if_icmp .gt 106, 3) := by decide +kernel
theorem dX12_asked_28 : decode cX12_asked 28 = .ok (.iload 4, 2) := by decide +kernel
theorem dX12_asked_30 : decode cX12_asked 30 = .ok (.iload_n 1, 1) := by decide +kernel
theorem dX12_asked_31 : decode cX12_asked 31 = .ok (.iconst (-1), 1) := by decide +kernel
theorem dX12_asked_32 : decode cX12_asked 32 = .ok (.ixor, 1) := by decide +kernel
theorem dX12_asked_33 : decode cX12_asked 33 = .ok (.iand, 1) := by decide +kernel
theorem dX12_asked_34 : decode cX12_asked 34 = .ok (.ifCond .eq 6, 3) := by decide +kernel
theorem dX12_asked_37 : decode cX12_asked 37 = .ok (.goto 88, 3) := by decide +kernel
theorem dX12_asked_40 : decode cX12_asked 40 = .ok (.aload_n 0, 1) := by decide +kernel
theorem dX12_asked_41 : decode cX12_asked 41 = .ok (.getfield 71, 3) := by decide +kernel
theorem dX12_asked_44 : decode cX12_asked 44 = .ok (.iload 4, 2) := by decide +kernel
theorem dX12_asked_46 : decode cX12_asked 46 = .ok (.iload 4, 2) := by decide +kernel
theorem dX12_asked_48 : decode cX12_asked 48 = .ok (.invokestatic 284, 3) := by decide +kernel
theorem dX12_asked_51 : decode cX12_asked 51 = .ok (.iconst 2, 1) := by decide +kernel
theorem dX12_asked_52 : decode cX12_asked 52 = .ok (.if_icmp .ge 7, 3) := by decide +kernel
theorem dX12_asked_55 : decode cX12_asked 55 = .ok (.iconst 0, 1) := by decide +kernel
theorem dX12_asked_56 : decode cX12_asked 56 = .ok (.goto 6, 3) := by decide +kernel
theorem dX12_asked_59 : decode cX12_asked 59 = .ok (.ldc_w 428, 3) := by decide +kernel
theorem dX12_asked_62 : decode cX12_asked 62 = .ok (.iastore, 1) := by decide +kernel
theorem dX12_asked_63 : decode cX12_asked 63 = .ok (.iconst 0, 1) := by decide +kernel
theorem dX12_asked_64 : decode cX12_asked 64 = .ok (.istore 5, 2) := by decide +kernel
theorem dX12_asked_66 : decode cX12_asked 66 = .ok (.iload 5, 2) := by decide +kernel
theorem dX12_asked_68 : decode cX12_asked 68 = .ok (.bipush 12, 2) := by decide +kernel
theorem dX12_asked_70 : decode cX12_asked 70 = .ok (.if_icmp .ge 55, 3) := by decide +kernel
theorem dX12_asked_73 : decode cX12_asked 73 = .ok (.iload 4, 2) := by decide +kernel
theorem dX12_asked_75 : decode cX12_asked 75 = .ok (.invokestatic 284, 3) := by decide +kernel
theorem dX12_asked_78 : decode cX12_asked 78 = .ok (.iconst 1, 1) := by decide +kernel
theorem dX12_asked_79 : decode cX12_asked 79 = .ok (.if_icmp .le 46, 3) := by decide +kernel
theorem dX12_asked_82 : decode cX12_asked 82 = .ok (.aload_n 0, 1) := by decide +kernel
theorem dX12_asked_83 : decode cX12_asked 83 = .ok (.iload 4, 2) := by decide +kernel
theorem dX12_asked_85 : decode cX12_asked 85 = .ok (.iload 5, 2) := by decide +kernel
theorem dX12_asked_87 : decode cX12_asked 87 = .ok (.invokevirtual 429, 3) := by decide +kernel
theorem dX12_asked_90 : decode cX12_asked 90 = .ok (.istore 6, 2) := by decide +kernel
theorem dX12_asked_92 : decode cX12_asked 92 = .ok (.iload 6, 2) := by decide +kernel
theorem dX12_asked_94 : decode cX12_asked 94 = .ok (.aload_n 0, 1) := by decide +kernel
theorem dX12_asked_95 : decode cX12_asked 95 = .ok (.getfield 71, 3) := by decide +kernel
theorem dX12_asked_98 : decode cX12_asked 98 = .ok (.iload 4, 2) := by decide +kernel
theorem dX12_asked_100 : decode cX12_asked 100 = .ok (.iaload, 1) := by decide +kernel
theorem dX12_asked_101 : decode cX12_asked 101 = .ok (.if_icmp .lt 6, 3) := by decide +kernel
theorem dX12_asked_104 : decode cX12_asked 104 = .ok (.goto 15, 3) := by decide +kernel
theorem dX12_asked_107 : decode cX12_asked 107 = .ok (.aload_n 0, 1) := by decide +kernel
theorem dX12_asked_108 : decode cX12_asked 108 = .ok (.getfield 71, 3) := by decide +kernel
theorem dX12_asked_111 : decode cX12_asked 111 = .ok (.iload 4, 2) := by decide +kernel
theorem dX12_asked_113 : decode cX12_asked 113 = .ok (.iload 6, 2) := by decide +kernel
theorem dX12_asked_115 : decode cX12_asked 115 = .ok (.iastore, 1) := by decide +kernel
theorem dX12_asked_116 : decode cX12_asked 116 = .ok (.iload 5, 2) := by decide +kernel
theorem dX12_asked_118 : decode cX12_asked 118 = .ok (.istore_n 3, 1) := by decide +kernel
theorem dX12_asked_119 : decode cX12_asked 119 = .ok (.iinc 5 1, 3) := by decide +kernel
theorem dX12_asked_122 : decode cX12_asked 122 = .ok (.goto (-56), 3) := by decide +kernel
theorem dX12_asked_125 : decode cX12_asked 125 = .ok (.iinc 4 1, 3) := by decide +kernel
theorem dX12_asked_128 : decode cX12_asked 128 = .ok (.goto (-106), 3) := by decide +kernel
theorem dX12_asked_131 : decode cX12_asked 131 = .ok (.iload_n 2, 1) := by decide +kernel
theorem dX12_asked_132 : decode cX12_asked 132 = .ok (.ifCond .eq 19, 3) := by decide +kernel
theorem dX12_asked_135 : decode cX12_asked 135 = .ok (.iload_n 1, 1) := by decide +kernel
theorem dX12_asked_136 : decode cX12_asked 136 = .ok (.invokestatic 284, 3) := by decide +kernel
theorem dX12_asked_139 : decode cX12_asked 139 = .ok (.iconst 2, 1) := by decide +kernel
theorem dX12_asked_140 : decode cX12_asked 140 = .ok (.if_icmp .ge 7, 3) := by decide +kernel
theorem dX12_asked_143 : decode cX12_asked 143 = .ok (.iconst (-1), 1) := by decide +kernel
theorem dX12_asked_144 : decode cX12_asked 144 = .ok (.goto 13, 3) := by decide +kernel
theorem dX12_asked_147 : decode cX12_asked 147 = .ok (.iload_n 3, 1) := by decide +kernel
theorem dX12_asked_148 : decode cX12_asked 148 = .ok (.goto 9, 3) := by decide +kernel
theorem dX12_asked_151 : decode cX12_asked 151 = .ok (.aload_n 0, 1) := by decide +kernel
theorem dX12_asked_152 : decode cX12_asked 152 = .ok (.getfield 71, 3) := by decide +kernel
theorem dX12_asked_155 : decode cX12_asked 155 = .ok (.iload_n 1, 1) := by decide +kernel
theorem dX12_asked_156 : decode cX12_asked 156 = .ok (.iaload, 1) := by decide +kernel
theorem dX12_asked_157 : decode cX12_asked 157 = .ok (.ireturn, 1) := by decide +kernel
set_option maxRecDepth 20000 in
theorem ggX12_painOf_X12_has : GoodIn wsX12_painOf wsX12_has := goodIn_r _ [5] (by decide +kernel) (by decide +kernel)
set_option maxRecDepth 20000 in
theorem gX12_painOf_X12_has : GoodIn wsX12_painOf (va_wsS RX12 96 yX12_has wsX12_has) := goodIn_app (goodIn_of _ (by decide +kernel)) ggX12_painOf_X12_has
theorem dX12_painOf_0 : decode cX12_painOf 0 = .ok (.iconst 0, 1) := by decide +kernel
theorem dX12_painOf_1 : decode cX12_painOf 1 = .ok (.istore_n 2, 1) := by decide +kernel
theorem dX12_painOf_2 : decode cX12_painOf 2 = .ok (.iconst 0, 1) := by decide +kernel
theorem dX12_painOf_3 : decode cX12_painOf 3 = .ok (.istore_n 3, 1) := by decide +kernel
theorem dX12_painOf_4 : decode cX12_painOf 4 = .ok (.iload_n 3, 1) := by decide +kernel
theorem dX12_painOf_5 : decode cX12_painOf 5 = .ok (.bipush 12, 2) := by decide +kernel
theorem dX12_painOf_7 : decode cX12_painOf 7 = .ok (.if_icmp .ge 33, 3) := by decide +kernel
theorem dX12_painOf_10 : decode cX12_painOf 10 = .ok (.iload_n 2, 1) := by decide +kernel
theorem dX12_painOf_11 : decode cX12_painOf 11 = .ok (.iload_n 1, 1) := by decide +kernel
theorem dX12_painOf_12 : decode cX12_painOf 12 = .ok (.iload_n 3, 1) := by decide +kernel
theorem dX12_painOf_13 : decode cX12_painOf 13 = .ok (.invokestatic 96, 3) := by decide +kernel
theorem dX12_painOf_16 : decode cX12_painOf 16 = .ok (.ifCond .eq 15, 3) := by decide +kernel
theorem dX12_painOf_19 : decode cX12_painOf 19 = .ok (.aload_n 0, 1) := by decide +kernel
theorem dX12_painOf_20 : decode cX12_painOf 20 = .ok (.getfield 7, 3) := by decide +kernel
theorem dX12_painOf_23 : decode cX12_painOf 23 = .ok (.bipush 49, 2) := by decide +kernel
theorem dX12_painOf_25 : decode cX12_painOf 25 = .ok (.iload_n 3, 1) := by decide +kernel
theorem dX12_painOf_26 : decode cX12_painOf 26 = .ok (.iadd, 1) := by decide +kernel
theorem dX12_painOf_27 : decode cX12_painOf 27 = .ok (.iaload, 1) := by decide +kernel
theorem dX12_painOf_28 : decode cX12_painOf 28 = .ok (.goto 4, 3) := by decide +kernel
theorem dX12_painOf_31 : decode cX12_painOf 31 = .ok (.iconst 0, 1) := by decide +kernel
theorem dX12_painOf_32 : decode cX12_painOf 32 = .ok (.iadd, 1) := by decide +kernel
theorem dX12_painOf_33 : decode cX12_painOf 33 = .ok (.istore_n 2, 1) := by decide +kernel
theorem dX12_painOf_34 : decode cX12_painOf 34 = .ok (.iinc 3 1, 3) := by decide +kernel
theorem dX12_painOf_37 : decode cX12_painOf 37 = .ok (.goto (-33), 3) := by decide +kernel
theorem dX12_painOf_40 : decode cX12_painOf 40 = .ok (.iload_n 2, 1) := by decide +kernel
theorem dX12_painOf_41 : decode cX12_painOf 41 = .ok (.ireturn, 1) := by decide +kernel
set_option maxRecDepth 20000 in
theorem ggX12_cheap_X12_isWant : GoodIn wsX12_cheap wsX12_isWant := goodIn_r _ [5, 6, 7, 4, 8] (by decide +kernel) (by decide +kernel)
set_option maxRecDepth 20000 in
theorem gX12_cheap_X12_isWant : GoodIn wsX12_cheap (va_wsS RX12 100 yX12_isWant wsX12_isWant) := goodIn_app (goodIn_of _ (by decide +kernel)) ggX12_cheap_X12_isWant
set_option maxRecDepth 20000 in
theorem ggX12_cheap_X12_has : GoodIn wsX12_cheap wsX12_has := goodIn_r _ [11] (by decide +kernel) (by decide +kernel)
set_option maxRecDepth 20000 in
theorem gX12_cheap_X12_has : GoodIn wsX12_cheap (va_wsS RX12 96 yX12_has wsX12_has) := goodIn_app (goodIn_of _ (by decide +kernel)) ggX12_cheap_X12_has
set_option maxRecDepth 20000 in
theorem ggX12_cheap_X12_painOf : GoodIn wsX12_cheap wsX12_painOf := goodIn_r _ [15, 1, 9, 10, 4, 11, 28, 29, 30, 31, 32, 33, 34, 35, 36, 37, 38, 39, 40, 41, 42, 43, 44, 45, 46, 47, 48, 49, 50, 51, 52, 53, 54, 55, 56, 57, 58, 59, 60, 61, 62, 63] (by decide +kernel) (by decide +kernel)
set_option maxRecDepth 20000 in
theorem gX12_cheap_X12_painOf : GoodIn wsX12_cheap (wsV RX12 432 RX12 yX12_painOf wsX12_painOf) := goodIn_app (goodIn_of _ (by decide +kernel)) ggX12_cheap_X12_painOf
set_option maxRecDepth 20000 in
theorem ggX12_cheap_X12_bits : GoodIn wsX12_cheap wsX12_bits := goodIn_r _ [18] (by decide +kernel) (by decide +kernel)
set_option maxRecDepth 20000 in
theorem gX12_cheap_X12_bits : GoodIn wsX12_cheap (va_wsS RX12 284 yX12_bits wsX12_bits) := goodIn_app (goodIn_of _ (by decide +kernel)) ggX12_cheap_X12_bits
set_option maxRecDepth 20000 in
theorem ggX12_cheap_X12_isLeading : GoodIn wsX12_cheap wsX12_isLeading := goodIn_r _ [22, 23, 24, 25, 26, 4, 27, 1, 9, 10, 11, 28, 29, 30, 31, 32, 33, 34, 35, 36, 37, 38, 39, 40, 41, 42, 43, 44, 45, 46, 47, 48, 49, 50, 51, 52, 53, 54, 55, 56, 57, 58, 59, 60, 61, 62, 63] (by decide +kernel) (by decide +kernel)
set_option maxRecDepth 20000 in
theorem gX12_cheap_X12_isLeading : GoodIn wsX12_cheap (wsV RX12 416 RX12 yX12_isLeading wsX12_isLeading) := goodIn_app (goodIn_of _ (by decide +kernel)) ggX12_cheap_X12_isLeading
theorem dX12_cheap_0 : decode cX12_cheap 0 = .ok (.iload_n 1, 1) := by decide +kernel
theorem dX12_cheap_1 : decode cX12_cheap 1 = .ok (.invokestatic 100, 3) := by decide +kernel
theorem dX12_cheap_4 : decode cX12_cheap 4 = .ok (.ifCond .eq 31, 3) := by decide +kernel
theorem dX12_cheap_7 : decode cX12_cheap 7 = .ok (.iload_n 2, 1) := by decide +kernel
theorem dX12_cheap_8 : decode cX12_cheap 8 = .ok (.invokestatic 100, 3) := by decide +kernel
theorem dX12_cheap_11 : decode cX12_cheap 11 = .ok (.ifCond .eq 24, 3) := by decide +kernel
theorem dX12_cheap_14 : decode cX12_cheap 14 = .ok (.iload_n 1, 1) := by decide +kernel
theorem dX12_cheap_15 : decode cX12_cheap 15 = .ok (.iload_n 2, 1) := by decide +kernel
theorem dX12_cheap_16 : decode cX12_cheap 16 = .ok (.if_icmp .eq 19, 3) := by decide +kernel
theorem dX12_cheap_19 : decode cX12_cheap 19 = .ok (.aload_n 0, 1) := by decide +kernel
theorem dX12_cheap_20 : decode cX12_cheap 20 = .ok (.getfield 7, 3) := by decide +kernel
theorem dX12_cheap_23 : decode cX12_cheap 23 = .ok (.bipush 61, 2) := by decide +kernel
theorem dX12_cheap_25 : decode cX12_cheap 25 = .ok (.iload_n 1, 1) := by decide +kernel
theorem dX12_cheap_26 : decode cX12_cheap 26 = .ok (.iadd, 1) := by decide +kernel
theorem dX12_cheap_27 : decode cX12_cheap 27 = .ok (.iaload, 1) := by decide +kernel
theorem dX12_cheap_28 : decode cX12_cheap 28 = .ok (.iload_n 2, 1) := by decide +kernel
theorem dX12_cheap_29 : decode cX12_cheap 29 = .ok (.invokestatic 96, 3) := by decide +kernel
theorem dX12_cheap_32 : decode cX12_cheap 32 = .ok (.ifCond .eq 5, 3) := by decide +kernel
theorem dX12_cheap_35 : decode cX12_cheap 35 = .ok (.iconst (-1), 1) := by decide +kernel
theorem dX12_cheap_36 : decode cX12_cheap 36 = .ok (.ireturn, 1) := by decide +kernel
theorem dX12_cheap_37 : decode cX12_cheap 37 = .ok (.sipush 4095, 3) := by decide +kernel
theorem dX12_cheap_40 : decode cX12_cheap 40 = .ok (.iconst 1, 1) := by decide +kernel
theorem dX12_cheap_41 : decode cX12_cheap 41 = .ok (.iload_n 1, 1) := by decide +kernel
theorem dX12_cheap_42 : decode cX12_cheap 42 = .ok (.ishl, 1) := by decide +kernel
theorem dX12_cheap_43 : decode cX12_cheap 43 = .ok (.iconst (-1), 1) := by decide +kernel
theorem dX12_cheap_44 : decode cX12_cheap 44 = .ok (.ixor, 1) := by decide +kernel
theorem dX12_cheap_45 : decode cX12_cheap 45 = .ok (.iand, 1) := by decide +kernel
theorem dX12_cheap_46 : decode cX12_cheap 46 = .ok (.iconst 1, 1) := by decide +kernel
theorem dX12_cheap_47 : decode cX12_cheap 47 = .ok (.iload_n 2, 1) := by decide +kernel
theorem dX12_cheap_48 : decode cX12_cheap 48 = .ok (.ishl, 1) := by decide +kernel
theorem dX12_cheap_49 : decode cX12_cheap 49 = .ok (.iconst (-1), 1) := by decide +kernel
theorem dX12_cheap_50 : decode cX12_cheap 50 = .ok (.ixor, 1) := by decide +kernel
theorem dX12_cheap_51 : decode cX12_cheap 51 = .ok (.iand, 1) := by decide +kernel
theorem dX12_cheap_52 : decode cX12_cheap 52 = .ok (.istore 4, 2) := by decide +kernel
theorem dX12_cheap_54 : decode cX12_cheap 54 = .ok (.iload 4, 2) := by decide +kernel
theorem dX12_cheap_56 : decode cX12_cheap 56 = .ok (.istore 5, 2) := by decide +kernel
theorem dX12_cheap_58 : decode cX12_cheap 58 = .ok (.iload 4, 2) := by decide +kernel
theorem dX12_cheap_60 : decode cX12_cheap 60 = .ok (.istore 6, 2) := by decide +kernel
theorem dX12_cheap_62 : decode cX12_cheap 62 = .ok (.iload 6, 2) := by decide +kernel
theorem dX12_cheap_64 : decode cX12_cheap 64 = .ok (.ifCond .lt 75, 3) := by decide +kernel
theorem dX12_cheap_67 : decode cX12_cheap 67 = .ok (.iload 6, 2) := by decide +kernel
theorem dX12_cheap_69 : decode cX12_cheap 69 = .ok (.iload 4, 2) := by decide +kernel
theorem dX12_cheap_71 : decode cX12_cheap 71 = .ok (.iconst (-1), 1) := by decide +kernel
theorem dX12_cheap_72 : decode cX12_cheap 72 = .ok (.ixor, 1) := by decide +kernel
theorem dX12_cheap_73 : decode cX12_cheap 73 = .ok (.iand, 1) := by decide +kernel
theorem dX12_cheap_74 : decode cX12_cheap 74 = .ok (.ifCond .eq 6, 3) := by decide +kernel
theorem dX12_cheap_77 : decode cX12_cheap 77 = .ok (.goto 56, 3) := by decide +kernel
theorem dX12_cheap_80 : decode cX12_cheap 80 = .ok (.aload_n 0, 1) := by decide +kernel
theorem dX12_cheap_81 : decode cX12_cheap 81 = .ok (.iload 6, 2) := by decide +kernel
theorem dX12_cheap_83 : decode cX12_cheap 83 = .ok (.invokevirtual 432, 3) := by decide +kernel
theorem dX12_cheap_86 : decode cX12_cheap 86 = .ok (.aload_n 0, 1) := by decide +kernel
theorem dX12_cheap_87 : decode cX12_cheap 87 = .ok (.iload 5, 2) := by decide +kernel
theorem dX12_cheap_89 : decode cX12_cheap 89 = .ok (.invokevirtual 432, 3) := by decide +kernel
theorem dX12_cheap_92 : decode cX12_cheap 92 = .ok (.isub, 1) := by decide +kernel
theorem dX12_cheap_93 : decode cX12_cheap 93 = .ok (.istore 7, 2) := by decide +kernel
theorem dX12_cheap_95 : decode cX12_cheap 95 = .ok (.iload 7, 2) := by decide +kernel
theorem dX12_cheap_97 : decode cX12_cheap 97 = .ok (.ifCond .ne 16, 3) := by decide +kernel
theorem dX12_cheap_100 : decode cX12_cheap 100 = .ok (.iload 6, 2) := by decide +kernel
theorem dX12_cheap_102 : decode cX12_cheap 102 = .ok (.invokestatic 284, 3) := by decide +kernel
theorem dX12_cheap_105 : decode cX12_cheap 105 = .ok (.iload 5, 2) := by decide +kernel
theorem dX12_cheap_107 : decode cX12_cheap 107 = .ok (.invokestatic 284, 3) := by decide +kernel
theorem dX12_cheap_110 : decode cX12_cheap 110 = .ok (.isub, 1) := by decide +kernel
theorem dX12_cheap_111 : decode cX12_cheap 111 = .ok (.istore 7, 2) := by decide +kernel
theorem dX12_cheap_113 : decode cX12_cheap 113 = .ok (.iload 7, 2) := by decide +kernel
theorem dX12_cheap_115 : decode cX12_cheap 115 = .ok (.ifCond .gt 18, 3) := by decide +kernel
theorem dX12_cheap_118 : decode cX12_cheap 118 = .ok (.aload_n 0, 1) := by decide +kernel
theorem dX12_cheap_119 : decode cX12_cheap 119 = .ok (.iload_n 1, 1) := by decide +kernel
theorem dX12_cheap_120 : decode cX12_cheap 120 = .ok (.iload_n 2, 1) := by decide +kernel
theorem dX12_cheap_121 : decode cX12_cheap 121 = .ok (.iload 6, 2) := by decide +kernel
theorem dX12_cheap_123 : decode cX12_cheap 123 = .ok (.invokevirtual 416, 3) := by decide +kernel
theorem dX12_cheap_126 : decode cX12_cheap 126 = .ok (.ifCond .ne 7, 3) := by decide +kernel
theorem dX12_cheap_129 : decode cX12_cheap 129 = .ok (.iload 6, 2) := by decide +kernel
theorem dX12_cheap_131 : decode cX12_cheap 131 = .ok (.istore 5, 2) := by decide +kernel
theorem dX12_cheap_133 : decode cX12_cheap 133 = .ok (.iinc 6 (-1), 3) := by decide +kernel
theorem dX12_cheap_136 : decode cX12_cheap 136 = .ok (.goto (-74), 3) := by decide +kernel
theorem dX12_cheap_139 : decode cX12_cheap 139 = .ok (.iload_n 3, 1) := by decide +kernel
theorem dX12_cheap_140 : decode cX12_cheap 140 = .ok (.ifCond .eq 12, 3) := by decide +kernel
theorem dX12_cheap_143 : decode cX12_cheap 143 = .ok (.aload_n 0, 1) := by decide +kernel
theorem dX12_cheap_144 : decode cX12_cheap 144 = .ok (.iload 5, 2) := by decide +kernel
theorem dX12_cheap_146 : decode cX12_cheap 146 = .ok (.invokevirtual 432, 3) := by decide +kernel
theorem dX12_cheap_149 : decode cX12_cheap 149 = .ok (.goto 5, 3) := by decide +kernel
theorem dX12_cheap_152 : decode cX12_cheap 152 = .ok (.iload 5, 2) := by decide +kernel
theorem dX12_cheap_154 : decode cX12_cheap 154 = .ok (.ireturn, 1) := by decide +kernel
set_option maxRecDepth 20000 in
theorem ggX12_offers_X12_isIn : GoodIn wsX12_offers wsX12_isIn := goodIn_r _ [5] (by decide +kernel) (by decide +kernel)
set_option maxRecDepth 20000 in
theorem gX12_offers_X12_isIn : GoodIn wsX12_offers (va_wsS RX12 84 yX12_isIn wsX12_isIn) := goodIn_app (goodIn_of _ (by decide +kernel)) ggX12_offers_X12_isIn
set_option maxRecDepth 20000 in
theorem ggX12_offers_X12_has : GoodIn wsX12_offers wsX12_has := goodIn_r _ [8] (by decide +kernel) (by decide +kernel)
set_option maxRecDepth 20000 in
theorem gX12_offers_X12_has : GoodIn wsX12_offers (va_wsS RX12 96 yX12_has wsX12_has) := goodIn_app (goodIn_of _ (by decide +kernel)) ggX12_offers_X12_has
theorem dX12_offers_0 : decode cX12_offers 0 = .ok (.iload_n 1, 1) := by decide +kernel
theorem dX12_offers_1 : decode cX12_offers 1 = .ok (.iconst 0, 1) := by decide +kernel
theorem dX12_offers_2 : decode cX12_offers 2 = .ok (.iconst 4, 1) := by decide +kernel
theorem dX12_offers_3 : decode cX12_offers 3 = .ok (.invokestatic 84, 3) := by decide +kernel
theorem dX12_offers_6 : decode cX12_offers 6 = .ok (.ifCond .eq 34, 3) := by decide +kernel
theorem dX12_offers_9 : decode cX12_offers 9 = .ok (.iload_n 2, 1) := by decide +kernel
theorem dX12_offers_10 : decode cX12_offers 10 = .ok (.iconst 0, 1) := by decide +kernel
theorem dX12_offers_11 : decode cX12_offers 11 = .ok (.iconst 4, 1) := by decide +kernel
theorem dX12_offers_12 : decode cX12_offers 12 = .ok (.invokestatic 84, 3) := by decide +kernel
theorem dX12_offers_15 : decode cX12_offers 15 = .ok (.ifCond .eq 25, 3) := by decide +kernel
theorem dX12_offers_18 : decode cX12_offers 18 = .ok (.iload_n 1, 1) := by decide +kernel
theorem dX12_offers_19 : decode cX12_offers 19 = .ok (.iload_n 2, 1) := by decide +kernel
theorem dX12_offers_20 : decode cX12_offers 20 = .ok (.if_icmp .eq 20, 3) := by decide +kernel
theorem dX12_offers_23 : decode cX12_offers 23 = .ok (.aload_n 0, 1) := by decide +kernel
theorem dX12_offers_24 : decode cX12_offers 24 = .ok (.getfield 7, 3) := by decide +kernel
theorem dX12_offers_27 : decode cX12_offers 27 = .ok (.bipush 73, 2) := by decide +kernel
theorem dX12_offers_29 : decode cX12_offers 29 = .ok (.iload_n 1, 1) := by decide +kernel
theorem dX12_offers_30 : decode cX12_offers 30 = .ok (.iadd, 1) := by decide +kernel
theorem dX12_offers_31 : decode cX12_offers 31 = .ok (.iaload, 1) := by decide +kernel
theorem dX12_offers_32 : decode cX12_offers 32 = .ok (.iload_n 2, 1) := by decide +kernel
theorem dX12_offers_33 : decode cX12_offers 33 = .ok (.invokestatic 96, 3) := by decide +kernel
theorem dX12_offers_36 : decode cX12_offers 36 = .ok (.iload_n 3, 1) := by decide +kernel
theorem dX12_offers_37 : decode cX12_offers 37 = .ok (.if_icmp .ne 5, 3) := by decide +kernel
theorem dX12_offers_40 : decode cX12_offers 40 = .ok (.iconst 0, 1) := by decide +kernel
theorem dX12_offers_41 : decode cX12_offers 41 = .ok (.ireturn, 1) := by decide +kernel
theorem dX12_offers_42 : decode cX12_offers 42 = .ok (.aload_n 0, 1) := by decide +kernel
theorem dX12_offers_43 : decode cX12_offers 43 = .ok (.getfield 7, 3) := by decide +kernel
theorem dX12_offers_46 : decode cX12_offers 46 = .ok (.bipush 73, 2) := by decide +kernel
theorem dX12_offers_48 : decode cX12_offers 48 = .ok (.iload_n 1, 1) := by decide +kernel
theorem dX12_offers_49 : decode cX12_offers 49 = .ok (.iadd, 1) := by decide +kernel
theorem dX12_offers_50 : decode cX12_offers 50 = .ok (.dup2, 1) := by decide +kernel
theorem dX12_offers_51 : decode cX12_offers 51 = .ok (.iaload, 1) := by decide +kernel
theorem dX12_offers_52 : decode cX12_offers 52 = .ok (.iconst 1, 1) := by decide +kernel
theorem dX12_offers_53 : decode cX12_offers 53 = .ok (.iload_n 2, 1) := by decide +kernel
theorem dX12_offers_54 : decode cX12_offers 54 = .ok (.ishl, 1) := by decide +kernel
theorem dX12_offers_55 : decode cX12_offers 55 = .ok (.ixor, 1) := by decide +kernel
theorem dX12_offers_56 : decode cX12_offers 56 = .ok (.iastore, 1) := by decide +kernel
theorem dX12_offers_57 : decode cX12_offers 57 = .ok (.iconst 1, 1) := by decide +kernel
theorem dX12_offers_58 : decode cX12_offers 58 = .ok (.ireturn, 1) := by decide +kernel
theorem dX12_layGets_0 : decode cX12_layGets 0 = .ok (.iload_n 1, 1) := by decide +kernel
theorem dX12_layGets_1 : decode cX12_layGets 1 = .ok (.istore_n 2, 1) := by decide +kernel
theorem dX12_layGets_2 : decode cX12_layGets 2 = .ok (.iconst 4, 1) := by decide +kernel
theorem dX12_layGets_3 : decode cX12_layGets 3 = .ok (.istore_n 3, 1) := by decide +kernel
theorem dX12_layGets_4 : decode cX12_layGets 4 = .ok (.iload_n 3, 1) := by decide +kernel
theorem dX12_layGets_5 : decode cX12_layGets 5 = .ok (.ifCond .lt 24, 3) := by decide +kernel
theorem dX12_layGets_8 : decode cX12_layGets 8 = .ok (.aload_n 0, 1) := by decide +kernel
theorem dX12_layGets_9 : decode cX12_layGets 9 = .ok (.getfield 74, 3) := by decide +kernel
theorem dX12_layGets_12 : decode cX12_layGets 12 = .ok (.iload_n 3, 1) := by decide +kernel
theorem dX12_layGets_13 : decode cX12_layGets 13 = .ok (.iload_n 2, 1) := by decide +kernel
theorem dX12_layGets_14 : decode cX12_layGets 14 = .ok (.bipush 6, 2) := by decide +kernel
theorem dX12_layGets_16 : decode cX12_layGets 16 = .ok (.irem, 1) := by decide +kernel
theorem dX12_layGets_17 : decode cX12_layGets 17 = .ok (.iastore, 1) := by decide +kernel
theorem dX12_layGets_18 : decode cX12_layGets 18 = .ok (.iload_n 2, 1) := by decide +kernel
theorem dX12_layGets_19 : decode cX12_layGets 19 = .ok (.bipush 6, 2) := by decide +kernel
theorem dX12_layGets_21 : decode cX12_layGets 21 = .ok (.idiv, 1) := by decide +kernel
theorem dX12_layGets_22 : decode cX12_layGets 22 = .ok (.istore_n 2, 1) := by decide +kernel
theorem dX12_layGets_23 : decode cX12_layGets 23 = .ok (.iinc 3 (-1), 3) := by decide +kernel
theorem dX12_layGets_26 : decode cX12_layGets 26 = .ok (.goto (-22), 3) := by decide +kernel
theorem dX12_layGets_29 : decode cX12_layGets 29 = .ok (.return_, 1) := by decide +kernel
set_option maxRecDepth 20000 in
theorem ggX12_ringed_X12_has : GoodIn wsX12_ringed wsX12_has := goodIn_r _ [6] (by decide +kernel) (by decide +kernel)
set_option maxRecDepth 20000 in
theorem gX12_ringed_X12_has : GoodIn wsX12_ringed (va_wsS RX12 96 yX12_has wsX12_has) := goodIn_app (goodIn_of _ (by decide +kernel)) ggX12_ringed_X12_has
theorem dX12_ringed_0 : decode cX12_ringed 0 = .ok (.iconst 0, 1) := by decide +kernel
theorem dX12_ringed_1 : decode cX12_ringed 1 = .ok (.istore_n 1, 1) := by decide +kernel
theorem dX12_ringed_2 : decode cX12_ringed 2 = .ok (.iconst 0, 1) := by decide +kernel
theorem dX12_ringed_3 : decode cX12_ringed 3 = .ok (.istore_n 2, 1) := by decide +kernel
theorem dX12_ringed_4 : decode cX12_ringed 4 = .ok (.iconst 0, 1) := by decide +kernel
theorem dX12_ringed_5 : decode cX12_ringed 5 = .ok (.istore_n 3, 1) := by decide +kernel
theorem dX12_ringed_6 : decode cX12_ringed 6 = .ok (.iload_n 3, 1) := by decide +kernel
theorem dX12_ringed_7 : decode cX12_ringed 7 = .ok (.iconst 5, 1) := by decide +kernel
theorem dX12_ringed_8 : decode cX12_ringed 8 = .ok (.if_icmp .ge 103, 3) := by decide +kernel
theorem dX12_ringed_11 : decode cX12_ringed 11 = .ok (.aload_n 0, 1) := by decide +kernel
theorem dX12_ringed_12 : decode cX12_ringed 12 = .ok (.getfield 74, 3) := by decide +kernel
theorem dX12_ringed_15 : decode cX12_ringed 15 = .ok (.iload_n 3, 1) := by decide +kernel
theorem dX12_ringed_16 : decode cX12_ringed 16 = .ok (.iaload, 1) := by decide +kernel
theorem dX12_ringed_17 : decode cX12_ringed 17 = .ok (.istore 4, 2) := by decide +kernel
theorem dX12_ringed_19 : decode cX12_ringed 19 = .ok (.iload 4, 2) := by decide +kernel
theorem dX12_ringed_21 : decode cX12_ringed 21 = .ok (.iconst 5, 1) := by decide +kernel
theorem dX12_ringed_22 : decode cX12_ringed 22 = .ok (.if_icmp .ne 6, 3) := by decide +kernel
theorem dX12_ringed_25 : decode cX12_ringed 25 = .ok (.goto 80, 3) := by decide +kernel
theorem dX12_ringed_28 : decode cX12_ringed 28 = .ok (.aload_n 0, 1) := by decide +kernel
theorem dX12_ringed_29 : decode cX12_ringed 29 = .ok (.getfield 7, 3) := by decide +kernel
theorem dX12_ringed_32 : decode cX12_ringed 32 = .ok (.bipush 73, 2) := by decide +kernel
theorem dX12_ringed_34 : decode cX12_ringed 34 = .ok (.iload_n 3, 1) := by decide +kernel
theorem dX12_ringed_35 : decode cX12_ringed 35 = .ok (.iadd, 1) := by decide +kernel
theorem dX12_ringed_36 : decode cX12_ringed 36 = .ok (.iaload, 1) := by decide +kernel
theorem dX12_ringed_37 : decode cX12_ringed 37 = .ok (.iload 4, 2) := by decide +kernel
theorem dX12_ringed_39 : decode cX12_ringed 39 = .ok (.invokestatic 96, 3) := by decide +kernel
theorem dX12_ringed_42 : decode cX12_ringed 42 = .ok (.ifCond .eq 23, 3) := by decide +kernel
theorem dX12_ringed_45 : decode cX12_ringed 45 = .ok (.iload_n 2, 1) := by decide +kernel
theorem dX12_ringed_46 : decode cX12_ringed 46 = .ok (.iload 4, 2) := by decide +kernel
theorem dX12_ringed_48 : decode cX12_ringed 48 = .ok (.invokestatic 96, 3) := by decide +kernel
theorem dX12_ringed_51 : decode cX12_ringed 51 = .ok (.ifCond .ne 14, 3) := by decide +kernel
theorem dX12_ringed_54 : decode cX12_ringed 54 = .ok (.aload_n 0, 1) := by decide +kernel
theorem dX12_ringed_55 : decode cX12_ringed 55 = .ok (.getfield 74, 3) := by decide +kernel
theorem dX12_ringed_58 : decode cX12_ringed 58 = .ok (.iload 4, 2) := by decide +kernel
theorem dX12_ringed_60 : decode cX12_ringed 60 = .ok (.iaload, 1) := by decide +kernel
theorem dX12_ringed_61 : decode cX12_ringed 61 = .ok (.iconst 5, 1) := by decide +kernel
theorem dX12_ringed_62 : decode cX12_ringed 62 = .ok (.if_icmp .ne 5, 3) := by decide +kernel
theorem dX12_ringed_65 : decode cX12_ringed 65 = .ok (.iconst (-1), 1) := by decide +kernel
theorem dX12_ringed_66 : decode cX12_ringed 66 = .ok (.ireturn, 1) := by decide +kernel
theorem dX12_ringed_67 : decode cX12_ringed 67 = .ok (.aload_n 0, 1) := by decide +kernel
theorem dX12_ringed_68 : decode cX12_ringed 68 = .ok (.getfield 74, 3) := by decide +kernel
theorem dX12_ringed_71 : decode cX12_ringed 71 = .ok (.iload 4, 2) := by decide +kernel
theorem dX12_ringed_73 : decode cX12_ringed 73 = .ok (.iaload, 1) := by decide +kernel
theorem dX12_ringed_74 : decode cX12_ringed 74 = .ok (.istore 5, 2) := by decide +kernel
theorem dX12_ringed_76 : decode cX12_ringed 76 = .ok (.iload 5, 2) := by decide +kernel
theorem dX12_ringed_78 : decode cX12_ringed 78 = .ok (.iload_n 3, 1) := by decide +kernel
theorem dX12_ringed_79 : decode cX12_ringed 79 = .ok (.if_icmp .eq 16, 3) := by decide +kernel
theorem dX12_ringed_82 : decode cX12_ringed 82 = .ok (.aload_n 0, 1) := by decide +kernel
theorem dX12_ringed_83 : decode cX12_ringed 83 = .ok (.getfield 74, 3) := by decide +kernel
theorem dX12_ringed_86 : decode cX12_ringed 86 = .ok (.iload 5, 2) := by decide +kernel
theorem dX12_ringed_88 : decode cX12_ringed 88 = .ok (.iaload, 1) := by decide +kernel
theorem dX12_ringed_89 : decode cX12_ringed 89 = .ok (.iload_n 3, 1) := by decide +kernel
theorem dX12_ringed_90 : decode cX12_ringed 90 = .ok (.if_icmp .eq 5, 3) := by decide +kernel
theorem dX12_ringed_93 : decode cX12_ringed 93 = .ok (.iconst (-1), 1) := by decide +kernel
theorem dX12_ringed_94 : decode cX12_ringed 94 = .ok (.ireturn, 1) := by decide +kernel
theorem dX12_ringed_95 : decode cX12_ringed 95 = .ok (.iload_n 2, 1) := by decide +kernel
theorem dX12_ringed_96 : decode cX12_ringed 96 = .ok (.iconst 1, 1) := by decide +kernel
theorem dX12_ringed_97 : decode cX12_ringed 97 = .ok (.iload 4, 2) := by decide +kernel
theorem dX12_ringed_99 : decode cX12_ringed 99 = .ok (.ishl, 1) := by decide +kernel
theorem dX12_ringed_100 : decode cX12_ringed 100 = .ok (.ior, 1) := by decide +kernel
theorem dX12_ringed_101 : decode cX12_ringed 101 = .ok (.istore_n 2, 1) := by decide +kernel
theorem dX12_ringed_102 : decode cX12_ringed 102 = .ok (.iinc 1 1, 3) := by decide +kernel
theorem dX12_ringed_105 : decode cX12_ringed 105 = .ok (.iinc 3 1, 3) := by decide +kernel
theorem dX12_ringed_108 : decode cX12_ringed 108 = .ok (.goto (-102), 3) := by decide +kernel
theorem dX12_ringed_111 : decode cX12_ringed 111 = .ok (.iload_n 1, 1) := by decide +kernel
theorem dX12_ringed_112 : decode cX12_ringed 112 = .ok (.ireturn, 1) := by decide +kernel
set_option maxRecDepth 20000 in
theorem ggX12_layRings_X12_layGets : GoodIn wsX12_layRings wsX12_layGets := goodIn_r _ [7, 2, 16, 17, 18, 19, 20, 21, 22, 23, 24, 25, 26, 27, 28, 29, 30, 31, 32, 33, 34, 35, 36, 37, 38, 39, 40, 41, 42, 43, 44, 45, 46, 47, 48, 49, 50, 51] (by decide +kernel) (by decide +kernel)
set_option maxRecDepth 20000 in
theorem gX12_layRings_X12_layGets : GoodIn wsX12_layRings (wsV RX12 435 RX12 yX12_layGets wsX12_layGets) := goodIn_app (goodIn_of _ (by decide +kernel)) ggX12_layRings_X12_layGets
set_option maxRecDepth 20000 in
theorem ggX12_layRings_X12_ringed : GoodIn wsX12_layRings wsX12_ringed := goodIn_r _ [11, 2, 12, 13, 14, 6, 15, 16, 17, 18, 19, 20, 21, 22, 23, 24, 25, 26, 27, 28, 29, 30, 31, 32, 33, 34, 35, 36, 37, 38, 39, 40, 41, 42, 43, 44, 45, 46, 47, 48, 49, 50, 51] (by decide +kernel) (by decide +kernel)
set_option maxRecDepth 20000 in
theorem gX12_layRings_X12_ringed : GoodIn wsX12_layRings (wsV RX12 438 RX12 yX12_ringed wsX12_ringed) := goodIn_app (goodIn_of _ (by decide +kernel)) ggX12_layRings_X12_ringed
theorem dX12_layRings_0 : decode cX12_layRings 0 = .ok (.iconst (-1), 1) := by decide +kernel
theorem dX12_layRings_1 : decode cX12_layRings 1 = .ok (.istore_n 1, 1) := by decide +kernel
theorem dX12_layRings_2 : decode cX12_layRings 2 = .ok (.iconst 0, 1) := by decide +kernel
theorem dX12_layRings_3 : decode cX12_layRings 3 = .ok (.istore_n 2, 1) := by decide +kernel
theorem dX12_layRings_4 : decode cX12_layRings 4 = .ok (.iload_n 2, 1) := by decide +kernel
theorem dX12_layRings_5 : decode cX12_layRings 5 = .ok (.sipush 7776, 3) := by decide +kernel
theorem dX12_layRings_8 : decode cX12_layRings 8 = .ok (.if_icmp .ge 58, 3) := by decide +kernel
theorem dX12_layRings_11 : decode cX12_layRings 11 = .ok (.aload_n 0, 1) := by decide +kernel
theorem dX12_layRings_12 : decode cX12_layRings 12 = .ok (.iload_n 2, 1) := by decide +kernel
theorem dX12_layRings_13 : decode cX12_layRings 13 = .ok (.invokevirtual 435, 3) := by decide +kernel
theorem dX12_layRings_16 : decode cX12_layRings 16 = .ok (.aload_n 0, 1) := by decide +kernel
theorem dX12_layRings_17 : decode cX12_layRings 17 = .ok (.invokevirtual 438, 3) := by decide +kernel
theorem dX12_layRings_20 : decode cX12_layRings 20 = .ok (.istore_n 3, 1) := by decide +kernel
theorem dX12_layRings_21 : decode cX12_layRings 21 = .ok (.iload_n 3, 1) := by decide +kernel
theorem dX12_layRings_22 : decode cX12_layRings 22 = .ok (.iload_n 1, 1) := by decide +kernel
theorem dX12_layRings_23 : decode cX12_layRings 23 = .ok (.if_icmp .gt 6, 3) := by decide +kernel
theorem dX12_layRings_26 : decode cX12_layRings 26 = .ok (.goto 34, 3) := by decide +kernel
theorem dX12_layRings_29 : decode cX12_layRings 29 = .ok (.iload_n 3, 1) := by decide +kernel
theorem dX12_layRings_30 : decode cX12_layRings 30 = .ok (.istore_n 1, 1) := by decide +kernel
theorem dX12_layRings_31 : decode cX12_layRings 31 = .ok (.iconst 0, 1) := by decide +kernel
theorem dX12_layRings_32 : decode cX12_layRings 32 = .ok (.istore 4, 2) := by decide +kernel
theorem dX12_layRings_34 : decode cX12_layRings 34 = .ok (.iload 4, 2) := by decide +kernel
theorem dX12_layRings_36 : decode cX12_layRings 36 = .ok (.iconst 5, 1) := by decide +kernel
theorem dX12_layRings_37 : decode cX12_layRings 37 = .ok (.if_icmp .ge 23, 3) := by decide +kernel
theorem dX12_layRings_40 : decode cX12_layRings 40 = .ok (.aload_n 0, 1) := by decide +kernel
theorem dX12_layRings_41 : decode cX12_layRings 41 = .ok (.getfield 77, 3) := by decide +kernel
theorem dX12_layRings_44 : decode cX12_layRings 44 = .ok (.iload 4, 2) := by decide +kernel
theorem dX12_layRings_46 : decode cX12_layRings 46 = .ok (.aload_n 0, 1) := by decide +kernel
theorem dX12_layRings_47 : decode cX12_layRings 47 = .ok (.getfield 74, 3) := by decide +kernel
theorem dX12_layRings_50 : decode cX12_layRings 50 = .ok (.iload 4, 2) := by decide +kernel
theorem dX12_layRings_52 : decode cX12_layRings 52 = .ok (.iaload, 1) := by decide +kernel
theorem dX12_layRings_53 : decode cX12_layRings 53 = .ok (.iastore, 1) := by decide +kernel
theorem dX12_layRings_54 : decode cX12_layRings 54 = .ok (.iinc 4 1, 3) := by decide +kernel
theorem dX12_layRings_57 : decode cX12_layRings 57 = .ok (.goto (-23), 3) := by decide +kernel
theorem dX12_layRings_60 : decode cX12_layRings 60 = .ok (.iinc 2 1, 3) := by decide +kernel
theorem dX12_layRings_63 : decode cX12_layRings 63 = .ok (.goto (-59), 3) := by decide +kernel
theorem dX12_layRings_66 : decode cX12_layRings 66 = .ok (.iload_n 1, 1) := by decide +kernel
theorem dX12_layRings_67 : decode cX12_layRings 67 = .ok (.ireturn, 1) := by decide +kernel
set_option maxRecDepth 20000 in
theorem ggX12_rings_X12_layRings : GoodIn wsX12_rings wsX12_layRings := goodIn_r _ [6, 1, 7, 8, 9, 10, 5, 11, 12, 13, 14, 15, 16, 17, 18, 19, 20, 21, 22, 23, 24, 25, 26, 27, 28, 29, 30, 31, 32, 33, 34, 35, 36, 37, 38, 39, 40, 41, 42, 43, 44, 45, 46, 47, 48, 49, 50, 51, 52, 53, 54, 55] (by decide +kernel) (by decide +kernel)
set_option maxRecDepth 20000 in
theorem gX12_rings_X12_layRings : GoodIn wsX12_rings (wsV RX12 441 RX12 yX12_layRings wsX12_layRings) := goodIn_app (goodIn_of _ (by decide +kernel)) ggX12_rings_X12_layRings
theorem dX12_rings_0 : decode cX12_rings 0 = .ok (.aload_n 0, 1) := by decide +kernel
theorem dX12_rings_1 : decode cX12_rings 1 = .ok (.invokevirtual 441, 3) := by decide +kernel
theorem dX12_rings_4 : decode cX12_rings 4 = .ok (.istore_n 2, 1) := by decide +kernel
theorem dX12_rings_5 : decode cX12_rings 5 = .ok (.iconst 0, 1) := by decide +kernel
theorem dX12_rings_6 : decode cX12_rings 6 = .ok (.istore_n 3, 1) := by decide +kernel
theorem dX12_rings_7 : decode cX12_rings 7 = .ok (.iconst 0, 1) := by decide +kernel
theorem dX12_rings_8 : decode cX12_rings 8 = .ok (.istore 4, 2) := by decide +kernel
theorem dX12_rings_10 : decode cX12_rings 10 = .ok (.iload 4, 2) := by decide +kernel
theorem dX12_rings_12 : decode cX12_rings 12 = .ok (.iconst 5, 1) := by decide +kernel
theorem dX12_rings_13 : decode cX12_rings 13 = .ok (.if_icmp .ge 31, 3) := by decide +kernel
theorem dX12_rings_16 : decode cX12_rings 16 = .ok (.iload_n 3, 1) := by decide +kernel
theorem dX12_rings_17 : decode cX12_rings 17 = .ok (.aload_n 0, 1) := by decide +kernel
theorem dX12_rings_18 : decode cX12_rings 18 = .ok (.getfield 77, 3) := by decide +kernel
theorem dX12_rings_21 : decode cX12_rings 21 = .ok (.iload 4, 2) := by decide +kernel
theorem dX12_rings_23 : decode cX12_rings 23 = .ok (.iaload, 1) := by decide +kernel
theorem dX12_rings_24 : decode cX12_rings 24 = .ok (.iconst 5, 1) := by decide +kernel
theorem dX12_rings_25 : decode cX12_rings 25 = .ok (.if_icmp .eq 10, 3) := by decide +kernel
theorem dX12_rings_28 : decode cX12_rings 28 = .ok (.iconst 1, 1) := by decide +kernel
theorem dX12_rings_29 : decode cX12_rings 29 = .ok (.iload 4, 2) := by decide +kernel
theorem dX12_rings_31 : decode cX12_rings 31 = .ok (.ishl, 1) := by decide +kernel
theorem dX12_rings_32 : decode cX12_rings 32 = .ok (.goto 4, 3) := by decide +kernel
theorem dX12_rings_35 : decode cX12_rings 35 = .ok (.iconst 0, 1) := by decide +kernel
theorem dX12_rings_36 : decode cX12_rings 36 = .ok (.ior, 1) := by decide +kernel
theorem dX12_rings_37 : decode cX12_rings 37 = .ok (.istore_n 3, 1) := by decide +kernel
theorem dX12_rings_38 : decode cX12_rings 38 = .ok (.iinc 4 1, 3) := by decide +kernel
theorem dX12_rings_41 : decode cX12_rings 41 = .ok (.goto (-31), 3) := by decide +kernel
theorem dX12_rings_44 : decode cX12_rings 44 = .ok (.iload_n 1, 1) := by decide +kernel
theorem dX12_rings_45 : decode cX12_rings 45 = .ok (.ifCond .eq 7, 3) := by decide +kernel
theorem dX12_rings_48 : decode cX12_rings 48 = .ok (.iload_n 2, 1) := by decide +kernel
theorem dX12_rings_49 : decode cX12_rings 49 = .ok (.goto 4, 3) := by decide +kernel
theorem dX12_rings_52 : decode cX12_rings 52 = .ok (.iload_n 3, 1) := by decide +kernel
theorem dX12_rings_53 : decode cX12_rings 53 = .ok (.ireturn, 1) := by decide +kernel
set_option maxRecDepth 20000 in
theorem ggX12_ring_X12_isIn : GoodIn wsX12_ring wsX12_isIn := goodIn_r _ [5] (by decide +kernel) (by decide +kernel)
set_option maxRecDepth 20000 in
theorem gX12_ring_X12_isIn : GoodIn wsX12_ring (va_wsS RX12 84 yX12_isIn wsX12_isIn) := goodIn_app (goodIn_of _ (by decide +kernel)) ggX12_ring_X12_isIn
set_option maxRecDepth 20000 in
theorem ggX12_ring_X12_layRings : GoodIn wsX12_ring wsX12_layRings := goodIn_r _ [9, 1, 10, 11, 12, 13, 4, 14, 15, 16, 17, 18, 19, 20, 21, 22, 23, 24, 25, 26, 27, 28, 29, 30, 31, 32, 33, 34, 35, 36, 37, 38, 39, 40, 41, 42, 43, 44, 45, 46, 47, 48, 49, 50, 51, 52, 53, 54, 55, 56, 57, 58] (by decide +kernel) (by decide +kernel)
set_option maxRecDepth 20000 in
theorem gX12_ring_X12_layRings : GoodIn wsX12_ring (wsV RX12 441 RX12 yX12_layRings wsX12_layRings) := goodIn_app (goodIn_of _ (by decide +kernel)) ggX12_ring_X12_layRings
theorem dX12_ring_0 : decode cX12_ring 0 = .ok (.iload_n 1, 1) := by decide +kernel
theorem dX12_ring_1 : decode cX12_ring 1 = .ok (.iconst 0, 1) := by decide +kernel
theorem dX12_ring_2 : decode cX12_ring 2 = .ok (.iconst 4, 1) := by decide +kernel
theorem dX12_ring_3 : decode cX12_ring 3 = .ok (.invokestatic 84, 3) := by decide +kernel
theorem dX12_ring_6 : decode cX12_ring 6 = .ok (.ifCond .ne 5, 3) := by decide +kernel
theorem dX12_ring_9 : decode cX12_ring 9 = .ok (.iconst (-1), 1) := by decide +kernel
theorem dX12_ring_10 : decode cX12_ring 10 = .ok (.ireturn, 1) := by decide +kernel
theorem dX12_ring_11 : decode cX12_ring 11 = .ok (.aload_n 0, 1) := by decide +kernel
theorem dX12_ring_12 : decode cX12_ring 12 = .ok (.invokevirtual 441, 3) := by decide +kernel
theorem dX12_ring_15 : decode cX12_ring 15 = .ok (.pop, 1) := by decide +kernel
theorem dX12_ring_16 : decode cX12_ring 16 = .ok (.aload_n 0, 1) := by decide +kernel
theorem dX12_ring_17 : decode cX12_ring 17 = .ok (.getfield 77, 3) := by decide +kernel
theorem dX12_ring_20 : decode cX12_ring 20 = .ok (.iload_n 1, 1) := by decide +kernel
theorem dX12_ring_21 : decode cX12_ring 21 = .ok (.iaload, 1) := by decide +kernel
theorem dX12_ring_22 : decode cX12_ring 22 = .ok (.iconst 5, 1) := by decide +kernel
theorem dX12_ring_23 : decode cX12_ring 23 = .ok (.if_icmp .ne 7, 3) := by decide +kernel
theorem dX12_ring_26 : decode cX12_ring 26 = .ok (.iconst (-1), 1) := by decide +kernel
theorem dX12_ring_27 : decode cX12_ring 27 = .ok (.goto 9, 3) := by decide +kernel
theorem dX12_ring_30 : decode cX12_ring 30 = .ok (.aload_n 0, 1) := by decide +kernel
theorem dX12_ring_31 : decode cX12_ring 31 = .ok (.getfield 77, 3) := by decide +kernel
theorem dX12_ring_34 : decode cX12_ring 34 = .ok (.iload_n 1, 1) := by decide +kernel
theorem dX12_ring_35 : decode cX12_ring 35 = .ok (.iaload, 1) := by decide +kernel
theorem dX12_ring_36 : decode cX12_ring 36 = .ok (.ireturn, 1) := by decide +kernel
set_option maxRecDepth 20000 in
theorem ggX12_grant_X12_isIn : GoodIn wsX12_grant wsX12_isIn := goodIn_r _ [5] (by decide +kernel) (by decide +kernel)
set_option maxRecDepth 20000 in
theorem gX12_grant_X12_isIn : GoodIn wsX12_grant (va_wsS RX12 84 yX12_isIn wsX12_isIn) := goodIn_app (goodIn_of _ (by decide +kernel)) ggX12_grant_X12_isIn
theorem dX12_grant_0 : decode cX12_grant 0 = .ok (.iload_n 1, 1) := by decide +kernel
theorem dX12_grant_1 : decode cX12_grant 1 = .ok (.iconst 0, 1) := by decide +kernel
theorem dX12_grant_2 : decode cX12_grant 2 = .ok (.iconst 4, 1) := by decide +kernel
theorem dX12_grant_3 : decode cX12_grant 3 = .ok (.invokestatic 84, 3) := by decide +kernel
theorem dX12_grant_6 : decode cX12_grant 6 = .ok (.ifCond .eq 23, 3) := by decide +kernel
theorem dX12_grant_9 : decode cX12_grant 9 = .ok (.iload_n 2, 1) := by decide +kernel
theorem dX12_grant_10 : decode cX12_grant 10 = .ok (.iconst 0, 1) := by decide +kernel
theorem dX12_grant_11 : decode cX12_grant 11 = .ok (.bipush 10, 2) := by decide +kernel
theorem dX12_grant_13 : decode cX12_grant 13 = .ok (.invokestatic 84, 3) := by decide +kernel
theorem dX12_grant_16 : decode cX12_grant 16 = .ok (.ifCond .eq 13, 3) := by decide +kernel
theorem dX12_grant_19 : decode cX12_grant 19 = .ok (.iload_n 3, 1) := by decide +kernel
theorem dX12_grant_20 : decode cX12_grant 20 = .ok (.iconst 0, 1) := by decide +kernel
theorem dX12_grant_21 : decode cX12_grant 21 = .ok (.bipush 99, 2) := by decide +kernel
theorem dX12_grant_23 : decode cX12_grant 23 = .ok (.invokestatic 84, 3) := by decide +kernel
theorem dX12_grant_26 : decode cX12_grant 26 = .ok (.ifCond .ne 5, 3) := by decide +kernel
theorem dX12_grant_29 : decode cX12_grant 29 = .ok (.iconst 0, 1) := by decide +kernel
theorem dX12_grant_30 : decode cX12_grant 30 = .ok (.ireturn, 1) := by decide +kernel
theorem dX12_grant_31 : decode cX12_grant 31 = .ok (.aload_n 0, 1) := by decide +kernel
theorem dX12_grant_32 : decode cX12_grant 32 = .ok (.getfield 7, 3) := by decide +kernel
theorem dX12_grant_35 : decode cX12_grant 35 = .ok (.bipush 78, 2) := by decide +kernel
theorem dX12_grant_37 : decode cX12_grant 37 = .ok (.iload_n 1, 1) := by decide +kernel
theorem dX12_grant_38 : decode cX12_grant 38 = .ok (.iadd, 1) := by decide +kernel
theorem dX12_grant_39 : decode cX12_grant 39 = .ok (.iload_n 2, 1) := by decide +kernel
theorem dX12_grant_40 : decode cX12_grant 40 = .ok (.iastore, 1) := by decide +kernel
theorem dX12_grant_41 : decode cX12_grant 41 = .ok (.aload_n 0, 1) := by decide +kernel
theorem dX12_grant_42 : decode cX12_grant 42 = .ok (.getfield 7, 3) := by decide +kernel
theorem dX12_grant_45 : decode cX12_grant 45 = .ok (.bipush 83, 2) := by decide +kernel
theorem dX12_grant_47 : decode cX12_grant 47 = .ok (.iload_n 1, 1) := by decide +kernel
theorem dX12_grant_48 : decode cX12_grant 48 = .ok (.iadd, 1) := by decide +kernel
theorem dX12_grant_49 : decode cX12_grant 49 = .ok (.iload_n 3, 1) := by decide +kernel
theorem dX12_grant_50 : decode cX12_grant 50 = .ok (.iastore, 1) := by decide +kernel
theorem dX12_grant_51 : decode cX12_grant 51 = .ok (.iconst 1, 1) := by decide +kernel
theorem dX12_grant_52 : decode cX12_grant 52 = .ok (.ireturn, 1) := by decide +kernel
theorem dX12_tens_0 : decode cX12_tens 0 = .ok (.lconst 1, 1) := by decide +kernel
theorem dX12_tens_1 : decode cX12_tens 1 = .ok (.lstore_n 1, 1) := by decide +kernel
theorem dX12_tens_2 : decode cX12_tens 2 = .ok (.iconst 0, 1) := by decide +kernel
theorem dX12_tens_3 : decode cX12_tens 3 = .ok (.istore_n 3, 1) := by decide +kernel
theorem dX12_tens_4 : decode cX12_tens 4 = .ok (.iload_n 3, 1) := by decide +kernel
theorem dX12_tens_5 : decode cX12_tens 5 = .ok (.aload_n 0, 1) := by decide +kernel
theorem dX12_tens_6 : decode cX12_tens 6 = .ok (.getfield 7, 3) := by decide +kernel
theorem dX12_tens_9 : decode cX12_tens 9 = .ok (.iconst 0, 1) := by decide +kernel
theorem dX12_tens_10 : decode cX12_tens 10 = .ok (.iaload, 1) := by decide +kernel
theorem dX12_tens_11 : decode cX12_tens 11 = .ok (.if_icmp .ge 15, 3) := by decide +kernel
theorem dX12_tens_14 : decode cX12_tens 14 = .ok (.lload_n 1, 1) := by decide +kernel
theorem dX12_tens_15 : decode cX12_tens 15 = .ok (.ldc2_w 444, 3) := by decide +kernel
theorem dX12_tens_18 : decode cX12_tens 18 = .ok (.lmul, 1) := by decide +kernel
theorem dX12_tens_19 : decode cX12_tens 19 = .ok (.lstore_n 1, 1) := by decide +kernel
theorem dX12_tens_20 : decode cX12_tens 20 = .ok (.iinc 3 1, 3) := by decide +kernel
theorem dX12_tens_23 : decode cX12_tens 23 = .ok (.goto (-19), 3) := by decide +kernel
theorem dX12_tens_26 : decode cX12_tens 26 = .ok (.lload_n 1, 1) := by decide +kernel
theorem dX12_tens_27 : decode cX12_tens 27 = .ok (.lreturn, 1) := by decide +kernel
set_option maxRecDepth 20000 in
theorem ggX12_within_X12_has : GoodIn wsX12_within wsX12_has := goodIn_r _ [5] (by decide +kernel) (by decide +kernel)
set_option maxRecDepth 20000 in
theorem gX12_within_X12_has : GoodIn wsX12_within (va_wsS RX12 96 yX12_has wsX12_has) := goodIn_app (goodIn_of _ (by decide +kernel)) ggX12_within_X12_has
theorem dX12_within_0 : decode cX12_within 0 = .ok (.lconst 0, 1) := by decide +kernel
theorem dX12_within_1 : decode cX12_within 1 = .ok (.lstore_n 2, 1) := by decide +kernel
theorem dX12_within_2 : decode cX12_within 2 = .ok (.iconst 0, 1) := by decide +kernel
theorem dX12_within_3 : decode cX12_within 3 = .ok (.istore 4, 2) := by decide +kernel
theorem dX12_within_5 : decode cX12_within 5 = .ok (.iload 4, 2) := by decide +kernel
theorem dX12_within_7 : decode cX12_within 7 = .ok (.iconst 1, 1) := by decide +kernel
theorem dX12_within_8 : decode cX12_within 8 = .ok (.aload_n 0, 1) := by decide +kernel
theorem dX12_within_9 : decode cX12_within 9 = .ok (.getfield 7, 3) := by decide +kernel
theorem dX12_within_12 : decode cX12_within 12 = .ok (.iconst 0, 1) := by decide +kernel
theorem dX12_within_13 : decode cX12_within 13 = .ok (.iaload, 1) := by decide +kernel
theorem dX12_within_14 : decode cX12_within 14 = .ok (.ishl, 1) := by decide +kernel
theorem dX12_within_15 : decode cX12_within 15 = .ok (.if_icmp .ge 122, 3) := by decide +kernel
theorem dX12_within_18 : decode cX12_within 18 = .ok (.lconst 1, 1) := by decide +kernel
theorem dX12_within_19 : decode cX12_within 19 = .ok (.lstore 5, 2) := by decide +kernel
theorem dX12_within_21 : decode cX12_within 21 = .ok (.iconst 0, 1) := by decide +kernel
theorem dX12_within_22 : decode cX12_within 22 = .ok (.istore 7, 2) := by decide +kernel
theorem dX12_within_24 : decode cX12_within 24 = .ok (.iconst 0, 1) := by decide +kernel
theorem dX12_within_25 : decode cX12_within 25 = .ok (.istore 8, 2) := by decide +kernel
theorem dX12_within_27 : decode cX12_within 27 = .ok (.iload 8, 2) := by decide +kernel
theorem dX12_within_29 : decode cX12_within 29 = .ok (.aload_n 0, 1) := by decide +kernel
theorem dX12_within_30 : decode cX12_within 30 = .ok (.getfield 7, 3) := by decide +kernel
theorem dX12_within_33 : decode cX12_within 33 = .ok (.iconst 0, 1) := by decide +kernel
theorem dX12_within_34 : decode cX12_within 34 = .ok (.iaload, 1) := by decide +kernel
theorem dX12_within_35 : decode cX12_within 35 = .ok (.if_icmp .ge 81, 3) := by decide +kernel
theorem dX12_within_38 : decode cX12_within 38 = .ok (.lload 5, 2) := by decide +kernel
theorem dX12_within_40 : decode cX12_within 40 = .ok (.iload 4, 2) := by decide +kernel
theorem dX12_within_42 : decode cX12_within 42 = .ok (.iload 8, 2) := by decide +kernel
theorem dX12_within_44 : decode cX12_within 44 = .ok (.invokestatic 96, 3) := by decide +kernel
theorem dX12_within_47 : decode cX12_within 47 = .ok (.ifCond .eq 17, 3) := by decide +kernel
theorem dX12_within_50 : decode cX12_within 50 = .ok (.aload_n 0, 1) := by decide +kernel
theorem dX12_within_51 : decode cX12_within 51 = .ok (.getfield 7, 3) := by decide +kernel
theorem dX12_within_54 : decode cX12_within 54 = .ok (.bipush 78, 2) := by decide +kernel
theorem dX12_within_56 : decode cX12_within 56 = .ok (.iload 8, 2) := by decide +kernel
theorem dX12_within_58 : decode cX12_within 58 = .ok (.iadd, 1) := by decide +kernel
theorem dX12_within_59 : decode cX12_within 59 = .ok (.iaload, 1) := by decide +kernel
theorem dX12_within_60 : decode cX12_within 60 = .ok (.i2l, 1) := by decide +kernel
theorem dX12_within_61 : decode cX12_within 61 = .ok (.goto 17, 3) := by decide +kernel
theorem dX12_within_64 : decode cX12_within 64 = .ok (.bipush 10, 2) := by decide +kernel
theorem dX12_within_66 : decode cX12_within 66 = .ok (.aload_n 0, 1) := by decide +kernel
theorem dX12_within_67 : decode cX12_within 67 = .ok (.getfield 7, 3) := by decide +kernel
theorem dX12_within_70 : decode cX12_within 70 = .ok (.bipush 78, 2) := by decide +kernel
theorem dX12_within_72 : decode cX12_within 72 = .ok (.iload 8, 2) := by decide +kernel
theorem dX12_within_74 : decode cX12_within 74 = .ok (.iadd, 1) := by decide +kernel
theorem dX12_within_75 : decode cX12_within 75 = .ok (.iaload, 1) := by decide +kernel
theorem dX12_within_76 : decode cX12_within 76 = .ok (.isub, 1) := by decide +kernel
theorem dX12_within_77 : decode cX12_within 77 = .ok (.i2l, 1) := by decide +kernel
theorem dX12_within_78 : decode cX12_within 78 = .ok (.lmul, 1) := by decide +kernel
theorem dX12_within_79 : decode cX12_within 79 = .ok (.lstore 5, 2) := by decide +kernel
theorem dX12_within_81 : decode cX12_within 81 = .ok (.iload 7, 2) := by decide +kernel
theorem dX12_within_83 : decode cX12_within 83 = .ok (.iload 4, 2) := by decide +kernel
theorem dX12_within_85 : decode cX12_within 85 = .ok (.iload 8, 2) := by decide +kernel
theorem dX12_within_87 : decode cX12_within 87 = .ok (.invokestatic 96, 3) := by decide +kernel
theorem dX12_within_90 : decode cX12_within 90 = .ok (.ifCond .eq 16, 3) := by decide +kernel
theorem dX12_within_93 : decode cX12_within 93 = .ok (.aload_n 0, 1) := by decide +kernel
theorem dX12_within_94 : decode cX12_within 94 = .ok (.getfield 7, 3) := by decide +kernel
theorem dX12_within_97 : decode cX12_within 97 = .ok (.bipush 83, 2) := by decide +kernel
theorem dX12_within_99 : decode cX12_within 99 = .ok (.iload 8, 2) := by decide +kernel
theorem dX12_within_101 : decode cX12_within 101 = .ok (.iadd, 1) := by decide +kernel
theorem dX12_within_102 : decode cX12_within 102 = .ok (.iaload, 1) := by decide +kernel
theorem dX12_within_103 : decode cX12_within 103 = .ok (.goto 4, 3) := by decide +kernel
theorem dX12_within_106 : decode cX12_within 106 = .ok (.iconst 0, 1) := by decide +kernel
theorem dX12_within_107 : decode cX12_within 107 = .ok (.iadd, 1) := by decide +kernel
theorem dX12_within_108 : decode cX12_within 108 = .ok (.istore 7, 2) := by decide +kernel
theorem dX12_within_110 : decode cX12_within 110 = .ok (.iinc 8 1, 3) := by decide +kernel
theorem dX12_within_113 : decode cX12_within 113 = .ok (.goto (-86), 3) := by decide +kernel
theorem dX12_within_116 : decode cX12_within 116 = .ok (.lload_n 2, 1) := by decide +kernel
theorem dX12_within_117 : decode cX12_within 117 = .ok (.iload 7, 2) := by decide +kernel
theorem dX12_within_119 : decode cX12_within 119 = .ok (.iload_n 1, 1) := by decide +kernel
theorem dX12_within_120 : decode cX12_within 120 = .ok (.if_icmp .gt 8, 3) := by decide +kernel
theorem dX12_within_123 : decode cX12_within 123 = .ok (.lload 5, 2) := by decide +kernel
theorem dX12_within_125 : decode cX12_within 125 = .ok (.goto 4, 3) := by decide +kernel
theorem dX12_within_128 : decode cX12_within 128 = .ok (.lconst 0, 1) := by decide +kernel
theorem dX12_within_129 : decode cX12_within 129 = .ok (.ladd, 1) := by decide +kernel
theorem dX12_within_130 : decode cX12_within 130 = .ok (.lstore_n 2, 1) := by decide +kernel
theorem dX12_within_131 : decode cX12_within 131 = .ok (.iinc 4 1, 3) := by decide +kernel
theorem dX12_within_134 : decode cX12_within 134 = .ok (.goto (-129), 3) := by decide +kernel
theorem dX12_within_137 : decode cX12_within 137 = .ok (.lload_n 2, 1) := by decide +kernel
theorem dX12_within_138 : decode cX12_within 138 = .ok (.lreturn, 1) := by decide +kernel
theorem dX12_divisor_0 : decode cX12_divisor 0 = .ok (.lload_n 0, 1) := by decide +kernel
theorem dX12_divisor_1 : decode cX12_divisor 1 = .ok (.lstore 4, 2) := by decide +kernel
theorem dX12_divisor_3 : decode cX12_divisor 3 = .ok (.lload_n 2, 1) := by decide +kernel
theorem dX12_divisor_4 : decode cX12_divisor 4 = .ok (.lstore 6, 2) := by decide +kernel
theorem dX12_divisor_6 : decode cX12_divisor 6 = .ok (.lload 6, 2) := by decide +kernel
theorem dX12_divisor_8 : decode cX12_divisor 8 = .ok (.lconst 0, 1) := by decide +kernel
theorem dX12_divisor_9 : decode cX12_divisor 9 = .ok (.lcmp, 1) := by decide +kernel
theorem dX12_divisor_10 : decode cX12_divisor 10 = .ok (.ifCond .eq 21, 3) := by decide +kernel
theorem dX12_divisor_13 : decode cX12_divisor 13 = .ok (.lload 4, 2) := by decide +kernel
theorem dX12_divisor_15 : decode cX12_divisor 15 = .ok (.lload 6, 2) := by decide +kernel
theorem dX12_divisor_17 : decode cX12_divisor 17 = .ok (.lrem, 1) := by decide +kernel
theorem dX12_divisor_18 : decode cX12_divisor 18 = .ok (.lstore 8, 2) := by decide +kernel
theorem dX12_divisor_20 : decode cX12_divisor 20 = .ok (.lload 6, 2) := by decide +kernel
theorem dX12_divisor_22 : decode cX12_divisor 22 = .ok (.lstore 4, 2) := by decide +kernel
theorem dX12_divisor_24 : decode cX12_divisor 24 = .ok (.lload 8, 2) := by decide +kernel
theorem dX12_divisor_26 : decode cX12_divisor 26 = .ok (.lstore 6, 2) := by decide +kernel
theorem dX12_divisor_28 : decode cX12_divisor 28 = .ok (.goto (-22), 3) := by decide +kernel
theorem dX12_divisor_31 : decode cX12_divisor 31 = .ok (.lload 4, 2) := by decide +kernel
theorem dX12_divisor_33 : decode cX12_divisor 33 = .ok (.lreturn, 1) := by decide +kernel
set_option maxRecDepth 20000 in
theorem ggX12_budget_X12_isIn : GoodIn wsX12_budget wsX12_isIn := goodIn_r _ [5] (by decide +kernel) (by decide +kernel)
set_option maxRecDepth 20000 in
theorem gX12_budget_X12_isIn : GoodIn wsX12_budget (va_wsS RX12 84 yX12_isIn wsX12_isIn) := goodIn_app (goodIn_of _ (by decide +kernel)) ggX12_budget_X12_isIn
set_option maxRecDepth 20000 in
theorem ggX12_budget_X12_within : GoodIn wsX12_budget wsX12_within := goodIn_r _ [9, 10, 11, 12, 4, 13, 22, 23, 24, 25, 26, 27, 28, 29, 30, 31, 32, 33, 34, 35, 36, 37, 38, 39, 40, 41, 42, 43, 44, 45, 46, 47, 48, 49, 50, 51, 52, 53, 54, 55, 56, 57] (by decide +kernel) (by decide +kernel)
set_option maxRecDepth 20000 in
theorem gX12_budget_X12_within : GoodIn wsX12_budget (wsV RX12 446 RX12 yX12_within wsX12_within) := goodIn_app (goodIn_of _ (by decide +kernel)) ggX12_budget_X12_within
set_option maxRecDepth 20000 in
theorem ggX12_budget_X12_tens : GoodIn wsX12_budget wsX12_tens := goodIn_r _ [17, 10, 18, 22, 23, 24, 25, 26, 27, 28, 29, 30, 31, 32, 33, 34, 35, 36, 37, 38, 39, 40, 41, 42, 43, 44, 45, 46, 47, 48, 49, 50, 51, 52, 53, 54, 55, 56, 57] (by decide +kernel) (by decide +kernel)
set_option maxRecDepth 20000 in
theorem gX12_budget_X12_tens : GoodIn wsX12_budget (wsV RX12 450 RX12 yX12_tens wsX12_tens) := goodIn_app (goodIn_of _ (by decide +kernel)) ggX12_budget_X12_tens
set_option maxRecDepth 20000 in
theorem ggX12_budget_X12_divisor : GoodIn wsX12_budget wsX12_divisor := goodIn_r _ [21] (by decide +kernel) (by decide +kernel)
set_option maxRecDepth 20000 in
theorem gX12_budget_X12_divisor : GoodIn wsX12_budget (va_wsS RX12 454 yX12_divisor wsX12_divisor) := goodIn_app (goodIn_of _ (by decide +kernel)) ggX12_budget_X12_divisor
theorem dX12_budget_0 : decode cX12_budget 0 = .ok (.iload_n 1, 1) := by decide +kernel
theorem dX12_budget_1 : decode cX12_budget 1 = .ok (.iconst 0, 1) := by decide +kernel
theorem dX12_budget_2 : decode cX12_budget 2 = .ok (.sipush 495, 3) := by decide +kernel
theorem dX12_budget_5 : decode cX12_budget 5 = .ok (.invokestatic 84, 3) := by decide +kernel
theorem dX12_budget_8 : decode cX12_budget 8 = .ok (.ifCond .ne 7, 3) := by decide +kernel
theorem dX12_budget_11 : decode cX12_budget 11 = .ok (.ldc2_w 411, 3) := by decide +kernel
theorem dX12_budget_14 : decode cX12_budget 14 = .ok (.lreturn, 1) := by decide +kernel
theorem dX12_budget_15 : decode cX12_budget 15 = .ok (.aload_n 0, 1) := by decide +kernel
theorem dX12_budget_16 : decode cX12_budget 16 = .ok (.iload_n 1, 1) := by decide +kernel
theorem dX12_budget_17 : decode cX12_budget 17 = .ok (.invokevirtual 446, 3) := by decide +kernel
theorem dX12_budget_20 : decode cX12_budget 20 = .ok (.lstore_n 3, 1) := by decide +kernel
theorem dX12_budget_21 : decode cX12_budget 21 = .ok (.iload_n 2, 1) := by decide +kernel
theorem dX12_budget_22 : decode cX12_budget 22 = .ok (.ifCond .eq 10, 3) := by decide +kernel
theorem dX12_budget_25 : decode cX12_budget 25 = .ok (.aload_n 0, 1) := by decide +kernel
theorem dX12_budget_26 : decode cX12_budget 26 = .ok (.invokevirtual 450, 3) := by decide +kernel
theorem dX12_budget_29 : decode cX12_budget 29 = .ok (.goto 4, 3) := by decide +kernel
theorem dX12_budget_32 : decode cX12_budget 32 = .ok (.lload_n 3, 1) := by decide +kernel
theorem dX12_budget_33 : decode cX12_budget 33 = .ok (.lload_n 3, 1) := by decide +kernel
theorem dX12_budget_34 : decode cX12_budget 34 = .ok (.aload_n 0, 1) := by decide +kernel
theorem dX12_budget_35 : decode cX12_budget 35 = .ok (.invokevirtual 450, 3) := by decide +kernel
theorem dX12_budget_38 : decode cX12_budget 38 = .ok (.invokestatic 454, 3) := by decide +kernel
theorem dX12_budget_41 : decode cX12_budget 41 = .ok (.ldiv, 1) := by decide +kernel
theorem dX12_budget_42 : decode cX12_budget 42 = .ok (.lreturn, 1) := by decide +kernel
set_option maxRecDepth 20000 in
theorem ggX12_enough_X12_isIn : GoodIn wsX12_enough wsX12_isIn := goodIn_r _ [5] (by decide +kernel) (by decide +kernel)
set_option maxRecDepth 20000 in
theorem gX12_enough_X12_isIn : GoodIn wsX12_enough (va_wsS RX12 84 yX12_isIn wsX12_isIn) := goodIn_app (goodIn_of _ (by decide +kernel)) ggX12_enough_X12_isIn
set_option maxRecDepth 20000 in
theorem ggX12_enough_X12_within : GoodIn wsX12_enough wsX12_within := goodIn_r _ [9, 10, 11, 12, 4, 13, 18, 19, 20, 21, 22, 23, 24, 25, 26, 27, 28, 29, 30, 31, 32, 33, 34, 35, 36, 37, 38, 39, 40, 41, 42, 43, 44, 45, 46, 47, 48, 49, 50, 51, 52, 53] (by decide +kernel) (by decide +kernel)
set_option maxRecDepth 20000 in
theorem gX12_enough_X12_within : GoodIn wsX12_enough (wsV RX12 446 RX12 yX12_within wsX12_within) := goodIn_app (goodIn_of _ (by decide +kernel)) ggX12_enough_X12_within
set_option maxRecDepth 20000 in
theorem ggX12_enough_X12_tens : GoodIn wsX12_enough wsX12_tens := goodIn_r _ [17, 10, 1, 18, 19, 20, 21, 22, 23, 24, 25, 26, 27, 28, 29, 30, 31, 32, 33, 34, 35, 36, 37, 38, 39, 40, 41, 42, 43, 44, 45, 46, 47, 48, 49, 50, 51, 52, 53] (by decide +kernel) (by decide +kernel)
set_option maxRecDepth 20000 in
theorem gX12_enough_X12_tens : GoodIn wsX12_enough (wsV RX12 450 RX12 yX12_tens wsX12_tens) := goodIn_app (goodIn_of _ (by decide +kernel)) ggX12_enough_X12_tens
theorem dX12_enough_0 : decode cX12_enough 0 = .ok (.iload_n 1, 1) := by decide +kernel
theorem dX12_enough_1 : decode cX12_enough 1 = .ok (.iconst 1, 1) := by decide +kernel
theorem dX12_enough_2 : decode cX12_enough 2 = .ok (.bipush 10, 2) := by decide +kernel
theorem dX12_enough_4 : decode cX12_enough 4 = .ok (.invokestatic 84, 3) := by decide +kernel
theorem dX12_enough_7 : decode cX12_enough 7 = .ok (.ifCond .ne 5, 3) := by decide +kernel
theorem dX12_enough_10 : decode cX12_enough 10 = .ok (.iconst (-1), 1) := by decide +kernel
theorem dX12_enough_11 : decode cX12_enough 11 = .ok (.ireturn, 1) := by decide +kernel
theorem dX12_enough_12 : decode cX12_enough 12 = .ok (.iconst 0, 1) := by decide +kernel
theorem dX12_enough_13 : decode cX12_enough 13 = .ok (.istore_n 2, 1) := by decide +kernel
theorem dX12_enough_14 : decode cX12_enough 14 = .ok (.ldc2_w 444, 3) := by decide +kernel
theorem dX12_enough_17 : decode cX12_enough 17 = .ok (.aload_n 0, 1) := by decide +kernel
theorem dX12_enough_18 : decode cX12_enough 18 = .ok (.iload_n 2, 1) := by decide +kernel
theorem dX12_enough_19 : decode cX12_enough 19 = .ok (.invokevirtual 446, 3) := by decide +kernel
theorem dX12_enough_22 : decode cX12_enough 22 = .ok (.lmul, 1) := by decide +kernel
theorem dX12_enough_23 : decode cX12_enough 23 = .ok (.iload_n 1, 1) := by decide +kernel
theorem dX12_enough_24 : decode cX12_enough 24 = .ok (.i2l, 1) := by decide +kernel
theorem dX12_enough_25 : decode cX12_enough 25 = .ok (.aload_n 0, 1) := by decide +kernel
theorem dX12_enough_26 : decode cX12_enough 26 = .ok (.invokevirtual 450, 3) := by decide +kernel
theorem dX12_enough_29 : decode cX12_enough 29 = .ok (.lmul, 1) := by decide +kernel
theorem dX12_enough_30 : decode cX12_enough 30 = .ok (.lcmp, 1) := by decide +kernel
theorem dX12_enough_31 : decode cX12_enough 31 = .ok (.ifCond .ge 9, 3) := by decide +kernel
theorem dX12_enough_34 : decode cX12_enough 34 = .ok (.iinc 2 1, 3) := by decide +kernel
theorem dX12_enough_37 : decode cX12_enough 37 = .ok (.goto (-23), 3) := by decide +kernel
theorem dX12_enough_40 : decode cX12_enough 40 = .ok (.iload_n 2, 1) := by decide +kernel
theorem dX12_enough_41 : decode cX12_enough 41 = .ok (.ireturn, 1) := by decide +kernel
set_option maxRecDepth 20000 in
theorem ggX12_said_X12_isPerson : GoodIn wsX12_said wsX12_isPerson := goodIn_r _ [6, 1, 7, 8, 5, 9, 10, 11, 12, 13, 14, 15, 16, 17, 18, 19, 20, 21, 22, 23, 24, 25, 26, 27, 28, 29, 30, 31, 32, 33, 34, 35, 36, 37, 38, 39, 40, 41, 42, 43, 44, 45] (by decide +kernel) (by decide +kernel)
set_option maxRecDepth 20000 in
theorem gX12_said_X12_isPerson : GoodIn wsX12_said (wsV RX12 88 RX12 yX12_isPerson wsX12_isPerson) := goodIn_app (goodIn_of _ (by decide +kernel)) ggX12_said_X12_isPerson
set_option maxRecDepth 20000 in
theorem ggX12_said_X12_isIn : GoodIn wsX12_said wsX12_isIn := goodIn_r _ [9] (by decide +kernel) (by decide +kernel)
set_option maxRecDepth 20000 in
theorem gX12_said_X12_isIn : GoodIn wsX12_said (va_wsS RX12 84 yX12_isIn wsX12_isIn) := goodIn_app (goodIn_of _ (by decide +kernel)) ggX12_said_X12_isIn
theorem dX12_said_0 : decode cX12_said 0 = .ok (.iload_n 1, 1) := by decide +kernel
theorem dX12_said_1 : decode cX12_said 1 = .ok (.iconst (-1), 1) := by decide +kernel
theorem dX12_said_2 : decode cX12_said 2 = .ok (.if_icmp .ne 12, 3) := by decide +kernel
theorem dX12_said_5 : decode cX12_said 5 = .ok (.aload_n 0, 1) := by decide +kernel
theorem dX12_said_6 : decode cX12_said 6 = .ok (.getfield 7, 3) := by decide +kernel
theorem dX12_said_9 : decode cX12_said 9 = .ok (.iconst 4, 1) := by decide +kernel
theorem dX12_said_10 : decode cX12_said 10 = .ok (.iconst 0, 1) := by decide +kernel
theorem dX12_said_11 : decode cX12_said 11 = .ok (.iastore, 1) := by decide +kernel
theorem dX12_said_12 : decode cX12_said 12 = .ok (.iconst 0, 1) := by decide +kernel
theorem dX12_said_13 : decode cX12_said 13 = .ok (.ireturn, 1) := by decide +kernel
theorem dX12_said_14 : decode cX12_said 14 = .ok (.aload_n 0, 1) := by decide +kernel
theorem dX12_said_15 : decode cX12_said 15 = .ok (.iload_n 1, 1) := by decide +kernel
theorem dX12_said_16 : decode cX12_said 16 = .ok (.invokevirtual 88, 3) := by decide +kernel
theorem dX12_said_19 : decode cX12_said 19 = .ok (.ifCond .eq 27, 3) := by decide +kernel
theorem dX12_said_22 : decode cX12_said 22 = .ok (.iload_n 2, 1) := by decide +kernel
theorem dX12_said_23 : decode cX12_said 23 = .ok (.sipush (-999), 3) := by decide +kernel
theorem dX12_said_26 : decode cX12_said 26 = .ok (.sipush 999, 3) := by decide +kernel
theorem dX12_said_29 : decode cX12_said 29 = .ok (.invokestatic 84, 3) := by decide +kernel
theorem dX12_said_32 : decode cX12_said 32 = .ok (.ifCond .eq 14, 3) := by decide +kernel
theorem dX12_said_35 : decode cX12_said 35 = .ok (.aload_n 0, 1) := by decide +kernel
theorem dX12_said_36 : decode cX12_said 36 = .ok (.getfield 7, 3) := by decide +kernel
theorem dX12_said_39 : decode cX12_said 39 = .ok (.iconst 4, 1) := by decide +kernel
theorem dX12_said_40 : decode cX12_said 40 = .ok (.iaload, 1) := by decide +kernel
theorem dX12_said_41 : decode cX12_said 41 = .ok (.bipush 8, 2) := by decide +kernel
theorem dX12_said_43 : decode cX12_said 43 = .ok (.if_icmp .ne 6, 3) := by decide +kernel
theorem dX12_said_46 : decode cX12_said 46 = .ok (.bipush (-2), 2) := by decide +kernel
theorem dX12_said_48 : decode cX12_said 48 = .ok (.ireturn, 1) := by decide +kernel
theorem dX12_said_49 : decode cX12_said 49 = .ok (.aload_n 0, 1) := by decide +kernel
theorem dX12_said_50 : decode cX12_said 50 = .ok (.getfield 7, 3) := by decide +kernel
theorem dX12_said_53 : decode cX12_said 53 = .ok (.bipush 88, 2) := by decide +kernel
theorem dX12_said_55 : decode cX12_said 55 = .ok (.iconst 2, 1) := by decide +kernel
theorem dX12_said_56 : decode cX12_said 56 = .ok (.aload_n 0, 1) := by decide +kernel
theorem dX12_said_57 : decode cX12_said 57 = .ok (.getfield 7, 3) := by decide +kernel
theorem dX12_said_60 : decode cX12_said 60 = .ok (.iconst 4, 1) := by decide +kernel
theorem dX12_said_61 : decode cX12_said 61 = .ok (.iaload, 1) := by decide +kernel
theorem dX12_said_62 : decode cX12_said 62 = .ok (.imul, 1) := by decide +kernel
theorem dX12_said_63 : decode cX12_said 63 = .ok (.iadd, 1) := by decide +kernel
theorem dX12_said_64 : decode cX12_said 64 = .ok (.iload_n 1, 1) := by decide +kernel
theorem dX12_said_65 : decode cX12_said 65 = .ok (.iastore, 1) := by decide +kernel
theorem dX12_said_66 : decode cX12_said 66 = .ok (.aload_n 0, 1) := by decide +kernel
theorem dX12_said_67 : decode cX12_said 67 = .ok (.getfield 7, 3) := by decide +kernel
theorem dX12_said_70 : decode cX12_said 70 = .ok (.bipush 88, 2) := by decide +kernel
theorem dX12_said_72 : decode cX12_said 72 = .ok (.iconst 2, 1) := by decide +kernel
theorem dX12_said_73 : decode cX12_said 73 = .ok (.aload_n 0, 1) := by decide +kernel
theorem dX12_said_74 : decode cX12_said 74 = .ok (.getfield 7, 3) := by decide +kernel
theorem dX12_said_77 : decode cX12_said 77 = .ok (.iconst 4, 1) := by decide +kernel
theorem dX12_said_78 : decode cX12_said 78 = .ok (.iaload, 1) := by decide +kernel
theorem dX12_said_79 : decode cX12_said 79 = .ok (.imul, 1) := by decide +kernel
theorem dX12_said_80 : decode cX12_said 80 = .ok (.iadd, 1) := by decide +kernel
theorem dX12_said_81 : decode cX12_said 81 = .ok (.iconst 1, 1) := by decide +kernel
theorem dX12_said_82 : decode cX12_said 82 = .ok (.iadd, 1) := by decide +kernel
theorem dX12_said_83 : decode cX12_said 83 = .ok (.iload_n 2, 1) := by decide +kernel
theorem dX12_said_84 : decode cX12_said 84 = .ok (.iastore, 1) := by decide +kernel
theorem dX12_said_85 : decode cX12_said 85 = .ok (.aload_n 0, 1) := by decide +kernel
theorem dX12_said_86 : decode cX12_said 86 = .ok (.getfield 7, 3) := by decide +kernel
theorem dX12_said_89 : decode cX12_said 89 = .ok (.iconst 4, 1) := by decide +kernel
theorem dX12_said_90 : decode cX12_said 90 = .ok (.dup2, 1) := by decide +kernel
theorem dX12_said_91 : decode cX12_said 91 = .ok (.iaload, 1) := by decide +kernel
theorem dX12_said_92 : decode cX12_said 92 = .ok (.iconst 1, 1) := by decide +kernel
theorem dX12_said_93 : decode cX12_said 93 = .ok (.iadd, 1) := by decide +kernel
theorem dX12_said_94 : decode cX12_said 94 = .ok (.iastore, 1) := by decide +kernel
theorem dX12_said_95 : decode cX12_said 95 = .ok (.aload_n 0, 1) := by decide +kernel
theorem dX12_said_96 : decode cX12_said 96 = .ok (.getfield 7, 3) := by decide +kernel
theorem dX12_said_99 : decode cX12_said 99 = .ok (.iconst 4, 1) := by decide +kernel
theorem dX12_said_100 : decode cX12_said 100 = .ok (.iaload, 1) := by decide +kernel
theorem dX12_said_101 : decode cX12_said 101 = .ok (.ireturn, 1) := by decide +kernel
set_option maxRecDepth 20000 in
theorem ggX12_whose_X12_needsOf : GoodIn wsX12_whose wsX12_needsOf := goodIn_r _ [6, 7, 8, 9, 10, 5, 11, 1, 12, 13, 14, 15, 16, 17, 18, 19, 20, 21, 22, 23, 24, 25, 26, 27, 28, 29, 30, 31, 32, 33, 34, 35, 36, 37, 38, 39, 40, 41, 42, 43, 44, 45, 46, 47, 48, 49, 50, 51, 52, 53, 54, 55, 56, 57, 58, 59, 60, 61, 62, 63, 64, 65, 66, 67, 68, 69, 70, 71, 72, 73, 74, 75, 76, 77, 78, 79, 80, 81, 82, 83, 84, 85, 86, 87, 88, 89, 90, 91, 92, 93, 94, 95, 96, 97, 98, 99] (by decide +kernel) (by decide +kernel)
set_option maxRecDepth 20000 in
theorem gX12_whose_X12_needsOf : GoodIn wsX12_whose (wsV RX12 337 RX12 yX12_needsOf wsX12_needsOf) := goodIn_app (goodIn_of _ (by decide +kernel)) ggX12_whose_X12_needsOf
theorem dX12_whose_0 : decode cX12_whose 0 = .ok (.iconst 0, 1) := by decide +kernel
theorem dX12_whose_1 : decode cX12_whose 1 = .ok (.istore_n 1, 1) := by decide +kernel
theorem dX12_whose_2 : decode cX12_whose 2 = .ok (.iconst 0, 1) := by decide +kernel
theorem dX12_whose_3 : decode cX12_whose 3 = .ok (.istore_n 2, 1) := by decide +kernel
theorem dX12_whose_4 : decode cX12_whose 4 = .ok (.iload_n 2, 1) := by decide +kernel
theorem dX12_whose_5 : decode cX12_whose 5 = .ok (.aload_n 0, 1) := by decide +kernel
theorem dX12_whose_6 : decode cX12_whose 6 = .ok (.getfield 7, 3) := by decide +kernel
theorem dX12_whose_9 : decode cX12_whose 9 = .ok (.iconst 1, 1) := by decide +kernel
theorem dX12_whose_10 : decode cX12_whose 10 = .ok (.iaload, 1) := by decide +kernel
theorem dX12_whose_11 : decode cX12_whose 11 = .ok (.if_icmp .ge 89, 3) := by decide +kernel
theorem dX12_whose_14 : decode cX12_whose 14 = .ok (.iconst 1, 1) := by decide +kernel
theorem dX12_whose_15 : decode cX12_whose 15 = .ok (.istore_n 3, 1) := by decide +kernel
theorem dX12_whose_16 : decode cX12_whose 16 = .ok (.iconst 0, 1) := by decide +kernel
theorem dX12_whose_17 : decode cX12_whose 17 = .ok (.istore 4, 2) := by decide +kernel
theorem dX12_whose_19 : decode cX12_whose 19 = .ok (.iload 4, 2) := by decide +kernel
theorem dX12_whose_21 : decode cX12_whose 21 = .ok (.aload_n 0, 1) := by decide +kernel
theorem dX12_whose_22 : decode cX12_whose 22 = .ok (.getfield 7, 3) := by decide +kernel
theorem dX12_whose_25 : decode cX12_whose 25 = .ok (.iconst 4, 1) := by decide +kernel
theorem dX12_whose_26 : decode cX12_whose 26 = .ok (.iaload, 1) := by decide +kernel
theorem dX12_whose_27 : decode cX12_whose 27 = .ok (.if_icmp .ge 53, 3) := by decide +kernel
theorem dX12_whose_30 : decode cX12_whose 30 = .ok (.iload_n 3, 1) := by decide +kernel
theorem dX12_whose_31 : decode cX12_whose 31 = .ok (.ifCond .eq 41, 3) := by decide +kernel
theorem dX12_whose_34 : decode cX12_whose 34 = .ok (.aload_n 0, 1) := by decide +kernel
theorem dX12_whose_35 : decode cX12_whose 35 = .ok (.iload_n 2, 1) := by decide +kernel
theorem dX12_whose_36 : decode cX12_whose 36 = .ok (.aload_n 0, 1) := by decide +kernel
theorem dX12_whose_37 : decode cX12_whose 37 = .ok (.getfield 7, 3) := by decide +kernel
theorem dX12_whose_40 : decode cX12_whose 40 = .ok (.bipush 88, 2) := by decide +kernel
theorem dX12_whose_42 : decode cX12_whose 42 = .ok (.iconst 2, 1) := by decide +kernel
theorem dX12_whose_43 : decode cX12_whose 43 = .ok (.iload 4, 2) := by decide +kernel
theorem dX12_whose_45 : decode cX12_whose 45 = .ok (.imul, 1) := by decide +kernel
theorem dX12_whose_46 : decode cX12_whose 46 = .ok (.iadd, 1) := by decide +kernel
theorem dX12_whose_47 : decode cX12_whose 47 = .ok (.iaload, 1) := by decide +kernel
theorem dX12_whose_48 : decode cX12_whose 48 = .ok (.invokevirtual 337, 3) := by decide +kernel
theorem dX12_whose_51 : decode cX12_whose 51 = .ok (.aload_n 0, 1) := by decide +kernel
theorem dX12_whose_52 : decode cX12_whose 52 = .ok (.getfield 7, 3) := by decide +kernel
theorem dX12_whose_55 : decode cX12_whose 55 = .ok (.bipush 88, 2) := by decide +kernel
theorem dX12_whose_57 : decode cX12_whose 57 = .ok (.iconst 2, 1) := by decide +kernel
theorem dX12_whose_58 : decode cX12_whose 58 = .ok (.iload 4, 2) := by decide +kernel
theorem dX12_whose_60 : decode cX12_whose 60 = .ok (.imul, 1) := by decide +kernel
theorem dX12_whose_61 : decode cX12_whose 61 = .ok (.iadd, 1) := by decide +kernel
theorem dX12_whose_62 : decode cX12_whose 62 = .ok (.iconst 1, 1) := by decide +kernel
theorem dX12_whose_63 : decode cX12_whose 63 = .ok (.iadd, 1) := by decide +kernel
theorem dX12_whose_64 : decode cX12_whose 64 = .ok (.iaload, 1) := by decide +kernel
theorem dX12_whose_65 : decode cX12_whose 65 = .ok (.if_icmp .ne 7, 3) := by decide +kernel
theorem dX12_whose_68 : decode cX12_whose 68 = .ok (.iconst 1, 1) := by decide +kernel
theorem dX12_whose_69 : decode cX12_whose 69 = .ok (.goto 4, 3) := by decide +kernel
theorem dX12_whose_72 : decode cX12_whose 72 = .ok (.iconst 0, 1) := by decide +kernel
theorem dX12_whose_73 : decode cX12_whose 73 = .ok (.istore_n 3, 1) := by decide +kernel
theorem dX12_whose_74 : decode cX12_whose 74 = .ok (.iinc 4 1, 3) := by decide +kernel
theorem dX12_whose_77 : decode cX12_whose 77 = .ok (.goto (-58), 3) := by decide +kernel
theorem dX12_whose_80 : decode cX12_whose 80 = .ok (.iload_n 1, 1) := by decide +kernel
theorem dX12_whose_81 : decode cX12_whose 81 = .ok (.iload_n 3, 1) := by decide +kernel
theorem dX12_whose_82 : decode cX12_whose 82 = .ok (.ifCond .eq 9, 3) := by decide +kernel
theorem dX12_whose_85 : decode cX12_whose 85 = .ok (.iconst 1, 1) := by decide +kernel
theorem dX12_whose_86 : decode cX12_whose 86 = .ok (.iload_n 2, 1) := by decide +kernel
theorem dX12_whose_87 : decode cX12_whose 87 = .ok (.ishl, 1) := by decide +kernel
theorem dX12_whose_88 : decode cX12_whose 88 = .ok (.goto 4, 3) := by decide +kernel
theorem dX12_whose_91 : decode cX12_whose 91 = .ok (.iconst 0, 1) := by decide +kernel
theorem dX12_whose_92 : decode cX12_whose 92 = .ok (.ior, 1) := by decide +kernel
theorem dX12_whose_93 : decode cX12_whose 93 = .ok (.istore_n 1, 1) := by decide +kernel
theorem dX12_whose_94 : decode cX12_whose 94 = .ok (.iinc 2 1, 3) := by decide +kernel
theorem dX12_whose_97 : decode cX12_whose 97 = .ok (.goto (-93), 3) := by decide +kernel
theorem dX12_whose_100 : decode cX12_whose 100 = .ok (.iload_n 1, 1) := by decide +kernel
theorem dX12_whose_101 : decode cX12_whose 101 = .ok (.ireturn, 1) := by decide +kernel
set_option maxRecDepth 20000 in
theorem ggX12_image_X12_copy : GoodIn wsX12_image wsX12_copy := goodIn_r _ [6] (by decide +kernel) (by decide +kernel)
set_option maxRecDepth 20000 in
theorem gX12_image_X12_copy : GoodIn wsX12_image (va_wsS RX12 80 yX12_copy wsX12_copy) := goodIn_app (goodIn_of _ (by decide +kernel)) ggX12_image_X12_copy
theorem dX12_image_0 : decode cX12_image 0 = .ok (.aload_n 0, 1) := by decide +kernel
theorem dX12_image_1 : decode cX12_image 1 = .ok (.getfield 7, 3) := by decide +kernel
theorem dX12_image_4 : decode cX12_image 4 = .ok (.aload_n 0, 1) := by decide +kernel
theorem dX12_image_5 : decode cX12_image 5 = .ok (.getfield 13, 3) := by decide +kernel
theorem dX12_image_8 : decode cX12_image 8 = .ok (.invokestatic 80, 3) := by decide +kernel
theorem dX12_image_11 : decode cX12_image 11 = .ok (.aload_n 0, 1) := by decide +kernel
theorem dX12_image_12 : decode cX12_image 12 = .ok (.getfield 7, 3) := by decide +kernel
theorem dX12_image_15 : decode cX12_image 15 = .ok (.iconst 5, 1) := by decide +kernel
theorem dX12_image_16 : decode cX12_image 16 = .ok (.iaload, 1) := by decide +kernel
theorem dX12_image_17 : decode cX12_image 17 = .ok (.ireturn, 1) := by decide +kernel
set_option maxRecDepth 20000 in
theorem ggX12_back_X12_copy : GoodIn wsX12_back wsX12_copy := goodIn_r _ [6] (by decide +kernel) (by decide +kernel)
set_option maxRecDepth 20000 in
theorem gX12_back_X12_copy : GoodIn wsX12_back (va_wsS RX12 80 yX12_copy wsX12_copy) := goodIn_app (goodIn_of _ (by decide +kernel)) ggX12_back_X12_copy
theorem dX12_back_0 : decode cX12_back 0 = .ok (.aload_n 0, 1) := by decide +kernel
theorem dX12_back_1 : decode cX12_back 1 = .ok (.getfield 13, 3) := by decide +kernel
theorem dX12_back_4 : decode cX12_back 4 = .ok (.aload_n 0, 1) := by decide +kernel
theorem dX12_back_5 : decode cX12_back 5 = .ok (.getfield 7, 3) := by decide +kernel
theorem dX12_back_8 : decode cX12_back 8 = .ok (.invokestatic 80, 3) := by decide +kernel
theorem dX12_back_11 : decode cX12_back 11 = .ok (.aload_n 0, 1) := by decide +kernel
theorem dX12_back_12 : decode cX12_back 12 = .ok (.getfield 7, 3) := by decide +kernel
theorem dX12_back_15 : decode cX12_back 15 = .ok (.iconst 5, 1) := by decide +kernel
theorem dX12_back_16 : decode cX12_back 16 = .ok (.iaload, 1) := by decide +kernel
theorem dX12_back_17 : decode cX12_back 17 = .ok (.ireturn, 1) := by decide +kernel
set_option maxRecDepth 20000 in
theorem ggX12_about_X12_isIn : GoodIn wsX12_about wsX12_isIn := goodIn_r _ [6] (by decide +kernel) (by decide +kernel)
set_option maxRecDepth 20000 in
theorem gX12_about_X12_isIn : GoodIn wsX12_about (va_wsS RX12 84 yX12_isIn wsX12_isIn) := goodIn_app (goodIn_of _ (by decide +kernel)) ggX12_about_X12_isIn
theorem dX12_about_0 : decode cX12_about 0 = .ok (.iload_n 1, 1) := by decide +kernel
theorem dX12_about_1 : decode cX12_about 1 = .ok (.iconst 0, 1) := by decide +kernel
theorem dX12_about_2 : decode cX12_about 2 = .ok (.iconst 4, 1) := by decide +kernel
theorem dX12_about_3 : decode cX12_about 3 = .ok (.invokestatic 84, 3) := by decide +kernel
theorem dX12_about_6 : decode cX12_about 6 = .ok (.ifCond .eq 12, 3) := by decide +kernel
theorem dX12_about_9 : decode cX12_about 9 = .ok (.aload_n 0, 1) := by decide +kernel
theorem dX12_about_10 : decode cX12_about 10 = .ok (.getfield 7, 3) := by decide +kernel
theorem dX12_about_13 : decode cX12_about 13 = .ok (.iload_n 1, 1) := by decide +kernel
theorem dX12_about_14 : decode cX12_about 14 = .ok (.iaload, 1) := by decide +kernel
theorem dX12_about_15 : decode cX12_about 15 = .ok (.goto 17, 3) := by decide +kernel
theorem dX12_about_18 : decode cX12_about 18 = .ok (.iload_n 1, 1) := by decide +kernel
theorem dX12_about_19 : decode cX12_about 19 = .ok (.iconst 5, 1) := by decide +kernel
theorem dX12_about_20 : decode cX12_about 20 = .ok (.if_icmp .ne 10, 3) := by decide +kernel
theorem dX12_about_23 : decode cX12_about 23 = .ok (.aload_n 0, 1) := by decide +kernel
theorem dX12_about_24 : decode cX12_about 24 = .ok (.getfield 111, 3) := by decide +kernel
theorem dX12_about_27 : decode cX12_about 27 = .ok (.goto 5, 3) := by decide +kernel
theorem dX12_about_30 : decode cX12_about 30 = .ok (.bipush (-2), 2) := by decide +kernel
theorem dX12_about_32 : decode cX12_about 32 = .ok (.ireturn, 1) := by decide +kernel
theorem dJ6_bitCount_0f7a4_0 : decode cJ6_bitCount_0f7a4 0 = .ok (.iload_n 0, 1) := by decide +kernel
theorem dJ6_bitCount_0f7a4_1 : decode cJ6_bitCount_0f7a4 1 = .ok (.iload_n 0, 1) := by decide +kernel
theorem dJ6_bitCount_0f7a4_2 : decode cJ6_bitCount_0f7a4 2 = .ok (.iconst 1, 1) := by decide +kernel
theorem dJ6_bitCount_0f7a4_3 : decode cJ6_bitCount_0f7a4 3 = .ok (.iushr, 1) := by decide +kernel
theorem dJ6_bitCount_0f7a4_4 : decode cJ6_bitCount_0f7a4 4 = .ok (.ldc_w 265, 3) := by decide +kernel
theorem dJ6_bitCount_0f7a4_7 : decode cJ6_bitCount_0f7a4 7 = .ok (.iand, 1) := by decide +kernel
theorem dJ6_bitCount_0f7a4_8 : decode cJ6_bitCount_0f7a4 8 = .ok (.isub, 1) := by decide +kernel
theorem dJ6_bitCount_0f7a4_9 : decode cJ6_bitCount_0f7a4 9 = .ok (.istore_n 0, 1) := by decide +kernel
theorem dJ6_bitCount_0f7a4_10 : decode cJ6_bitCount_0f7a4 10 = .ok (.iload_n 0, 1) := by decide +kernel
theorem dJ6_bitCount_0f7a4_11 : decode cJ6_bitCount_0f7a4 11 = .ok (.ldc_w 266, 3) := by decide +kernel
theorem dJ6_bitCount_0f7a4_14 : decode cJ6_bitCount_0f7a4 14 = .ok (.iand, 1) := by decide +kernel
theorem dJ6_bitCount_0f7a4_15 : decode cJ6_bitCount_0f7a4 15 = .ok (.iload_n 0, 1) := by decide +kernel
theorem dJ6_bitCount_0f7a4_16 : decode cJ6_bitCount_0f7a4 16 = .ok (.iconst 2, 1) := by decide +kernel
theorem dJ6_bitCount_0f7a4_17 : decode cJ6_bitCount_0f7a4 17 = .ok (.iushr, 1) := by decide +kernel
theorem dJ6_bitCount_0f7a4_18 : decode cJ6_bitCount_0f7a4 18 = .ok (.ldc_w 266, 3) := by decide +kernel
theorem dJ6_bitCount_0f7a4_21 : decode cJ6_bitCount_0f7a4 21 = .ok (.iand, 1) := by decide +kernel
theorem dJ6_bitCount_0f7a4_22 : decode cJ6_bitCount_0f7a4 22 = .ok (.iadd, 1) := by decide +kernel
theorem dJ6_bitCount_0f7a4_23 : decode cJ6_bitCount_0f7a4 23 = .ok (.istore_n 0, 1) := by decide +kernel
theorem dJ6_bitCount_0f7a4_24 : decode cJ6_bitCount_0f7a4 24 = .ok (.iload_n 0, 1) := by decide +kernel
theorem dJ6_bitCount_0f7a4_25 : decode cJ6_bitCount_0f7a4 25 = .ok (.iload_n 0, 1) := by decide +kernel
theorem dJ6_bitCount_0f7a4_26 : decode cJ6_bitCount_0f7a4 26 = .ok (.iconst 4, 1) := by decide +kernel
theorem dJ6_bitCount_0f7a4_27 : decode cJ6_bitCount_0f7a4 27 = .ok (.iushr, 1) := by decide +kernel
theorem dJ6_bitCount_0f7a4_28 : decode cJ6_bitCount_0f7a4 28 = .ok (.iadd, 1) := by decide +kernel
theorem dJ6_bitCount_0f7a4_29 : decode cJ6_bitCount_0f7a4 29 = .ok (.ldc_w 267, 3) := by decide +kernel
theorem dJ6_bitCount_0f7a4_32 : decode cJ6_bitCount_0f7a4 32 = .ok (.iand, 1) := by decide +kernel
theorem dJ6_bitCount_0f7a4_33 : decode cJ6_bitCount_0f7a4 33 = .ok (.istore_n 0, 1) := by decide +kernel
theorem dJ6_bitCount_0f7a4_34 : decode cJ6_bitCount_0f7a4 34 = .ok (.iload_n 0, 1) := by decide +kernel
theorem dJ6_bitCount_0f7a4_35 : decode cJ6_bitCount_0f7a4 35 = .ok (.iload_n 0, 1) := by decide +kernel
theorem dJ6_bitCount_0f7a4_36 : decode cJ6_bitCount_0f7a4 36 = .ok (.bipush 8, 2) := by decide +kernel
theorem dJ6_bitCount_0f7a4_38 : decode cJ6_bitCount_0f7a4 38 = .ok (.iushr, 1) := by decide +kernel
theorem dJ6_bitCount_0f7a4_39 : decode cJ6_bitCount_0f7a4 39 = .ok (.iadd, 1) := by decide +kernel
theorem dJ6_bitCount_0f7a4_40 : decode cJ6_bitCount_0f7a4 40 = .ok (.istore_n 0, 1) := by decide +kernel
theorem dJ6_bitCount_0f7a4_41 : decode cJ6_bitCount_0f7a4 41 = .ok (.iload_n 0, 1) := by decide +kernel
theorem dJ6_bitCount_0f7a4_42 : decode cJ6_bitCount_0f7a4 42 = .ok (.iload_n 0, 1) := by decide +kernel
theorem dJ6_bitCount_0f7a4_43 : decode cJ6_bitCount_0f7a4 43 = .ok (.bipush 16, 2) := by decide +kernel
theorem dJ6_bitCount_0f7a4_45 : decode cJ6_bitCount_0f7a4 45 = .ok (.iushr, 1) := by decide +kernel
theorem dJ6_bitCount_0f7a4_46 : decode cJ6_bitCount_0f7a4 46 = .ok (.iadd, 1) := by decide +kernel
theorem dJ6_bitCount_0f7a4_47 : decode cJ6_bitCount_0f7a4 47 = .ok (.istore_n 0, 1) := by decide +kernel
theorem dJ6_bitCount_0f7a4_48 : decode cJ6_bitCount_0f7a4 48 = .ok (.iload_n 0, 1) := by decide +kernel
theorem dJ6_bitCount_0f7a4_49 : decode cJ6_bitCount_0f7a4 49 = .ok (.bipush 63, 2) := by decide +kernel
theorem dJ6_bitCount_0f7a4_51 : decode cJ6_bitCount_0f7a4 51 = .ok (.iand, 1) := by decide +kernel
theorem dJ6_bitCount_0f7a4_52 : decode cJ6_bitCount_0f7a4 52 = .ok (.ireturn, 1) := by decide +kernel
theorem dJ9_max_7cf53_0 : decode cJ9_max_7cf53 0 = .ok (.iload_n 0, 1) := by decide +kernel
theorem dJ9_max_7cf53_1 : decode cJ9_max_7cf53 1 = .ok (.iload_n 1, 1) := by decide +kernel
theorem dJ9_max_7cf53_2 : decode cJ9_max_7cf53 2 = .ok (.if_icmp .lt 7, 3) := by decide +kernel
theorem dJ9_max_7cf53_5 : decode cJ9_max_7cf53 5 = .ok (.iload_n 0, 1) := by decide +kernel
theorem dJ9_max_7cf53_6 : decode cJ9_max_7cf53 6 = .ok (.goto 4, 3) := by decide +kernel
theorem dJ9_max_7cf53_9 : decode cJ9_max_7cf53 9 = .ok (.iload_n 1, 1) := by decide +kernel
theorem dJ9_max_7cf53_10 : decode cJ9_max_7cf53 10 = .ok (.ireturn, 1) := by decide +kernel
theorem dJ9_max_f86c9_0 : decode cJ9_max_f86c9 0 = .ok (.lload_n 0, 1) := by decide +kernel
theorem dJ9_max_f86c9_1 : decode cJ9_max_f86c9 1 = .ok (.lload_n 2, 1) := by decide +kernel
theorem dJ9_max_f86c9_2 : decode cJ9_max_f86c9 2 = .ok (.lcmp, 1) := by decide +kernel
theorem dJ9_max_f86c9_3 : decode cJ9_max_f86c9 3 = .ok (.ifCond .lt 7, 3) := by decide +kernel
theorem dJ9_max_f86c9_6 : decode cJ9_max_f86c9 6 = .ok (.lload_n 0, 1) := by decide +kernel
theorem dJ9_max_f86c9_7 : decode cJ9_max_f86c9 7 = .ok (.goto 4, 3) := by decide +kernel
theorem dJ9_max_f86c9_10 : decode cJ9_max_f86c9 10 = .ok (.lload_n 2, 1) := by decide +kernel
theorem dJ9_max_f86c9_11 : decode cJ9_max_f86c9 11 = .ok (.lreturn, 1) := by decide +kernel
theorem dJ9_min_7cf53_0 : decode cJ9_min_7cf53 0 = .ok (.iload_n 0, 1) := by decide +kernel
theorem dJ9_min_7cf53_1 : decode cJ9_min_7cf53 1 = .ok (.iload_n 1, 1) := by decide +kernel
theorem dJ9_min_7cf53_2 : decode cJ9_min_7cf53 2 = .ok (.if_icmp .gt 7, 3) := by decide +kernel
theorem dJ9_min_7cf53_5 : decode cJ9_min_7cf53 5 = .ok (.iload_n 0, 1) := by decide +kernel
theorem dJ9_min_7cf53_6 : decode cJ9_min_7cf53 6 = .ok (.goto 4, 3) := by decide +kernel
theorem dJ9_min_7cf53_9 : decode cJ9_min_7cf53 9 = .ok (.iload_n 1, 1) := by decide +kernel
theorem dJ9_min_7cf53_10 : decode cJ9_min_7cf53 10 = .ok (.ireturn, 1) := by decide +kernel
theorem dJ9_min_f86c9_0 : decode cJ9_min_f86c9 0 = .ok (.lload_n 0, 1) := by decide +kernel
theorem dJ9_min_f86c9_1 : decode cJ9_min_f86c9 1 = .ok (.lload_n 2, 1) := by decide +kernel
theorem dJ9_min_f86c9_2 : decode cJ9_min_f86c9 2 = .ok (.lcmp, 1) := by decide +kernel
theorem dJ9_min_f86c9_3 : decode cJ9_min_f86c9 3 = .ok (.ifCond .gt 7, 3) := by decide +kernel
theorem dJ9_min_f86c9_6 : decode cJ9_min_f86c9 6 = .ok (.lload_n 0, 1) := by decide +kernel
theorem dJ9_min_f86c9_7 : decode cJ9_min_f86c9 7 = .ok (.goto 4, 3) := by decide +kernel
theorem dJ9_min_f86c9_10 : decode cJ9_min_f86c9 10 = .ok (.lload_n 2, 1) := by decide +kernel
theorem dJ9_min_f86c9_11 : decode cJ9_min_f86c9 11 = .ok (.lreturn, 1) := by decide +kernel
set_option maxRecDepth 20000 in
theorem ggJ0_length_8abf5_J0_coder_7d493 : GoodIn wsJ0_length_8abf5 wsJ0_coder_7d493 := goodIn_r _ [6, 7, 8] (by decide +kernel) (by decide +kernel)
set_option maxRecDepth 20000 in
theorem gJ0_length_8abf5_J0_coder_7d493 : GoodIn wsJ0_length_8abf5 (wsV RJ0 335 RJ0 yJ0_coder_7d493 wsJ0_coder_7d493) := goodIn_app (goodIn_of _ (by decide +kernel)) ggJ0_length_8abf5_J0_coder_7d493
theorem dJ0_length_8abf5_0 : decode cJ0_length_8abf5 0 = .ok (.aload_n 0, 1) := by decide +kernel
theorem dJ0_length_8abf5_1 : decode cJ0_length_8abf5 1 = .ok (.getfield 9, 3) := by decide +kernel
theorem dJ0_length_8abf5_4 : decode cJ0_length_8abf5 4 = .ok (.arraylength, 1) := by decide +kernel
theorem dJ0_length_8abf5_5 : decode cJ0_length_8abf5 5 = .ok (.aload_n 0, 1) := by decide +kernel
theorem dJ0_length_8abf5_6 : decode cJ0_length_8abf5 6 = .ok (.invokevirtual 335, 3) := by decide +kernel
theorem dJ0_length_8abf5_9 : decode cJ0_length_8abf5 9 = .ok (.ishr, 1) := by decide +kernel
theorem dJ0_length_8abf5_10 : decode cJ0_length_8abf5 10 = .ok (.ireturn, 1) := by decide +kernel
set_option maxRecDepth 20000 in
theorem ggJ0_charAt_5068e_J0_isLatin1_aae02 : GoodIn wsJ0_charAt_5068e wsJ0_isLatin1_aae02 := goodIn_r _ [6, 7, 8] (by decide +kernel) (by decide +kernel)
set_option maxRecDepth 20000 in
theorem gJ0_charAt_5068e_J0_isLatin1_aae02 : GoodIn wsJ0_charAt_5068e (wsV RJ0 492 RJ0 yJ0_isLatin1_aae02 wsJ0_isLatin1_aae02) := goodIn_app (goodIn_of _ (by decide +kernel)) ggJ0_charAt_5068e_J0_isLatin1_aae02
set_option maxRecDepth 20000 in
theorem ggJ0_charAt_5068e_J1_charAt_3b067 : GoodIn wsJ0_charAt_5068e wsJ1_charAt_3b067 := goodIn_r _ [12, 13, 14, 5, 15, 16, 17, 18, 19, 20] (by decide +kernel) (by decide +kernel)
set_option maxRecDepth 20000 in
theorem gJ0_charAt_5068e_J1_charAt_3b067 : GoodIn wsJ0_charAt_5068e (va_wsS RJ0 495 yJ1_charAt_3b067 wsJ1_charAt_3b067) := goodIn_app (goodIn_of _ (by decide +kernel)) ggJ0_charAt_5068e_J1_charAt_3b067
set_option maxRecDepth 20000 in
theorem ggJ0_charAt_5068e_J2_charAt_3b067 : GoodIn wsJ0_charAt_5068e wsJ2_charAt_3b067 := goodIn_r _ [24, 25, 26, 23, 27, 28, 29, 30, 31, 14, 5, 15, 16, 17, 18, 19, 20, 32, 33, 34, 35, 36, 37] (by decide +kernel) (by decide +kernel)
set_option maxRecDepth 20000 in
theorem gJ0_charAt_5068e_J2_charAt_3b067 : GoodIn wsJ0_charAt_5068e (va_wsS RJ0 498 yJ2_charAt_3b067 wsJ2_charAt_3b067) := goodIn_app (goodIn_of _ (by decide +kernel)) ggJ0_charAt_5068e_J2_charAt_3b067
theorem dJ0_charAt_5068e_0 : decode cJ0_charAt_5068e 0 = .ok (.aload_n 0, 1) := by decide +kernel
theorem dJ0_charAt_5068e_1 : decode cJ0_charAt_5068e 1 = .ok (.invokevirtual 492, 3) := by decide +kernel
theorem dJ0_charAt_5068e_4 : decode cJ0_charAt_5068e 4 = .ok (.ifCond .eq 12, 3) := by decide +kernel
theorem dJ0_charAt_5068e_7 : decode cJ0_charAt_5068e 7 = .ok (.aload_n 0, 1) := by decide +kernel
theorem dJ0_charAt_5068e_8 : decode cJ0_charAt_5068e 8 = .ok (.getfield 9, 3) := by decide +kernel
theorem dJ0_charAt_5068e_11 : decode cJ0_charAt_5068e 11 = .ok (.iload_n 1, 1) := by decide +kernel
theorem dJ0_charAt_5068e_12 : decode cJ0_charAt_5068e 12 = .ok (.invokestatic 495, 3) := by decide +kernel
theorem dJ0_charAt_5068e_15 : decode cJ0_charAt_5068e 15 = .ok (.ireturn, 1) := by decide +kernel
theorem dJ0_charAt_5068e_16 : decode cJ0_charAt_5068e 16 = .ok (.aload_n 0, 1) := by decide +kernel
theorem dJ0_charAt_5068e_17 : decode cJ0_charAt_5068e 17 = .ok (.getfield 9, 3) := by decide +kernel
theorem dJ0_charAt_5068e_20 : decode cJ0_charAt_5068e 20 = .ok (.iload_n 1, 1) := by decide +kernel
theorem dJ0_charAt_5068e_21 : decode cJ0_charAt_5068e 21 = .ok (.invokestatic 498, 3) := by decide +kernel
theorem dJ0_charAt_5068e_24 : decode cJ0_charAt_5068e 24 = .ok (.ireturn, 1) := by decide +kernel
theorem dJ0_coder_7d493_0 : decode cJ0_coder_7d493 0 = .ok (.getstatic 38, 3) := by decide +kernel
theorem dJ0_coder_7d493_3 : decode cJ0_coder_7d493 3 = .ok (.ifCond .eq 10, 3) := by decide +kernel
theorem dJ0_coder_7d493_6 : decode cJ0_coder_7d493 6 = .ok (.aload_n 0, 1) := by decide +kernel
theorem dJ0_coder_7d493_7 : decode cJ0_coder_7d493 7 = .ok (.getfield 15, 3) := by decide +kernel
theorem dJ0_coder_7d493_10 : decode cJ0_coder_7d493 10 = .ok (.goto 4, 3) := by decide +kernel
theorem dJ0_coder_7d493_13 : decode cJ0_coder_7d493 13 = .ok (.iconst 1, 1) := by decide +kernel
theorem dJ0_coder_7d493_14 : decode cJ0_coder_7d493 14 = .ok (.ireturn, 1) := by decide +kernel
theorem dJ0_isLatin1_aae02_0 : decode cJ0_isLatin1_aae02 0 = .ok (.getstatic 38, 3) := by decide +kernel
theorem dJ0_isLatin1_aae02_3 : decode cJ0_isLatin1_aae02 3 = .ok (.ifCond .eq 14, 3) := by decide +kernel
theorem dJ0_isLatin1_aae02_6 : decode cJ0_isLatin1_aae02 6 = .ok (.aload_n 0, 1) := by decide +kernel
theorem dJ0_isLatin1_aae02_7 : decode cJ0_isLatin1_aae02 7 = .ok (.getfield 15, 3) := by decide +kernel
theorem dJ0_isLatin1_aae02_10 : decode cJ0_isLatin1_aae02 10 = .ok (.ifCond .ne 7, 3) := by decide +kernel
theorem dJ0_isLatin1_aae02_13 : decode cJ0_isLatin1_aae02 13 = .ok (.iconst 1, 1) := by decide +kernel
theorem dJ0_isLatin1_aae02_14 : decode cJ0_isLatin1_aae02 14 = .ok (.goto 4, 3) := by decide +kernel
theorem dJ0_isLatin1_aae02_17 : decode cJ0_isLatin1_aae02 17 = .ok (.iconst 0, 1) := by decide +kernel
theorem dJ0_isLatin1_aae02_18 : decode cJ0_isLatin1_aae02 18 = .ok (.ireturn, 1) := by decide +kernel
set_option maxRecDepth 20000 in
theorem ggJ0_checkIndex_df160_J3_checkIndex_8e157 : GoodIn wsJ0_checkIndex_df160 wsJ3_checkIndex_8e157 := goodIn_r _ [5] (by decide +kernel) (by decide +kernel)
set_option maxRecDepth 20000 in
theorem gJ0_checkIndex_df160_J3_checkIndex_8e157 : GoodIn wsJ0_checkIndex_df160 (va_wsS RJ0 1059 yJ3_checkIndex_8e157 wsJ3_checkIndex_8e157) := goodIn_app (goodIn_of _ (by decide +kernel)) ggJ0_checkIndex_df160_J3_checkIndex_8e157
theorem dJ0_checkIndex_df160_0 : decode cJ0_checkIndex_df160 0 = .ok (.iload_n 0, 1) := by decide +kernel
theorem dJ0_checkIndex_df160_1 : decode cJ0_checkIndex_df160 1 = .ok (.iload_n 1, 1) := by decide +kernel
theorem dJ0_checkIndex_df160_2 : decode cJ0_checkIndex_df160 2 = .ok (.getstatic 1053, 3) := by decide +kernel
theorem dJ0_checkIndex_df160_5 : decode cJ0_checkIndex_df160 5 = .ok (.invokestatic 1059, 3) := by decide +kernel
theorem dJ0_checkIndex_df160_8 : decode cJ0_checkIndex_df160 8 = .ok (.pop, 1) := by decide +kernel
theorem dJ0_checkIndex_df160_9 : decode cJ0_checkIndex_df160 9 = .ok (.return_, 1) := by decide +kernel
set_option maxRecDepth 20000 in
theorem ggJ1_charAt_3b067_J0_checkIndex_df160 : GoodIn wsJ1_charAt_3b067 wsJ0_checkIndex_df160 := goodIn_r _ [4, 5, 6, 7, 8, 9] (by decide +kernel) (by decide +kernel)
set_option maxRecDepth 20000 in
theorem gJ1_charAt_3b067_J0_checkIndex_df160 : GoodIn wsJ1_charAt_3b067 (va_wsS RJ1 9 yJ0_checkIndex_df160 wsJ0_checkIndex_df160) := goodIn_app (goodIn_of _ (by decide +kernel)) ggJ1_charAt_3b067_J0_checkIndex_df160
theorem dJ1_charAt_3b067_0 : decode cJ1_charAt_3b067 0 = .ok (.iload_n 1, 1) := by decide +kernel
theorem dJ1_charAt_3b067_1 : decode cJ1_charAt_3b067 1 = .ok (.aload_n 0, 1) := by decide +kernel
theorem dJ1_charAt_3b067_2 : decode cJ1_charAt_3b067 2 = .ok (.arraylength, 1) := by decide +kernel
theorem dJ1_charAt_3b067_3 : decode cJ1_charAt_3b067 3 = .ok (.invokestatic 9, 3) := by decide +kernel
theorem dJ1_charAt_3b067_6 : decode cJ1_charAt_3b067 6 = .ok (.aload_n 0, 1) := by decide +kernel
theorem dJ1_charAt_3b067_7 : decode cJ1_charAt_3b067 7 = .ok (.iload_n 1, 1) := by decide +kernel
theorem dJ1_charAt_3b067_8 : decode cJ1_charAt_3b067 8 = .ok (.baload, 1) := by decide +kernel
theorem dJ1_charAt_3b067_9 : decode cJ1_charAt_3b067 9 = .ok (.sipush 255, 3) := by decide +kernel
theorem dJ1_charAt_3b067_12 : decode cJ1_charAt_3b067 12 = .ok (.iand, 1) := by decide +kernel
theorem dJ1_charAt_3b067_13 : decode cJ1_charAt_3b067 13 = .ok (.i2c, 1) := by decide +kernel
theorem dJ1_charAt_3b067_14 : decode cJ1_charAt_3b067 14 = .ok (.ireturn, 1) := by decide +kernel
set_option maxRecDepth 20000 in
theorem ggJ2_getChar_3b067_J2_length_9d52b : GoodIn wsJ2_getChar_3b067 wsJ2_length_9d52b := goodIn_r _ [7] (by decide +kernel) (by decide +kernel)
set_option maxRecDepth 20000 in
theorem gJ2_getChar_3b067_J2_length_9d52b : GoodIn wsJ2_getChar_3b067 (va_wsS RJ2 48 yJ2_length_9d52b wsJ2_length_9d52b) := goodIn_app (goodIn_of _ (by decide +kernel)) ggJ2_getChar_3b067_J2_length_9d52b
theorem dJ2_getChar_3b067_0 : decode cJ2_getChar_3b067 0 = .ok (.getstatic 44, 3) := by decide +kernel
theorem dJ2_getChar_3b067_3 : decode cJ2_getChar_3b067 3 = .ok (.ifCond .ne 25, 3) := by decide +kernel
theorem dJ2_getChar_3b067_6 : decode cJ2_getChar_3b067 6 = .ok (.iload_n 1, 1) := by decide +kernel
theorem dJ2_getChar_3b067_7 : decode cJ2_getChar_3b067 7 = .ok (.ifCond .lt 11, 3) := by decide +kernel
theorem dJ2_getChar_3b067_10 : decode cJ2_getChar_3b067 10 = .ok (.iload_n 1, 1) := by decide +kernel
theorem dJ2_getChar_3b067_11 : decode cJ2_getChar_3b067 11 = .ok (.aload_n 0, 1) := by decide +kernel
theorem dJ2_getChar_3b067_12 : decode cJ2_getChar_3b067 12 = .ok (.invokestatic 48, 3) := by decide +kernel
theorem dJ2_getChar_3b067_15 : decode cJ2_getChar_3b067 15 = .ok (.if_icmp .lt 13, 3) := by decide +kernel
theorem dJ2_getChar_3b067_18 : decode cJ2_getChar_3b067 18 = .ok (.new 52, 3) := by decide +kernel
theorem dJ2_getChar_3b067_21 : decode cJ2_getChar_3b067 21 = .ok (.dup, 1) := by decide +kernel
theorem dJ2_getChar_3b067_22 : decode cJ2_getChar_3b067 22 = .ok (.ldc 54, 2) := by decide +kernel
theorem dJ2_getChar_3b067_24 : decode cJ2_getChar_3b067 24 = .ok (.invokespecial 56, 3) := by decide +kernel
theorem dJ2_getChar_3b067_27 : decode cJ2_getChar_3b067 27 = .ok (.athrow, 1) := by decide +kernel
theorem dJ2_getChar_3b067_28 : decode cJ2_getChar_3b067 28 = .ok (.iload_n 1, 1) := by decide +kernel
theorem dJ2_getChar_3b067_29 : decode cJ2_getChar_3b067 29 = .ok (.iconst 1, 1) := by decide +kernel
theorem dJ2_getChar_3b067_30 : decode cJ2_getChar_3b067 30 = .ok (.ishl, 1) := by decide +kernel
theorem dJ2_getChar_3b067_31 : decode cJ2_getChar_3b067 31 = .ok (.istore_n 1, 1) := by decide +kernel
theorem dJ2_getChar_3b067_32 : decode cJ2_getChar_3b067 32 = .ok (.aload_n 0, 1) := by decide +kernel
theorem dJ2_getChar_3b067_33 : decode cJ2_getChar_3b067 33 = .ok (.iload_n 1, 1) := by decide +kernel
theorem dJ2_getChar_3b067_34 : decode cJ2_getChar_3b067 34 = .ok (.iinc 1 1, 3) := by decide +kernel
theorem dJ2_getChar_3b067_37 : decode cJ2_getChar_3b067 37 = .ok (.baload, 1) := by decide +kernel
theorem dJ2_getChar_3b067_38 : decode cJ2_getChar_3b067 38 = .ok (.sipush 255, 3) := by decide +kernel
theorem dJ2_getChar_3b067_41 : decode cJ2_getChar_3b067 41 = .ok (.iand, 1) := by decide +kernel
theorem dJ2_getChar_3b067_42 : decode cJ2_getChar_3b067 42 = .ok (.getstatic 59, 3) := by decide +kernel
theorem dJ2_getChar_3b067_45 : decode cJ2_getChar_3b067 45 = .ok (.ishl, 1) := by decide +kernel
theorem dJ2_getChar_3b067_46 : decode cJ2_getChar_3b067 46 = .ok (.aload_n 0, 1) := by decide +kernel
theorem dJ2_getChar_3b067_47 : decode cJ2_getChar_3b067 47 = .ok (.iload_n 1, 1) := by decide +kernel
theorem dJ2_getChar_3b067_48 : decode cJ2_getChar_3b067 48 = .ok (.baload, 1) := by decide +kernel
theorem dJ2_getChar_3b067_49 : decode cJ2_getChar_3b067 49 = .ok (.sipush 255, 3) := by decide +kernel
theorem dJ2_getChar_3b067_52 : decode cJ2_getChar_3b067 52 = .ok (.iand, 1) := by decide +kernel
theorem dJ2_getChar_3b067_53 : decode cJ2_getChar_3b067 53 = .ok (.getstatic 63, 3) := by decide +kernel
theorem dJ2_getChar_3b067_56 : decode cJ2_getChar_3b067 56 = .ok (.ishl, 1) := by decide +kernel
theorem dJ2_getChar_3b067_57 : decode cJ2_getChar_3b067 57 = .ok (.ior, 1) := by decide +kernel
theorem dJ2_getChar_3b067_58 : decode cJ2_getChar_3b067 58 = .ok (.i2c, 1) := by decide +kernel
theorem dJ2_getChar_3b067_59 : decode cJ2_getChar_3b067 59 = .ok (.ireturn, 1) := by decide +kernel
theorem dJ2_length_9d52b_0 : decode cJ2_length_9d52b 0 = .ok (.aload_n 0, 1) := by decide +kernel
theorem dJ2_length_9d52b_1 : decode cJ2_length_9d52b 1 = .ok (.arraylength, 1) := by decide +kernel
theorem dJ2_length_9d52b_2 : decode cJ2_length_9d52b 2 = .ok (.iconst 1, 1) := by decide +kernel
theorem dJ2_length_9d52b_3 : decode cJ2_length_9d52b 3 = .ok (.ishr, 1) := by decide +kernel
theorem dJ2_length_9d52b_4 : decode cJ2_length_9d52b 4 = .ok (.ireturn, 1) := by decide +kernel
set_option maxRecDepth 20000 in
theorem ggJ2_charAt_3b067_J2_checkIndex_2214a : GoodIn wsJ2_charAt_3b067 wsJ2_checkIndex_2214a := goodIn_r _ [4, 5, 6, 3, 7, 8, 9, 10, 11, 12, 13, 14, 15, 16] (by decide +kernel) (by decide +kernel)
set_option maxRecDepth 20000 in
theorem gJ2_charAt_3b067_J2_checkIndex_2214a : GoodIn wsJ2_charAt_3b067 (va_wsS RJ2 67 yJ2_checkIndex_2214a wsJ2_checkIndex_2214a) := goodIn_app (goodIn_of _ (by decide +kernel)) ggJ2_charAt_3b067_J2_checkIndex_2214a
set_option maxRecDepth 20000 in
theorem ggJ2_charAt_3b067_J2_getChar_3b067 : GoodIn wsJ2_charAt_3b067 wsJ2_getChar_3b067 := goodIn_r _ [19, 20, 21, 22, 5, 6, 3, 7] (by decide +kernel) (by decide +kernel)
set_option maxRecDepth 20000 in
theorem gJ2_charAt_3b067_J2_getChar_3b067 : GoodIn wsJ2_charAt_3b067 (va_wsS RJ2 71 yJ2_getChar_3b067 wsJ2_getChar_3b067) := goodIn_app (goodIn_of _ (by decide +kernel)) ggJ2_charAt_3b067_J2_getChar_3b067
theorem dJ2_charAt_3b067_0 : decode cJ2_charAt_3b067 0 = .ok (.iload_n 1, 1) := by decide +kernel
theorem dJ2_charAt_3b067_1 : decode cJ2_charAt_3b067 1 = .ok (.aload_n 0, 1) := by decide +kernel
theorem dJ2_charAt_3b067_2 : decode cJ2_charAt_3b067 2 = .ok (.invokestatic 67, 3) := by decide +kernel
theorem dJ2_charAt_3b067_5 : decode cJ2_charAt_3b067 5 = .ok (.aload_n 0, 1) := by decide +kernel
theorem dJ2_charAt_3b067_6 : decode cJ2_charAt_3b067 6 = .ok (.iload_n 1, 1) := by decide +kernel
theorem dJ2_charAt_3b067_7 : decode cJ2_charAt_3b067 7 = .ok (.invokestatic 71, 3) := by decide +kernel
theorem dJ2_charAt_3b067_10 : decode cJ2_charAt_3b067 10 = .ok (.ireturn, 1) := by decide +kernel
set_option maxRecDepth 20000 in
theorem ggJ2_checkIndex_2214a_J2_length_9d52b : GoodIn wsJ2_checkIndex_2214a wsJ2_length_9d52b := goodIn_r _ [4] (by decide +kernel) (by decide +kernel)
set_option maxRecDepth 20000 in
theorem gJ2_checkIndex_2214a_J2_length_9d52b : GoodIn wsJ2_checkIndex_2214a (va_wsS RJ2 48 yJ2_length_9d52b wsJ2_length_9d52b) := goodIn_app (goodIn_of _ (by decide +kernel)) ggJ2_checkIndex_2214a_J2_length_9d52b
set_option maxRecDepth 20000 in
theorem ggJ2_checkIndex_2214a_J0_checkIndex_df160 : GoodIn wsJ2_checkIndex_2214a wsJ0_checkIndex_df160 := goodIn_r _ [8, 9, 10, 11, 12, 13] (by decide +kernel) (by decide +kernel)
set_option maxRecDepth 20000 in
theorem gJ2_checkIndex_2214a_J0_checkIndex_df160 : GoodIn wsJ2_checkIndex_2214a (va_wsS RJ2 414 yJ0_checkIndex_df160 wsJ0_checkIndex_df160) := goodIn_app (goodIn_of _ (by decide +kernel)) ggJ2_checkIndex_2214a_J0_checkIndex_df160
theorem dJ2_checkIndex_2214a_0 : decode cJ2_checkIndex_2214a 0 = .ok (.iload_n 0, 1) := by decide +kernel
theorem dJ2_checkIndex_2214a_1 : decode cJ2_checkIndex_2214a 1 = .ok (.aload_n 1, 1) := by decide +kernel
theorem dJ2_checkIndex_2214a_2 : decode cJ2_checkIndex_2214a 2 = .ok (.invokestatic 48, 3) := by decide +kernel
theorem dJ2_checkIndex_2214a_5 : decode cJ2_checkIndex_2214a 5 = .ok (.invokestatic 414, 3) := by decide +kernel
theorem dJ2_checkIndex_2214a_8 : decode cJ2_checkIndex_2214a 8 = .ok (.return_, 1) := by decide +kernel
theorem dJ3_checkIndex_8e157_0 : decode cJ3_checkIndex_8e157 0 = .ok (.iload_n 0, 1) := by decide +kernel
theorem dJ3_checkIndex_8e157_1 : decode cJ3_checkIndex_8e157 1 = .ok (.ifCond .lt 8, 3) := by decide +kernel
theorem dJ3_checkIndex_8e157_4 : decode cJ3_checkIndex_8e157 4 = .ok (.iload_n 0, 1) := by decide +kernel
theorem dJ3_checkIndex_8e157_5 : decode cJ3_checkIndex_8e157 5 = .ok (.iload_n 1, 1) := by decide +kernel
theorem dJ3_checkIndex_8e157_6 : decode cJ3_checkIndex_8e157 6 = .ok (.if_icmp .lt 10, 3) := by decide +kernel
theorem dJ3_checkIndex_8e157_9 : decode cJ3_checkIndex_8e157 9 = .ok (.aload_n 2, 1) := by decide +kernel
theorem dJ3_checkIndex_8e157_10 : decode cJ3_checkIndex_8e157 10 = .ok (.iload_n 0, 1) := by decide +kernel
theorem dJ3_checkIndex_8e157_11 : decode cJ3_checkIndex_8e157 11 = .ok (.iload_n 1, 1) := by decide +kernel
theorem dJ3_checkIndex_8e157_12 : decode cJ3_checkIndex_8e157 12 = .ok (.invokestatic 95, 3) := by decide +kernel
theorem dJ3_checkIndex_8e157_15 : decode cJ3_checkIndex_8e157 15 = .ok (.athrow, 1) := by decide +kernel
theorem dJ3_checkIndex_8e157_16 : decode cJ3_checkIndex_8e157 16 = .ok (.iload_n 0, 1) := by decide +kernel
theorem dJ3_checkIndex_8e157_17 : decode cJ3_checkIndex_8e157 17 = .ok (.ireturn, 1) := by decide +kernel
set_option maxRecDepth 20000 in
theorem ggL_law_X11_init : GoodIn wsL_law wsX11_init := goodIn_r _ [8, 9, 10, 11, 12, 13, 14, 15, 16, 17, 18, 19, 20, 21, 22, 23, 24, 25, 26, 27, 28, 29, 30, 31, 32, 33, 34, 35, 36, 37, 38, 39, 40, 41, 42, 43, 44, 45, 46, 47, 48, 49, 50, 51, 52, 53, 54, 55, 56, 57, 58, 59, 60, 61, 62, 63, 64, 65, 66, 67, 68, 69, 70, 71, 72, 73, 74, 75, 76, 77, 78, 79, 80, 81, 82, 83, 84, 85, 86, 87, 88, 89, 90, 91, 92, 93, 94, 95, 96, 97, 98, 99, 100, 101, 102, 103, 104, 105, 106, 107, 108, 109, 110, 111, 112, 113, 114, 115, 116, 117, 118, 119, 120, 121, 122, 123, 124, 125, 126, 127, 128, 129, 130, 131, 132, 133, 134, 135, 136, 137, 138, 139, 140, 141, 142, 143, 144, 145, 146, 147, 148, 149, 150, 1660, 1661, 1662, 1663, 1664, 1665, 1666, 1667, 1668, 1669, 1670, 1671, 1612, 1613, 1614, 1615, 1616, 1617, 1618, 1619, 1620, 1621, 1622, 1623, 1672, 1673, 1674, 1675, 1676, 1677, 1678, 1679, 1680, 1681, 1682, 1683, 1684, 1685, 1686, 1687, 1688, 1689, 1690, 1691, 1692, 1693, 1694, 1695, 1696, 1697, 1698, 1699, 1700, 1701, 1702, 1703, 1704, 1705, 1706, 1707, 1708, 1709, 1710, 1711, 1712, 1713, 1714, 1715, 1716, 1717, 1718, 1719, 1720, 1721, 1722, 1723, 1724, 1725, 1726, 1727, 1728, 1729, 1730] (by decide +kernel) (by decide +kernel)
set_option maxRecDepth 20000 in
theorem gL_law_X11_init : GoodIn wsL_law (wsX11_init) := ggL_law_X11_init
set_option maxRecDepth 20000 in
theorem ggL_law_X12_init : GoodIn wsL_law wsX12_init := goodIn_r _ [153, 154, 10, 11, 50, 155, 156, 157, 158, 159, 160, 161, 162, 163, 164, 131, 165, 166, 167, 168, 169, 170, 171, 172, 173, 174, 175, 176, 177, 178, 179, 5, 180, 1624, 1625, 1626, 1627, 1628, 1629, 1630, 1631, 1632, 1633, 1634, 1635, 1636, 1637, 1638, 1639, 1640, 1641, 1642, 1643, 1644, 1645, 1646, 1647, 1648, 1649, 1650, 1651, 1652, 1653, 1654, 1655, 1656, 1657, 1658, 1659] (by decide +kernel) (by decide +kernel)
set_option maxRecDepth 20000 in
theorem gL_law_X12_init : GoodIn wsL_law (wsX12_init) := ggL_law_X12_init
set_option maxRecDepth 20000 in
theorem ggL_law_X11_pain : GoodIn wsL_law wsX11_pain := goodIn_r _ [184, 15, 32, 185, 186, 187, 2, 188, 1612, 1613, 1614, 1615, 1616, 1617, 1618, 1619, 1620, 1621, 1622, 1623, 1660, 1661, 1662, 1663, 1664, 1665, 1666, 1667, 1668, 1669, 1670, 1671, 1722, 1723, 1724, 1725, 1726] (by decide +kernel) (by decide +kernel)
set_option maxRecDepth 20000 in
theorem gL_law_X11_pain : GoodIn wsL_law (wsV RL 13 RX11 yX11_pain wsX11_pain) := goodIn_app (goodIn_of _ (by decide +kernel)) ggL_law_X11_pain
set_option maxRecDepth 20000 in
theorem ggL_law_X12_pain : GoodIn wsL_law wsX12_pain := goodIn_r _ [192, 155, 193, 194, 5, 195, 196, 197, 198, 1624, 1625, 1626, 1627, 1628, 1629, 1630, 1631, 1632, 1633, 1634, 1635, 1636, 1637, 1638, 1639, 1640, 1641, 1642, 1643, 1644, 1645, 1646, 1647, 1648, 1649, 1650, 1651, 1652, 1653, 1654, 1655, 1656, 1657, 1658, 1659] (by decide +kernel) (by decide +kernel)
set_option maxRecDepth 20000 in
theorem gL_law_X12_pain : GoodIn wsL_law (wsV RL 17 RX12 yX12_pain wsX12_pain) := goodIn_app (goodIn_of _ (by decide +kernel)) ggL_law_X12_pain
set_option maxRecDepth 20000 in
theorem ggL_law_X11_hang : GoodIn wsL_law wsX11_hang := goodIn_r _ [202, 15, 32, 203, 204, 205, 59, 206, 75, 187, 2, 188, 207, 208, 209, 210, 211, 212, 76, 78, 213, 214, 215, 216, 77, 217, 218, 219, 220, 221, 222, 223, 1612, 1613, 1614, 1615, 1616, 1617, 1618, 1619, 1620, 1621, 1622, 1623, 1660, 1661, 1662, 1663, 1664, 1665, 1666, 1667, 1668, 1669, 1670, 1671, 1722, 1723, 1724, 1725, 1726] (by decide +kernel) (by decide +kernel)
set_option maxRecDepth 20000 in
theorem gL_law_X11_hang : GoodIn wsL_law (wsV RL 18 RX11 yX11_hang wsX11_hang) := goodIn_app (goodIn_of _ (by decide +kernel)) ggL_law_X11_hang
set_option maxRecDepth 20000 in
theorem ggL_law_X12_hang : GoodIn wsL_law wsX12_hang := goodIn_r _ [227, 155, 193, 194, 5, 195, 196, 197, 198, 228, 229, 230, 1624, 1625, 1626, 1627, 1628, 1629, 1630, 1631, 1632, 1633, 1634, 1635, 1636, 1637, 1638, 1639, 1640, 1641, 1642, 1643, 1644, 1645, 1646, 1647, 1648, 1649, 1650, 1651, 1652, 1653, 1654, 1655, 1656, 1657, 1658, 1659] (by decide +kernel) (by decide +kernel)
set_option maxRecDepth 20000 in
theorem gL_law_X12_hang : GoodIn wsL_law (wsV RL 22 RX12 yX12_hang wsX12_hang) := goodIn_app (goodIn_of _ (by decide +kernel)) ggL_law_X12_hang
set_option maxRecDepth 20000 in
theorem ggL_law_X11_person : GoodIn wsL_law wsX11_person := goodIn_r _ [234, 15, 186, 187, 2, 188, 235, 236, 237, 14, 238, 62, 239, 240, 63, 241, 242, 243, 244, 245, 19, 246, 82, 83, 84, 85, 86, 87, 1612, 1613, 1614, 1615, 1616, 1617, 1618, 1619, 1620, 1621, 1622, 1623, 1660, 1661, 1662, 1663, 1664, 1665, 1666, 1667, 1668, 1669, 1670, 1671, 1672, 1673, 1674, 1675, 1676, 1677, 1678, 1679, 1680, 1681, 1682, 1683] (by decide +kernel) (by decide +kernel)
set_option maxRecDepth 20000 in
theorem gL_law_X11_person : GoodIn wsL_law (wsV RL 23 RX11 yX11_person wsX11_person) := goodIn_app (goodIn_of _ (by decide +kernel)) ggL_law_X11_person
set_option maxRecDepth 20000 in
theorem ggL_law_X12_person : GoodIn wsL_law wsX12_person := goodIn_r _ [250, 155, 193, 194, 5, 195, 196, 197, 198, 251, 252, 253, 254, 255, 256, 257, 258, 1624, 1625, 1626, 1627, 1628, 1629, 1630, 1631, 1632, 1633, 1634, 1635, 1636, 1637, 1638, 1639, 1640, 1641, 1642, 1643, 1644, 1645, 1646, 1647, 1648, 1649, 1650, 1651, 1652, 1653, 1654, 1655, 1656, 1657, 1658, 1659] (by decide +kernel) (by decide +kernel)
set_option maxRecDepth 20000 in
theorem gL_law_X12_person : GoodIn wsL_law (wsV RL 27 RX12 yX12_person wsX12_person) := goodIn_app (goodIn_of _ (by decide +kernel)) ggL_law_X12_person
set_option maxRecDepth 20000 in
theorem ggL_law_X11_feed : GoodIn wsL_law wsX11_feed := goodIn_r _ [262, 52, 263, 264, 265, 2, 266, 51, 1612, 1613, 1614, 1615, 1616, 1617, 1618, 1619, 1620, 1621, 1622, 1623] (by decide +kernel) (by decide +kernel)
set_option maxRecDepth 20000 in
theorem gL_law_X11_feed : GoodIn wsL_law (wsV RL 28 RX11 yX11_feed wsX11_feed) := goodIn_app (goodIn_of _ (by decide +kernel)) ggL_law_X11_feed
set_option maxRecDepth 20000 in
theorem ggL_law_X12_feed : GoodIn wsL_law wsX12_feed := goodIn_r _ [270, 271, 272, 273, 274, 5, 275, 160, 1624, 1625, 1626, 1627, 1628, 1629, 1630, 1631, 1632, 1633, 1634, 1635, 1636, 1637, 1638, 1639, 1640, 1641, 1642, 1643, 1644, 1645, 1646, 1647, 1648, 1649, 1650, 1651, 1652, 1653, 1654, 1655, 1656, 1657, 1658, 1659] (by decide +kernel) (by decide +kernel)
set_option maxRecDepth 20000 in
theorem gL_law_X12_feed : GoodIn wsL_law (wsV RL 32 RX12 yX12_feed wsX12_feed) := goodIn_app (goodIn_of _ (by decide +kernel)) ggL_law_X12_feed
set_option maxRecDepth 20000 in
theorem ggL_law_X11_end : GoodIn wsL_law wsX11_end := goodIn_r _ [279, 52, 1612, 1613, 1614, 1615, 1616, 1617, 1618, 1619, 1620, 1621, 1622, 1623] (by decide +kernel) (by decide +kernel)
set_option maxRecDepth 20000 in
theorem gL_law_X11_end : GoodIn wsL_law (wsV RL 33 RX11 yX11_end wsX11_end) := goodIn_app (goodIn_of _ (by decide +kernel)) ggL_law_X11_end
set_option maxRecDepth 20000 in
theorem ggL_law_X12_end : GoodIn wsL_law wsX12_end := goodIn_r _ [283, 271, 196, 197, 5, 198, 1624, 1625, 1626, 1627, 1628, 1629, 1630, 1631, 1632, 1633, 1634, 1635, 1636, 1637, 1638, 1639, 1640, 1641, 1642, 1643, 1644, 1645, 1646, 1647, 1648, 1649, 1650, 1651, 1652, 1653, 1654, 1655, 1656, 1657, 1658, 1659] (by decide +kernel) (by decide +kernel)
set_option maxRecDepth 20000 in
theorem gL_law_X12_end : GoodIn wsL_law (wsV RL 37 RX12 yX12_end wsX12_end) := goodIn_app (goodIn_of _ (by decide +kernel)) ggL_law_X12_end
set_option maxRecDepth 20000 in
theorem ggL_law_X11_text : GoodIn wsL_law wsX11_text := goodIn_r _ [287, 15, 288, 28, 51, 52, 22, 289, 290, 291, 292, 27, 293, 105, 106, 294, 295, 296, 297, 298, 299, 300, 301, 104, 302, 303, 304, 305, 215, 306, 307, 308, 309, 310, 311, 312, 313, 314, 315, 316, 317, 318, 319, 320, 321, 322, 323, 324, 325, 326, 327, 328, 329, 330, 331, 332, 333, 334, 335, 336, 337, 338, 339, 340, 341, 342, 343, 344, 345, 346, 347, 348, 349, 350, 351, 352, 353, 354, 355, 356, 357, 358, 359, 360, 361, 362, 363, 364, 365, 366, 367, 368, 369, 370, 371, 372, 373, 374, 375, 376, 377, 378, 379, 380, 381, 382, 383, 384, 110, 111, 112, 385, 386, 387, 388, 389, 390, 391, 392, 393, 24, 394, 395, 396, 397, 398, 399, 400, 401, 402, 403, 404, 405, 406, 407, 408, 409, 410, 411, 412, 413, 414, 415, 416, 417, 418, 419, 420, 421, 422, 423, 424, 425, 426, 427, 428, 429, 430, 431, 432, 433, 434, 435, 436, 437, 438, 439, 440, 441, 442, 443, 444, 445, 96, 97, 446, 447, 448, 449, 450, 451, 452, 453, 454, 455, 456, 457, 458, 459, 460, 461, 462, 463, 464, 465, 466, 467, 468, 469, 470, 471, 472, 473, 474, 475, 476, 477, 478, 479, 480, 481, 482, 483, 484, 485, 486, 487, 488, 489, 490, 491, 492, 493, 494, 495, 496, 497, 498, 499, 500, 501, 502, 503, 504, 505, 506, 93, 94, 95, 507, 508, 509, 510, 511, 512, 513, 514, 515, 516, 1612, 1613, 1614, 1615, 1616, 1617, 1618, 1619, 1620, 1621, 1622, 1623, 1660, 1661, 1662, 1663, 1664, 1665, 1666, 1667, 1668, 1669, 1670, 1671, 1695, 1696, 1697, 1698, 1699, 1700, 1701, 1702, 1703, 1727, 1728, 1729, 1730, 1684, 1685, 1686, 1687, 1688, 1689, 1690, 1691, 1692, 1693, 1694] (by decide +kernel) (by decide +kernel)
set_option maxRecDepth 20000 in
theorem gL_law_X11_text : GoodIn wsL_law (wsV RL 38 RX11 yX11_text wsX11_text) := goodIn_app (goodIn_of _ (by decide +kernel)) ggL_law_X11_text
set_option maxRecDepth 20000 in
theorem ggL_law_X12_text : GoodIn wsL_law wsX12_text := goodIn_r _ [520, 155, 161, 521, 162, 271, 522, 523, 524, 5, 525, 526, 157, 527, 528, 529, 530, 531, 532, 533, 534, 535, 536, 537, 538, 539, 540, 541, 542, 160, 543, 544, 545, 546, 547, 548, 549, 550, 551, 552, 553, 554, 555, 556, 557, 558, 559, 560, 561, 562, 563, 564, 565, 566, 567, 568, 569, 570, 571, 572, 573, 574, 575, 576, 577, 578, 579, 228, 229, 230, 580, 581, 582, 583, 584, 585, 586, 587, 588, 589, 590, 591, 196, 197, 198, 592, 593, 594, 595, 596, 597, 598, 599, 600, 601, 602, 603, 604, 605, 606, 163, 607, 608, 609, 610, 611, 612, 613, 614, 615, 616, 617, 618, 619, 620, 621, 622, 623, 624, 625, 626, 627, 628, 629, 630, 631, 632, 633, 634, 635, 636, 637, 638, 639, 640, 641, 642, 643, 644, 645, 646, 647, 648, 649, 650, 651, 652, 653, 654, 655, 656, 657, 658, 659, 660, 661, 662, 663, 664, 665, 1624, 1625, 1626, 1627, 1628, 1629, 1630, 1631, 1632, 1633, 1634, 1635, 1636, 1637, 1638, 1639, 1640, 1641, 1642, 1643, 1644, 1645, 1646, 1647, 1648, 1649, 1650, 1651, 1652, 1653, 1654, 1655, 1656, 1657, 1658, 1659] (by decide +kernel) (by decide +kernel)
set_option maxRecDepth 20000 in
theorem gL_law_X12_text : GoodIn wsL_law (wsV RL 42 RX12 yX12_text wsX12_text) := goodIn_app (goodIn_of _ (by decide +kernel)) ggL_law_X12_text
set_option maxRecDepth 20000 in
theorem ggL_law_X11_fault : GoodIn wsL_law wsX11_fault := goodIn_r _ [669, 28, 670, 289, 671, 1612, 1613, 1614, 1615, 1616, 1617, 1618, 1619, 1620, 1621, 1622, 1623, 1695, 1696, 1697, 1698, 1699, 1700, 1701, 1702, 1703] (by decide +kernel) (by decide +kernel)
set_option maxRecDepth 20000 in
theorem gL_law_X11_fault : GoodIn wsL_law (wsV RL 43 RX11 yX11_fault wsX11_fault) := goodIn_app (goodIn_of _ (by decide +kernel)) ggL_law_X11_fault
set_option maxRecDepth 20000 in
theorem ggL_law_X12_fault : GoodIn wsL_law wsX12_fault := goodIn_r _ [675, 161, 162, 1624, 1625, 1626, 1627, 1628, 1629, 1630, 1631, 1632, 1633, 1634, 1635, 1636, 1637, 1638, 1639, 1640, 1641, 1642, 1643, 1644, 1645, 1646, 1647, 1648, 1649, 1650, 1651, 1652, 1653, 1654, 1655, 1656, 1657, 1658, 1659] (by decide +kernel) (by decide +kernel)
set_option maxRecDepth 20000 in
theorem gL_law_X12_fault : GoodIn wsL_law (wsV RL 46 RX12 yX12_fault wsX12_fault) := goodIn_app (goodIn_of _ (by decide +kernel)) ggL_law_X12_fault
set_option maxRecDepth 20000 in
theorem ggL_law_X11_by : GoodIn wsL_law wsX11_by := goodIn_r _ [679, 15, 680, 681, 682, 683, 2, 684, 288, 1612, 1613, 1614, 1615, 1616, 1617, 1618, 1619, 1620, 1621, 1622, 1623, 1660, 1661, 1662, 1663, 1664, 1665, 1666, 1667, 1668, 1669, 1670, 1671] (by decide +kernel) (by decide +kernel)
set_option maxRecDepth 20000 in
theorem gL_law_X11_by : GoodIn wsL_law (wsV RL 47 RX11 yX11_by wsX11_by) := goodIn_app (goodIn_of _ (by decide +kernel)) ggL_law_X11_by
set_option maxRecDepth 20000 in
theorem ggL_law_X12_by : GoodIn wsL_law wsX12_by := goodIn_r _ [688, 155, 196, 197, 5, 198, 1624, 1625, 1626, 1627, 1628, 1629, 1630, 1631, 1632, 1633, 1634, 1635, 1636, 1637, 1638, 1639, 1640, 1641, 1642, 1643, 1644, 1645, 1646, 1647, 1648, 1649, 1650, 1651, 1652, 1653, 1654, 1655, 1656, 1657, 1658, 1659] (by decide +kernel) (by decide +kernel)
set_option maxRecDepth 20000 in
theorem gL_law_X12_by : GoodIn wsL_law (wsV RL 51 RX12 yX12_by wsX12_by) := goodIn_app (goodIn_of _ (by decide +kernel)) ggL_law_X12_by
set_option maxRecDepth 20000 in
theorem ggL_law_X11_ask : GoodIn wsL_law wsX11_ask := goodIn_r _ [692, 15, 693, 37, 694, 695, 696, 19, 697, 83, 698, 699, 700, 701, 702, 703, 704, 705, 14, 706, 240, 63, 62, 707, 708, 709, 710, 82, 711, 712, 713, 714, 84, 85, 86, 87, 88, 715, 716, 717, 89, 718, 719, 720, 36, 721, 126, 722, 124, 723, 724, 725, 726, 305, 215, 306, 727, 728, 729, 730, 731, 732, 733, 734, 187, 2, 188, 735, 736, 737, 738, 739, 125, 207, 208, 740, 741, 742, 31, 743, 119, 744, 117, 745, 746, 747, 748, 749, 214, 216, 750, 751, 426, 427, 24, 428, 398, 400, 752, 753, 754, 755, 756, 757, 758, 759, 760, 761, 241, 242, 762, 218, 219, 220, 221, 222, 223, 763, 764, 765, 766, 767, 768, 118, 769, 770, 771, 772, 773, 774, 775, 776, 777, 778, 779, 780, 781, 782, 783, 784, 785, 786, 787, 788, 789, 790, 791, 792, 793, 794, 795, 796, 797, 798, 799, 800, 801, 802, 803, 1612, 1613, 1614, 1615, 1616, 1617, 1618, 1619, 1620, 1621, 1622, 1623, 1660, 1661, 1662, 1663, 1664, 1665, 1666, 1667, 1668, 1669, 1670, 1671, 1672, 1673, 1674, 1675, 1676, 1677, 1678, 1679, 1680, 1681, 1682, 1683, 1707, 1708, 1709, 1722, 1723, 1724, 1725, 1726, 1704, 1705, 1706, 1684, 1685, 1686, 1687, 1688, 1689, 1690, 1691, 1692, 1693, 1694] (by decide +kernel) (by decide +kernel)
set_option maxRecDepth 20000 in
theorem gL_law_X11_ask : GoodIn wsL_law (wsV RL 52 RX11 yX11_ask wsX11_ask) := goodIn_app (goodIn_of _ (by decide +kernel)) ggL_law_X11_ask
set_option maxRecDepth 20000 in
theorem ggL_law_X12_ask : GoodIn wsL_law wsX12_ask := goodIn_r _ [807, 808, 809, 810, 5, 811, 812, 813, 814, 815, 155, 196, 197, 198, 816, 817, 818, 819, 820, 821, 822, 823, 824, 825, 826, 827, 828, 829, 830, 831, 832, 228, 229, 230, 833, 834, 835, 836, 164, 159, 837, 838, 839, 840, 841, 842, 843, 844, 158, 845, 846, 847, 848, 849, 850, 851, 157, 852, 853, 854, 855, 165, 167, 856, 857, 858, 859, 860, 861, 862, 863, 864, 865, 866, 867, 868, 869, 870, 871, 872, 873, 874, 875, 876, 877, 878, 879, 880, 251, 252, 253, 254, 881, 882, 883, 884, 885, 886, 887, 888, 889, 890, 891, 892, 168, 1624, 1625, 1626, 1627, 1628, 1629, 1630, 1631, 1632, 1633, 1634, 1635, 1636, 1637, 1638, 1639, 1640, 1641, 1642, 1643, 1644, 1645, 1646, 1647, 1648, 1649, 1650, 1651, 1652, 1653, 1654, 1655, 1656, 1657, 1658, 1659] (by decide +kernel) (by decide +kernel)
set_option maxRecDepth 20000 in
theorem gL_law_X12_ask : GoodIn wsL_law (wsV RL 55 RX12 yX12_ask wsX12_ask) := goodIn_app (goodIn_of _ (by decide +kernel)) ggL_law_X12_ask
set_option maxRecDepth 20000 in
theorem ggL_law_X11_give : GoodIn wsL_law wsX11_give := goodIn_r _ [896, 37, 15, 693, 897, 898, 899, 36, 900, 722, 733, 727, 695, 696, 19, 697, 83, 698, 699, 700, 701, 702, 187, 2, 188, 207, 208, 703, 704, 705, 14, 706, 240, 63, 62, 707, 708, 709, 710, 82, 711, 712, 713, 714, 84, 85, 86, 87, 88, 715, 716, 717, 89, 901, 902, 903, 904, 124, 723, 724, 241, 242, 800, 801, 802, 803, 799, 305, 215, 306, 1612, 1613, 1614, 1615, 1616, 1617, 1618, 1619, 1620, 1621, 1622, 1623, 1660, 1661, 1662, 1663, 1664, 1665, 1666, 1667, 1668, 1669, 1670, 1671, 1672, 1673, 1674, 1675, 1676, 1677, 1678, 1679, 1680, 1681, 1682, 1683, 1707, 1708, 1709, 1722, 1723, 1724, 1725, 1726] (by decide +kernel) (by decide +kernel)
set_option maxRecDepth 20000 in
theorem gL_law_X11_give : GoodIn wsL_law (wsV RL 56 RX11 yX11_give wsX11_give) := goodIn_app (goodIn_of _ (by decide +kernel)) ggL_law_X11_give
set_option maxRecDepth 20000 in
theorem ggL_law_X12_give : GoodIn wsL_law wsX12_give := goodIn_r _ [908, 909, 910, 911, 5, 912, 808, 809, 810, 811, 812, 813, 814, 815, 155, 196, 197, 198, 816, 817, 818, 819, 193, 194, 195, 228, 229, 230, 820, 821, 822, 823, 913, 914, 915, 916, 251, 252, 253, 254, 881, 882, 883, 884, 878, 879, 880, 1624, 1625, 1626, 1627, 1628, 1629, 1630, 1631, 1632, 1633, 1634, 1635, 1636, 1637, 1638, 1639, 1640, 1641, 1642, 1643, 1644, 1645, 1646, 1647, 1648, 1649, 1650, 1651, 1652, 1653, 1654, 1655, 1656, 1657, 1658, 1659] (by decide +kernel) (by decide +kernel)
set_option maxRecDepth 20000 in
theorem gL_law_X12_give : GoodIn wsL_law (wsV RL 59 RX12 yX12_give wsX12_give) := goodIn_app (goodIn_of _ (by decide +kernel)) ggL_law_X12_give
set_option maxRecDepth 20000 in
theorem ggL_law_X11_again : GoodIn wsL_law wsX11_again := goodIn_r _ [920, 37, 15, 693, 921, 922, 923, 924, 36, 925, 926, 734, 699, 700, 19, 701, 702, 187, 2, 188, 703, 704, 705, 14, 706, 240, 63, 62, 707, 708, 709, 710, 82, 711, 712, 713, 714, 83, 84, 85, 86, 87, 88, 715, 716, 717, 89, 927, 244, 245, 246, 241, 242, 1612, 1613, 1614, 1615, 1616, 1617, 1618, 1619, 1620, 1621, 1622, 1623, 1660, 1661, 1662, 1663, 1664, 1665, 1666, 1667, 1668, 1669, 1670, 1671, 1672, 1673, 1674, 1675, 1676, 1677, 1678, 1679, 1680, 1681, 1682, 1683] (by decide +kernel) (by decide +kernel)
set_option maxRecDepth 20000 in
theorem gL_law_X11_again : GoodIn wsL_law (wsV RL 60 RX11 yX11_again wsX11_again) := goodIn_app (goodIn_of _ (by decide +kernel)) ggL_law_X11_again
set_option maxRecDepth 20000 in
theorem ggL_law_X12_again : GoodIn wsL_law wsX12_again := goodIn_r _ [931, 932, 933, 934, 5, 935, 812, 813, 814, 815, 155, 196, 197, 198, 808, 809, 810, 811, 816, 817, 818, 819, 193, 194, 195, 820, 821, 822, 823, 255, 256, 257, 258, 251, 252, 253, 254, 1624, 1625, 1626, 1627, 1628, 1629, 1630, 1631, 1632, 1633, 1634, 1635, 1636, 1637, 1638, 1639, 1640, 1641, 1642, 1643, 1644, 1645, 1646, 1647, 1648, 1649, 1650, 1651, 1652, 1653, 1654, 1655, 1656, 1657, 1658, 1659] (by decide +kernel) (by decide +kernel)
set_option maxRecDepth 20000 in
theorem gL_law_X12_again : GoodIn wsL_law (wsV RL 63 RX12 yX12_again wsX12_again) := goodIn_app (goodIn_of _ (by decide +kernel)) ggL_law_X12_again
set_option maxRecDepth 20000 in
theorem ggL_law_X11_day : GoodIn wsL_law wsX11_day := goodIn_r _ [939, 15, 693, 940, 37, 703, 704, 705, 14, 706, 240, 63, 62, 707, 708, 709, 19, 710, 82, 711, 712, 713, 714, 83, 84, 85, 86, 87, 88, 715, 702, 716, 717, 89, 941, 942, 943, 36, 944, 926, 945, 727, 695, 696, 697, 698, 699, 700, 701, 946, 947, 948, 949, 950, 719, 720, 721, 126, 722, 124, 723, 724, 725, 726, 305, 215, 306, 728, 729, 730, 731, 732, 733, 734, 187, 2, 188, 735, 736, 737, 738, 739, 125, 207, 208, 740, 741, 742, 31, 743, 119, 744, 117, 745, 746, 747, 748, 749, 214, 216, 750, 751, 426, 427, 24, 428, 398, 400, 752, 753, 754, 755, 756, 757, 758, 759, 760, 761, 241, 242, 762, 218, 219, 220, 221, 222, 223, 763, 764, 765, 766, 767, 768, 118, 769, 770, 771, 772, 773, 774, 775, 776, 777, 778, 779, 780, 781, 782, 783, 784, 785, 786, 787, 788, 789, 790, 791, 792, 793, 794, 795, 796, 797, 798, 799, 800, 801, 802, 803, 1612, 1613, 1614, 1615, 1616, 1617, 1618, 1619, 1620, 1621, 1622, 1623, 1660, 1661, 1662, 1663, 1664, 1665, 1666, 1667, 1668, 1669, 1670, 1671, 1672, 1673, 1674, 1675, 1676, 1677, 1678, 1679, 1680, 1681, 1682, 1683, 1707, 1708, 1709, 1722, 1723, 1724, 1725, 1726, 1704, 1705, 1706, 1684, 1685, 1686, 1687, 1688, 1689, 1690, 1691, 1692, 1693, 1694] (by decide +kernel) (by decide +kernel)
set_option maxRecDepth 20000 in
theorem gL_law_X11_day : GoodIn wsL_law (wsV RL 64 RX11 yX11_day wsX11_day) := goodIn_app (goodIn_of _ (by decide +kernel)) ggL_law_X11_day
set_option maxRecDepth 20000 in
theorem ggL_law_X12_day : GoodIn wsL_law wsX12_day := goodIn_r _ [954, 155, 828, 196, 197, 5, 198, 955, 956, 957, 958, 820, 821, 822, 823, 816, 817, 818, 819, 959, 960, 961, 962, 808, 809, 810, 811, 812, 813, 814, 815, 963, 964, 965, 966, 967, 968, 969, 824, 825, 826, 827, 829, 830, 831, 832, 228, 229, 230, 833, 834, 835, 836, 164, 159, 837, 838, 839, 840, 841, 842, 843, 844, 158, 845, 846, 847, 848, 849, 850, 851, 157, 852, 853, 854, 855, 165, 167, 856, 857, 858, 859, 860, 861, 862, 863, 864, 865, 866, 867, 868, 869, 870, 871, 872, 873, 874, 875, 876, 877, 878, 879, 880, 251, 252, 253, 254, 881, 882, 883, 884, 885, 886, 887, 888, 889, 890, 891, 892, 168, 1624, 1625, 1626, 1627, 1628, 1629, 1630, 1631, 1632, 1633, 1634, 1635, 1636, 1637, 1638, 1639, 1640, 1641, 1642, 1643, 1644, 1645, 1646, 1647, 1648, 1649, 1650, 1651, 1652, 1653, 1654, 1655, 1656, 1657, 1658, 1659] (by decide +kernel) (by decide +kernel)
set_option maxRecDepth 20000 in
theorem gL_law_X12_day : GoodIn wsL_law (wsV RL 67 RX12 yX12_day wsX12_day) := goodIn_app (goodIn_of _ (by decide +kernel)) ggL_law_X12_day
set_option maxRecDepth 20000 in
theorem ggL_law_X11_played : GoodIn wsL_law wsX11_played := goodIn_r _ [973, 22, 974, 975, 976, 977, 681, 682, 683, 2, 684, 15, 288, 978, 979, 980, 981, 693, 940, 37, 982, 182, 183, 184, 32, 185, 186, 187, 188, 983, 200, 201, 202, 203, 204, 205, 59, 206, 75, 207, 208, 209, 210, 211, 212, 76, 78, 213, 214, 215, 216, 77, 217, 218, 219, 220, 221, 222, 223, 984, 232, 233, 234, 235, 236, 237, 14, 238, 62, 239, 240, 63, 241, 242, 243, 244, 245, 19, 246, 82, 83, 84, 85, 86, 87, 985, 690, 691, 692, 694, 695, 696, 697, 698, 699, 700, 701, 702, 703, 704, 705, 706, 707, 708, 709, 710, 711, 712, 713, 714, 88, 715, 716, 717, 89, 718, 719, 720, 36, 721, 126, 722, 124, 723, 724, 725, 726, 305, 306, 727, 728, 729, 730, 731, 732, 733, 734, 735, 736, 737, 738, 739, 125, 740, 741, 742, 31, 743, 119, 744, 117, 745, 746, 747, 748, 749, 750, 751, 426, 427, 24, 428, 398, 400, 752, 753, 754, 755, 756, 757, 758, 759, 760, 761, 762, 763, 764, 765, 766, 767, 768, 118, 769, 770, 771, 772, 773, 774, 775, 776, 777, 778, 779, 780, 781, 782, 783, 784, 785, 786, 787, 788, 789, 790, 791, 792, 793, 794, 795, 796, 797, 798, 799, 800, 801, 802, 803, 986, 894, 895, 896, 897, 898, 899, 900, 901, 902, 903, 904, 987, 918, 919, 920, 921, 922, 923, 924, 925, 926, 927, 941, 942, 943, 944, 945, 946, 947, 948, 949, 950, 1612, 1613, 1614, 1615, 1616, 1617, 1618, 1619, 1620, 1621, 1622, 1623, 1684, 1685, 1686, 1687, 1688, 1689, 1690, 1691, 1692, 1693, 1694, 1660, 1661, 1662, 1663, 1664, 1665, 1666, 1667, 1668, 1669, 1670, 1671, 1672, 1673, 1674, 1675, 1676, 1677, 1678, 1679, 1680, 1681, 1682, 1683, 1722, 1723, 1724, 1725, 1726, 1707, 1708, 1709, 1704, 1705, 1706] (by decide +kernel) (by decide +kernel)
set_option maxRecDepth 20000 in
theorem gL_law_X11_played : GoodIn wsL_law (wsV RL 68 RX11 yX11_played wsX11_played) := goodIn_app (goodIn_of _ (by decide +kernel)) ggL_law_X11_played
set_option maxRecDepth 20000 in
theorem ggL_law_X12_played : GoodIn wsL_law wsX12_played := goodIn_r _ [991, 155, 157, 196, 197, 5, 198, 992, 993, 994, 995, 996, 190, 191, 192, 193, 194, 195, 997, 225, 226, 227, 228, 229, 230, 998, 248, 249, 250, 251, 252, 253, 254, 255, 256, 257, 258, 999, 805, 806, 807, 808, 809, 810, 811, 812, 813, 814, 815, 816, 817, 818, 819, 820, 821, 822, 823, 824, 825, 826, 827, 828, 829, 830, 831, 832, 833, 834, 835, 836, 164, 159, 837, 838, 839, 840, 841, 842, 843, 844, 158, 845, 846, 847, 848, 849, 850, 851, 852, 853, 854, 855, 165, 167, 856, 857, 858, 859, 860, 861, 862, 863, 864, 865, 866, 867, 868, 869, 870, 871, 872, 873, 874, 875, 876, 877, 878, 879, 880, 881, 882, 883, 884, 885, 886, 887, 888, 889, 890, 891, 892, 168, 1000, 906, 907, 908, 909, 910, 911, 912, 913, 914, 915, 916, 1001, 929, 930, 931, 932, 933, 934, 935, 955, 956, 957, 958, 959, 960, 961, 962, 963, 964, 965, 966, 967, 968, 969, 1624, 1625, 1626, 1627, 1628, 1629, 1630, 1631, 1632, 1633, 1634, 1635, 1636, 1637, 1638, 1639, 1640, 1641, 1642, 1643, 1644, 1645, 1646, 1647, 1648, 1649, 1650, 1651, 1652, 1653, 1654, 1655, 1656, 1657, 1658, 1659] (by decide +kernel) (by decide +kernel)
set_option maxRecDepth 20000 in
theorem gL_law_X12_played : GoodIn wsL_law (wsV RL 71 RX12 yX12_played wsX12_played) := goodIn_app (goodIn_of _ (by decide +kernel)) ggL_law_X12_played
set_option maxRecDepth 20000 in
theorem ggL_law_X11_years : GoodIn wsL_law wsX11_years := goodIn_r _ [1005, 15, 693, 1006, 37, 940, 703, 704, 705, 14, 706, 240, 63, 62, 707, 708, 709, 19, 710, 82, 711, 712, 713, 714, 83, 84, 85, 86, 87, 88, 715, 702, 716, 717, 89, 1007, 1008, 1009, 36, 1010, 1011, 1012, 945, 946, 947, 948, 949, 950, 719, 720, 721, 126, 722, 124, 723, 724, 725, 726, 305, 215, 306, 727, 695, 696, 697, 698, 699, 700, 701, 728, 729, 730, 731, 732, 733, 734, 187, 2, 188, 735, 736, 737, 738, 739, 125, 207, 208, 740, 741, 742, 31, 743, 119, 744, 117, 745, 746, 747, 748, 749, 214, 216, 750, 751, 426, 427, 24, 428, 398, 400, 752, 753, 754, 755, 756, 757, 758, 759, 760, 761, 241, 242, 762, 218, 219, 220, 221, 222, 223, 763, 764, 765, 766, 767, 768, 118, 769, 770, 771, 772, 773, 774, 775, 776, 777, 778, 779, 780, 781, 782, 783, 784, 785, 786, 787, 788, 789, 790, 791, 792, 793, 794, 795, 796, 797, 798, 799, 800, 801, 802, 803, 1013, 898, 899, 900, 1014, 902, 903, 904, 1015, 923, 924, 925, 926, 1016, 244, 245, 246, 1017, 942, 943, 944, 1612, 1613, 1614, 1615, 1616, 1617, 1618, 1619, 1620, 1621, 1622, 1623, 1660, 1661, 1662, 1663, 1664, 1665, 1666, 1667, 1668, 1669, 1670, 1671, 1672, 1673, 1674, 1675, 1676, 1677, 1678, 1679, 1680, 1681, 1682, 1683, 1707, 1708, 1709, 1722, 1723, 1724, 1725, 1726, 1704, 1705, 1706, 1684, 1685, 1686, 1687, 1688, 1689, 1690, 1691, 1692, 1693, 1694] (by decide +kernel) (by decide +kernel)
set_option maxRecDepth 20000 in
theorem gL_law_X11_years : GoodIn wsL_law (wsV RL 72 RX11 yX11_years wsX11_years) := goodIn_app (goodIn_of _ (by decide +kernel)) ggL_law_X11_years
set_option maxRecDepth 20000 in
theorem ggL_law_X12_years : GoodIn wsL_law wsX12_years := goodIn_r _ [1021, 155, 196, 197, 5, 198, 820, 821, 822, 823, 816, 817, 818, 819, 963, 964, 965, 966, 967, 968, 969, 1022, 1023, 1024, 1025, 959, 960, 961, 962, 808, 809, 810, 811, 812, 813, 814, 815, 824, 825, 826, 827, 828, 829, 830, 831, 832, 228, 229, 230, 833, 834, 835, 836, 164, 159, 837, 838, 839, 840, 841, 842, 843, 844, 158, 845, 846, 847, 848, 849, 850, 851, 157, 852, 853, 854, 855, 165, 167, 856, 857, 858, 859, 860, 861, 862, 863, 864, 865, 866, 867, 868, 869, 870, 871, 872, 873, 874, 875, 876, 877, 878, 879, 880, 251, 252, 253, 254, 881, 882, 883, 884, 885, 886, 887, 888, 889, 890, 891, 892, 168, 909, 910, 911, 912, 193, 194, 195, 913, 914, 915, 916, 932, 933, 934, 935, 255, 256, 257, 258, 1624, 1625, 1626, 1627, 1628, 1629, 1630, 1631, 1632, 1633, 1634, 1635, 1636, 1637, 1638, 1639, 1640, 1641, 1642, 1643, 1644, 1645, 1646, 1647, 1648, 1649, 1650, 1651, 1652, 1653, 1654, 1655, 1656, 1657, 1658, 1659] (by decide +kernel) (by decide +kernel)
set_option maxRecDepth 20000 in
theorem gL_law_X12_years : GoodIn wsL_law (wsV RL 75 RX12 yX12_years wsX12_years) := goodIn_app (goodIn_of _ (by decide +kernel)) ggL_law_X12_years
set_option maxRecDepth 20000 in
theorem ggL_law_X11_undo : GoodIn wsL_law wsX11_undo := goodIn_r _ [1029, 15, 1030, 1031, 1032, 1033, 14, 1034, 240, 62, 63, 707, 708, 709, 19, 710, 82, 711, 712, 713, 714, 83, 84, 85, 86, 87, 88, 715, 702, 716, 717, 89, 1612, 1613, 1614, 1615, 1616, 1617, 1618, 1619, 1620, 1621, 1622, 1623, 1660, 1661, 1662, 1663, 1664, 1665, 1666, 1667, 1668, 1669, 1670, 1671, 1672, 1673, 1674, 1675, 1676, 1677, 1678, 1679, 1680, 1681, 1682, 1683] (by decide +kernel) (by decide +kernel)
set_option maxRecDepth 20000 in
theorem gL_law_X11_undo : GoodIn wsL_law (wsV RL 76 RX11 yX11_undo wsX11_undo) := goodIn_app (goodIn_of _ (by decide +kernel)) ggL_law_X11_undo
set_option maxRecDepth 20000 in
theorem ggL_law_X12_undo : GoodIn wsL_law wsX12_undo := goodIn_r _ [1038, 155, 816, 817, 818, 5, 819, 255, 256, 257, 258, 251, 252, 253, 254, 1624, 1625, 1626, 1627, 1628, 1629, 1630, 1631, 1632, 1633, 1634, 1635, 1636, 1637, 1638, 1639, 1640, 1641, 1642, 1643, 1644, 1645, 1646, 1647, 1648, 1649, 1650, 1651, 1652, 1653, 1654, 1655, 1656, 1657, 1658, 1659] (by decide +kernel) (by decide +kernel)
set_option maxRecDepth 20000 in
theorem gL_law_X12_undo : GoodIn wsL_law (wsV RL 79 RX12 yX12_undo wsX12_undo) := goodIn_app (goodIn_of _ (by decide +kernel)) ggL_law_X12_undo
set_option maxRecDepth 20000 in
theorem ggL_law_X11_of : GoodIn wsL_law wsX11_of := goodIn_r _ [1042, 15, 693, 1043, 1044, 1045, 921, 1046, 1047, 33, 37, 1048, 699, 700, 19, 701, 702, 1049, 736, 737, 36, 738, 124, 739, 125, 1050, 790, 791, 31, 792, 757, 758, 793, 794, 748, 305, 215, 306, 749, 214, 216, 750, 751, 426, 427, 24, 428, 398, 400, 752, 753, 754, 755, 117, 756, 759, 760, 761, 241, 2, 242, 762, 218, 219, 220, 221, 222, 223, 763, 764, 765, 766, 767, 768, 118, 769, 770, 771, 772, 773, 774, 775, 776, 777, 778, 779, 780, 781, 782, 783, 784, 119, 785, 786, 787, 788, 1051, 729, 730, 731, 722, 723, 732, 733, 126, 734, 187, 188, 735, 207, 208, 740, 741, 742, 743, 744, 745, 746, 747, 1612, 1613, 1614, 1615, 1616, 1617, 1618, 1619, 1620, 1621, 1622, 1623, 1660, 1661, 1662, 1663, 1664, 1665, 1666, 1667, 1668, 1669, 1670, 1671, 1672, 1673, 1674, 1675, 1676, 1677, 1678, 1679, 1680, 1681, 1682, 1683, 1707, 1708, 1709, 1684, 1685, 1686, 1687, 1688, 1689, 1690, 1691, 1692, 1693, 1694, 1704, 1705, 1706, 1722, 1723, 1724, 1725, 1726] (by decide +kernel) (by decide +kernel)
set_option maxRecDepth 20000 in
theorem gL_law_X11_of : GoodIn wsL_law (wsV RL 80 RX11 yX11_of wsX11_of) := goodIn_app (goodIn_of _ (by decide +kernel)) ggL_law_X11_of
set_option maxRecDepth 20000 in
theorem ggL_law_X12_of : GoodIn wsL_law wsX12_of := goodIn_r _ [1055, 155, 812, 813, 814, 5, 815, 196, 197, 198, 816, 817, 818, 819, 885, 886, 887, 888, 164, 837, 838, 839, 840, 841, 842, 843, 844, 158, 159, 228, 229, 230, 845, 846, 847, 848, 849, 850, 851, 157, 852, 853, 854, 855, 165, 167, 856, 857, 858, 859, 860, 861, 862, 863, 864, 865, 866, 867, 868, 869, 870, 871, 872, 873, 874, 875, 876, 877, 878, 879, 880, 829, 830, 831, 832, 833, 834, 835, 836, 1624, 1625, 1626, 1627, 1628, 1629, 1630, 1631, 1632, 1633, 1634, 1635, 1636, 1637, 1638, 1639, 1640, 1641, 1642, 1643, 1644, 1645, 1646, 1647, 1648, 1649, 1650, 1651, 1652, 1653, 1654, 1655, 1656, 1657, 1658, 1659] (by decide +kernel) (by decide +kernel)
set_option maxRecDepth 20000 in
theorem gL_law_X12_of : GoodIn wsL_law (wsV RL 83 RX12 yX12_of wsX12_of) := goodIn_app (goodIn_of _ (by decide +kernel)) ggL_law_X12_of
set_option maxRecDepth 20000 in
theorem ggL_law_X11_ofWant : GoodIn wsL_law wsX11_ofWant := goodIn_r _ [1059, 15, 32, 185, 1060, 1061, 1062, 186, 187, 2, 188, 1612, 1613, 1614, 1615, 1616, 1617, 1618, 1619, 1620, 1621, 1622, 1623, 1660, 1661, 1662, 1663, 1664, 1665, 1666, 1667, 1668, 1669, 1670, 1671, 1722, 1723, 1724, 1725, 1726] (by decide +kernel) (by decide +kernel)
set_option maxRecDepth 20000 in
theorem gL_law_X11_ofWant : GoodIn wsL_law (wsV RL 84 RX11 yX11_ofWant wsX11_ofWant) := goodIn_app (goodIn_of _ (by decide +kernel)) ggL_law_X11_ofWant
set_option maxRecDepth 20000 in
theorem ggL_law_X12_ofWant : GoodIn wsL_law wsX12_ofWant := goodIn_r _ [1066, 155, 158, 159, 193, 194, 5, 195, 196, 197, 198, 841, 842, 843, 844, 228, 229, 230, 1624, 1625, 1626, 1627, 1628, 1629, 1630, 1631, 1632, 1633, 1634, 1635, 1636, 1637, 1638, 1639, 1640, 1641, 1642, 1643, 1644, 1645, 1646, 1647, 1648, 1649, 1650, 1651, 1652, 1653, 1654, 1655, 1656, 1657, 1658, 1659] (by decide +kernel) (by decide +kernel)
set_option maxRecDepth 20000 in
theorem gL_law_X12_ofWant : GoodIn wsL_law (wsV RL 87 RX12 yX12_ofWant wsX12_ofWant) := goodIn_app (goodIn_of _ (by decide +kernel)) ggL_law_X12_ofWant
set_option maxRecDepth 20000 in
theorem ggL_law_X11_tells : GoodIn wsL_law wsX11_tells := goodIn_r _ [1070, 15, 693, 33, 37, 1048, 699, 700, 19, 701, 702, 186, 187, 2, 188, 1049, 736, 737, 36, 738, 124, 739, 125, 1071, 741, 742, 31, 743, 119, 744, 117, 745, 746, 747, 748, 305, 215, 306, 749, 214, 216, 750, 751, 426, 427, 24, 428, 398, 400, 752, 753, 754, 755, 756, 757, 758, 759, 760, 761, 241, 242, 762, 218, 219, 220, 221, 222, 223, 763, 764, 765, 766, 767, 768, 118, 769, 770, 771, 772, 773, 774, 775, 776, 777, 778, 779, 780, 781, 782, 783, 784, 785, 786, 787, 788, 1612, 1613, 1614, 1615, 1616, 1617, 1618, 1619, 1620, 1621, 1622, 1623, 1660, 1661, 1662, 1663, 1664, 1665, 1666, 1667, 1668, 1669, 1670, 1671, 1672, 1673, 1674, 1675, 1676, 1677, 1678, 1679, 1680, 1681, 1682, 1683, 1707, 1708, 1709, 1704, 1705, 1706, 1722, 1723, 1724, 1725, 1726, 1684, 1685, 1686, 1687, 1688, 1689, 1690, 1691, 1692, 1693, 1694] (by decide +kernel) (by decide +kernel)
set_option maxRecDepth 20000 in
theorem gL_law_X11_tells : GoodIn wsL_law (wsV RL 88 RX11 yX11_tells wsX11_tells) := goodIn_app (goodIn_of _ (by decide +kernel)) ggL_law_X11_tells
set_option maxRecDepth 20000 in
theorem ggL_law_X12_tells : GoodIn wsL_law wsX12_tells := goodIn_r _ [1075, 812, 813, 814, 5, 815, 155, 196, 197, 198, 193, 194, 195, 833, 834, 835, 836, 164, 159, 837, 838, 839, 840, 841, 842, 843, 844, 158, 228, 229, 230, 816, 817, 818, 819, 845, 846, 847, 848, 849, 850, 851, 157, 852, 853, 854, 855, 165, 167, 856, 857, 858, 859, 860, 861, 862, 863, 864, 865, 866, 867, 868, 869, 870, 871, 872, 873, 874, 875, 876, 877, 878, 879, 880, 1624, 1625, 1626, 1627, 1628, 1629, 1630, 1631, 1632, 1633, 1634, 1635, 1636, 1637, 1638, 1639, 1640, 1641, 1642, 1643, 1644, 1645, 1646, 1647, 1648, 1649, 1650, 1651, 1652, 1653, 1654, 1655, 1656, 1657, 1658, 1659] (by decide +kernel) (by decide +kernel)
set_option maxRecDepth 20000 in
theorem gL_law_X12_tells : GoodIn wsL_law (wsV RL 91 RX12 yX12_tells wsX12_tells) := goodIn_app (goodIn_of _ (by decide +kernel)) ggL_law_X12_tells
set_option maxRecDepth 20000 in
theorem ggL_law_X11_is : GoodIn wsL_law wsX11_is := goodIn_r _ [1079, 15, 693, 940, 1006, 1080, 1081, 1082, 1083, 19, 1084, 1085, 695, 696, 697, 83, 698, 699, 700, 701, 702, 1612, 1613, 1614, 1615, 1616, 1617, 1618, 1619, 1620, 1621, 1622, 1623, 1660, 1661, 1662, 1663, 1664, 1665, 1666, 1667, 1668, 1669, 1670, 1671, 1672, 1673, 1674, 1675, 1676, 1677, 1678, 1679, 1680, 1681, 1682, 1683] (by decide +kernel) (by decide +kernel)
set_option maxRecDepth 20000 in
theorem gL_law_X11_is : GoodIn wsL_law (wsV RL 92 RX11 yX11_is wsX11_is) := goodIn_app (goodIn_of _ (by decide +kernel)) ggL_law_X11_is
set_option maxRecDepth 20000 in
theorem ggL_law_X12_is : GoodIn wsL_law wsX12_is := goodIn_r _ [1089, 155, 196, 197, 5, 198, 1090, 1091, 1092, 1093, 808, 809, 810, 811, 812, 813, 814, 815, 816, 817, 818, 819, 1624, 1625, 1626, 1627, 1628, 1629, 1630, 1631, 1632, 1633, 1634, 1635, 1636, 1637, 1638, 1639, 1640, 1641, 1642, 1643, 1644, 1645, 1646, 1647, 1648, 1649, 1650, 1651, 1652, 1653, 1654, 1655, 1656, 1657, 1658, 1659] (by decide +kernel) (by decide +kernel)
set_option maxRecDepth 20000 in
theorem gL_law_X12_is : GoodIn wsL_law (wsV RL 95 RX12 yX12_is wsX12_is) := goodIn_app (goodIn_of _ (by decide +kernel)) ggL_law_X12_is
set_option maxRecDepth 20000 in
theorem ggL_law_X11_book : GoodIn wsL_law wsX11_book := goodIn_r _ [1097, 15, 693, 1098, 1099, 1100, 1101, 19, 1102, 715, 88, 1612, 1613, 1614, 1615, 1616, 1617, 1618, 1619, 1620, 1621, 1622, 1623, 1660, 1661, 1662, 1663, 1664, 1665, 1666, 1667, 1668, 1669, 1670, 1671, 1672, 1673, 1674, 1675, 1676, 1677, 1678, 1679, 1680, 1681, 1682, 1683] (by decide +kernel) (by decide +kernel)
set_option maxRecDepth 20000 in
theorem gL_law_X11_book : GoodIn wsL_law (wsV RL 96 RX11 yX11_book wsX11_book) := goodIn_app (goodIn_of _ (by decide +kernel)) ggL_law_X11_book
set_option maxRecDepth 20000 in
theorem ggL_law_X12_book : GoodIn wsL_law wsX12_book := goodIn_r _ [1106, 155, 196, 197, 5, 198, 1107, 1108, 1109, 1110, 1624, 1625, 1626, 1627, 1628, 1629, 1630, 1631, 1632, 1633, 1634, 1635, 1636, 1637, 1638, 1639, 1640, 1641, 1642, 1643, 1644, 1645, 1646, 1647, 1648, 1649, 1650, 1651, 1652, 1653, 1654, 1655, 1656, 1657, 1658, 1659] (by decide +kernel) (by decide +kernel)
set_option maxRecDepth 20000 in
theorem gL_law_X12_book : GoodIn wsL_law (wsV RL 99 RX12 yX12_book wsX12_book) := goodIn_app (goodIn_of _ (by decide +kernel)) ggL_law_X12_book
set_option maxRecDepth 20000 in
theorem ggL_law_X11_foretold : GoodIn wsL_law wsX11_foretold := goodIn_r _ [1114, 15, 693, 20, 940, 37, 1043, 1044, 1045, 1048, 699, 700, 19, 701, 702, 1115, 708, 709, 710, 82, 711, 712, 713, 714, 83, 84, 85, 86, 87, 88, 715, 716, 717, 89, 941, 942, 943, 36, 944, 926, 945, 727, 695, 696, 697, 698, 946, 947, 948, 949, 950, 719, 720, 721, 126, 722, 124, 723, 724, 725, 726, 305, 215, 306, 728, 729, 730, 731, 732, 733, 734, 187, 2, 188, 735, 736, 737, 738, 739, 125, 207, 208, 740, 741, 742, 31, 743, 119, 744, 117, 745, 746, 747, 748, 749, 214, 216, 750, 751, 426, 427, 24, 428, 398, 400, 752, 753, 754, 755, 756, 757, 758, 759, 760, 761, 241, 242, 762, 218, 219, 220, 221, 222, 223, 763, 764, 765, 766, 767, 768, 118, 769, 770, 771, 772, 773, 774, 775, 776, 777, 778, 779, 780, 781, 782, 783, 784, 785, 786, 787, 788, 789, 790, 791, 792, 793, 794, 795, 796, 797, 798, 799, 800, 801, 802, 803, 1612, 1613, 1614, 1615, 1616, 1617, 1618, 1619, 1620, 1621, 1622, 1623, 1660, 1661, 1662, 1663, 1664, 1665, 1666, 1667, 1668, 1669, 1670, 1671, 1672, 1673, 1674, 1675, 1676, 1677, 1678, 1679, 1680, 1681, 1682, 1683, 1707, 1708, 1709, 1722, 1723, 1724, 1725, 1726, 1704, 1705, 1706, 1684, 1685, 1686, 1687, 1688, 1689, 1690, 1691, 1692, 1693, 1694] (by decide +kernel) (by decide +kernel)
set_option maxRecDepth 20000 in
theorem gL_law_X11_foretold : GoodIn wsL_law (wsV RL 100 RX11 yX11_foretold wsX11_foretold) := goodIn_app (goodIn_of _ (by decide +kernel)) ggL_law_X11_foretold
set_option maxRecDepth 20000 in
theorem ggL_law_X12_foretold : GoodIn wsL_law wsX12_foretold := goodIn_r _ [1119, 155, 196, 197, 5, 198, 812, 813, 814, 815, 1120, 1121, 1122, 1123, 169, 168, 959, 960, 961, 962, 808, 809, 810, 811, 816, 817, 818, 819, 963, 964, 965, 966, 967, 968, 969, 824, 825, 826, 827, 828, 829, 830, 831, 832, 228, 229, 230, 833, 834, 835, 836, 164, 159, 837, 838, 839, 840, 841, 842, 843, 844, 158, 845, 846, 847, 848, 849, 850, 851, 157, 852, 853, 854, 855, 165, 167, 856, 857, 858, 859, 860, 861, 862, 863, 864, 865, 866, 867, 868, 869, 870, 871, 872, 873, 874, 875, 876, 877, 878, 879, 880, 251, 252, 253, 254, 881, 882, 883, 884, 885, 886, 887, 888, 889, 890, 891, 892, 1124, 1125, 1126, 1127, 1624, 1625, 1626, 1627, 1628, 1629, 1630, 1631, 1632, 1633, 1634, 1635, 1636, 1637, 1638, 1639, 1640, 1641, 1642, 1643, 1644, 1645, 1646, 1647, 1648, 1649, 1650, 1651, 1652, 1653, 1654, 1655, 1656, 1657, 1658, 1659] (by decide +kernel) (by decide +kernel)
set_option maxRecDepth 20000 in
theorem gL_law_X12_foretold : GoodIn wsL_law (wsV RL 104 RX12 yX12_foretold wsX12_foretold) := goodIn_app (goodIn_of _ (by decide +kernel)) ggL_law_X12_foretold
set_option maxRecDepth 20000 in
theorem ggL_law_X11_bottom : GoodIn wsL_law wsX11_bottom := goodIn_r _ [1131, 15, 693, 20, 37, 1043, 694, 695, 696, 19, 697, 83, 698, 699, 700, 701, 702, 1115, 708, 709, 710, 82, 711, 712, 713, 714, 84, 85, 86, 87, 88, 715, 716, 717, 89, 718, 719, 720, 36, 721, 126, 722, 124, 723, 724, 725, 726, 305, 215, 306, 727, 728, 729, 730, 731, 732, 733, 734, 187, 2, 188, 735, 736, 737, 738, 739, 125, 207, 208, 740, 741, 742, 31, 743, 119, 744, 117, 745, 746, 747, 748, 749, 214, 216, 750, 751, 426, 427, 24, 428, 398, 400, 752, 753, 754, 755, 756, 757, 758, 759, 760, 761, 241, 242, 762, 218, 219, 220, 221, 222, 223, 763, 764, 765, 766, 767, 768, 118, 769, 770, 771, 772, 773, 774, 775, 776, 777, 778, 779, 780, 781, 782, 783, 784, 785, 786, 787, 788, 789, 790, 791, 792, 793, 794, 795, 796, 797, 798, 799, 800, 801, 802, 803, 1612, 1613, 1614, 1615, 1616, 1617, 1618, 1619, 1620, 1621, 1622, 1623, 1660, 1661, 1662, 1663, 1664, 1665, 1666, 1667, 1668, 1669, 1670, 1671, 1672, 1673, 1674, 1675, 1676, 1677, 1678, 1679, 1680, 1681, 1682, 1683, 1707, 1708, 1709, 1722, 1723, 1724, 1725, 1726, 1704, 1705, 1706, 1684, 1685, 1686, 1687, 1688, 1689, 1690, 1691, 1692, 1693, 1694] (by decide +kernel) (by decide +kernel)
set_option maxRecDepth 20000 in
theorem gL_law_X11_bottom : GoodIn wsL_law (wsV RL 105 RX11 yX11_bottom wsX11_bottom) := goodIn_app (goodIn_of _ (by decide +kernel)) ggL_law_X11_bottom
set_option maxRecDepth 20000 in
theorem ggL_law_X12_bottom : GoodIn wsL_law wsX12_bottom := goodIn_r _ [1135, 808, 809, 810, 5, 811, 812, 813, 814, 815, 155, 196, 197, 198, 816, 817, 818, 819, 1120, 1121, 1122, 1123, 169, 168, 824, 825, 826, 827, 828, 829, 830, 831, 832, 228, 229, 230, 833, 834, 835, 836, 164, 159, 837, 838, 839, 840, 841, 842, 843, 844, 158, 845, 846, 847, 848, 849, 850, 851, 157, 852, 853, 854, 855, 165, 167, 856, 857, 858, 859, 860, 861, 862, 863, 864, 865, 866, 867, 868, 869, 870, 871, 872, 873, 874, 875, 876, 877, 878, 879, 880, 251, 252, 253, 254, 881, 882, 883, 884, 885, 886, 887, 888, 889, 890, 891, 892, 1124, 1125, 1126, 1127, 1624, 1625, 1626, 1627, 1628, 1629, 1630, 1631, 1632, 1633, 1634, 1635, 1636, 1637, 1638, 1639, 1640, 1641, 1642, 1643, 1644, 1645, 1646, 1647, 1648, 1649, 1650, 1651, 1652, 1653, 1654, 1655, 1656, 1657, 1658, 1659] (by decide +kernel) (by decide +kernel)
set_option maxRecDepth 20000 in
theorem gL_law_X12_bottom : GoodIn wsL_law (wsV RL 108 RX12 yX12_bottom wsX12_bottom) := goodIn_app (goodIn_of _ (by decide +kernel)) ggL_law_X12_bottom
set_option maxRecDepth 20000 in
theorem ggL_law_X11_ways : GoodIn wsL_law wsX11_ways := goodIn_r _ [1139, 41, 1140, 1141, 1142, 2, 1143, 186, 187, 188, 1144, 1145, 1146, 40, 1147, 132, 135, 1148, 207, 208, 1612, 1613, 1614, 1615, 1616, 1617, 1618, 1619, 1620, 1621, 1622, 1623, 1710, 1711, 1712, 1713, 1714, 1722, 1723, 1724, 1725, 1726] (by decide +kernel) (by decide +kernel)
set_option maxRecDepth 20000 in
theorem gL_law_X11_ways : GoodIn wsL_law (wsV RL 109 RX11 yX11_ways wsX11_ways) := goodIn_app (goodIn_of _ (by decide +kernel)) ggL_law_X11_ways
set_option maxRecDepth 20000 in
theorem ggL_law_X12_ways : GoodIn wsL_law wsX12_ways := goodIn_r _ [1152, 1153, 170, 193, 194, 5, 195, 196, 197, 198, 1154, 1155, 1156, 1157, 155, 228, 229, 230, 1624, 1625, 1626, 1627, 1628, 1629, 1630, 1631, 1632, 1633, 1634, 1635, 1636, 1637, 1638, 1639, 1640, 1641, 1642, 1643, 1644, 1645, 1646, 1647, 1648, 1649, 1650, 1651, 1652, 1653, 1654, 1655, 1656, 1657, 1658, 1659] (by decide +kernel) (by decide +kernel)
set_option maxRecDepth 20000 in
theorem gL_law_X12_ways : GoodIn wsL_law (wsV RL 113 RX12 yX12_ways wsX12_ways) := goodIn_app (goodIn_of _ (by decide +kernel)) ggL_law_X12_ways
set_option maxRecDepth 20000 in
theorem ggL_law_X11_must : GoodIn wsL_law wsX11_must := goodIn_r _ [1161, 41, 1141, 1142, 2, 1143, 186, 187, 188, 1162, 1163, 1164, 40, 1165, 1166, 1167, 1168, 1169, 135, 1170, 1171, 1172, 59, 1173, 76, 207, 208, 1174, 1175, 1176, 1177, 1148, 1612, 1613, 1614, 1615, 1616, 1617, 1618, 1619, 1620, 1621, 1622, 1623, 1710, 1711, 1712, 1713, 1714, 1722, 1723, 1724, 1725, 1726] (by decide +kernel) (by decide +kernel)
set_option maxRecDepth 20000 in
theorem gL_law_X11_must : GoodIn wsL_law (wsV RL 114 RX11 yX11_must wsX11_must) := goodIn_app (goodIn_of _ (by decide +kernel)) ggL_law_X11_must
set_option maxRecDepth 20000 in
theorem ggL_law_X12_must : GoodIn wsL_law wsX12_must := goodIn_r _ [1181, 193, 194, 5, 195, 196, 197, 198, 1182, 1183, 1184, 1185, 170, 1154, 1155, 1156, 1157, 155, 228, 229, 230, 1624, 1625, 1626, 1627, 1628, 1629, 1630, 1631, 1632, 1633, 1634, 1635, 1636, 1637, 1638, 1639, 1640, 1641, 1642, 1643, 1644, 1645, 1646, 1647, 1648, 1649, 1650, 1651, 1652, 1653, 1654, 1655, 1656, 1657, 1658, 1659] (by decide +kernel) (by decide +kernel)
set_option maxRecDepth 20000 in
theorem gL_law_X12_must : GoodIn wsL_law (wsV RL 117 RX12 yX12_must wsX12_must) := goodIn_app (goodIn_of _ (by decide +kernel)) ggL_law_X12_must
set_option maxRecDepth 20000 in
theorem ggL_law_X11_between : GoodIn wsL_law wsX11_between := goodIn_r _ [1189, 41, 1141, 1142, 2, 1143, 186, 187, 188, 1190, 1167, 1168, 40, 1169, 135, 1170, 1171, 1172, 59, 1173, 76, 207, 208, 1612, 1613, 1614, 1615, 1616, 1617, 1618, 1619, 1620, 1621, 1622, 1623, 1710, 1711, 1712, 1713, 1714, 1722, 1723, 1724, 1725, 1726] (by decide +kernel) (by decide +kernel)
set_option maxRecDepth 20000 in
theorem gL_law_X11_between : GoodIn wsL_law (wsV RL 118 RX11 yX11_between wsX11_between) := goodIn_app (goodIn_of _ (by decide +kernel)) ggL_law_X11_between
set_option maxRecDepth 20000 in
theorem ggL_law_X12_between : GoodIn wsL_law wsX12_between := goodIn_r _ [1194, 193, 194, 5, 195, 196, 197, 198, 1182, 1183, 1184, 1185, 170, 1154, 1155, 1156, 1157, 155, 228, 229, 230, 1624, 1625, 1626, 1627, 1628, 1629, 1630, 1631, 1632, 1633, 1634, 1635, 1636, 1637, 1638, 1639, 1640, 1641, 1642, 1643, 1644, 1645, 1646, 1647, 1648, 1649, 1650, 1651, 1652, 1653, 1654, 1655, 1656, 1657, 1658, 1659] (by decide +kernel) (by decide +kernel)
set_option maxRecDepth 20000 in
theorem gL_law_X12_between : GoodIn wsL_law (wsV RL 121 RX12 yX12_between wsX12_between) := goodIn_app (goodIn_of _ (by decide +kernel)) ggL_law_X12_between
set_option maxRecDepth 20000 in
theorem ggL_law_X11_heaviest : GoodIn wsL_law wsX11_heaviest := goodIn_r _ [1198, 41, 1141, 1142, 2, 1143, 186, 187, 188, 1199, 1200, 1201, 40, 1202, 133, 135, 1148, 1203, 1204, 214, 215, 216, 207, 208, 1612, 1613, 1614, 1615, 1616, 1617, 1618, 1619, 1620, 1621, 1622, 1623, 1710, 1711, 1712, 1713, 1714, 1722, 1723, 1724, 1725, 1726] (by decide +kernel) (by decide +kernel)
set_option maxRecDepth 20000 in
theorem gL_law_X11_heaviest : GoodIn wsL_law (wsV RL 122 RX11 yX11_heaviest wsX11_heaviest) := goodIn_app (goodIn_of _ (by decide +kernel)) ggL_law_X11_heaviest
set_option maxRecDepth 20000 in
theorem ggL_law_X12_heaviest : GoodIn wsL_law wsX12_heaviest := goodIn_r _ [1208, 171, 155, 193, 194, 5, 195, 196, 197, 198, 228, 229, 230, 1624, 1625, 1626, 1627, 1628, 1629, 1630, 1631, 1632, 1633, 1634, 1635, 1636, 1637, 1638, 1639, 1640, 1641, 1642, 1643, 1644, 1645, 1646, 1647, 1648, 1649, 1650, 1651, 1652, 1653, 1654, 1655, 1656, 1657, 1658, 1659] (by decide +kernel) (by decide +kernel)
set_option maxRecDepth 20000 in
theorem gL_law_X12_heaviest : GoodIn wsL_law (wsV RL 125 RX12 yX12_heaviest wsX12_heaviest) := goodIn_app (goodIn_of _ (by decide +kernel)) ggL_law_X12_heaviest
set_option maxRecDepth 20000 in
theorem ggL_law_X11_under : GoodIn wsL_law wsX11_under := goodIn_r _ [1212, 41, 1141, 1142, 2, 1143, 186, 187, 188, 1213, 1214, 1215, 40, 1216, 135, 1217, 1174, 1175, 1176, 1177, 1148, 207, 208, 1612, 1613, 1614, 1615, 1616, 1617, 1618, 1619, 1620, 1621, 1622, 1623, 1710, 1711, 1712, 1713, 1714, 1722, 1723, 1724, 1725, 1726] (by decide +kernel) (by decide +kernel)
set_option maxRecDepth 20000 in
theorem gL_law_X11_under : GoodIn wsL_law (wsV RL 126 RX11 yX11_under wsX11_under) := goodIn_app (goodIn_of _ (by decide +kernel)) ggL_law_X11_under
set_option maxRecDepth 20000 in
theorem ggL_law_X12_under : GoodIn wsL_law wsX12_under := goodIn_r _ [1221, 158, 193, 194, 5, 195, 196, 197, 198, 841, 842, 843, 844, 155, 159, 228, 229, 230, 1182, 1183, 1184, 1185, 170, 1154, 1155, 1156, 1157, 1624, 1625, 1626, 1627, 1628, 1629, 1630, 1631, 1632, 1633, 1634, 1635, 1636, 1637, 1638, 1639, 1640, 1641, 1642, 1643, 1644, 1645, 1646, 1647, 1648, 1649, 1650, 1651, 1652, 1653, 1654, 1655, 1656, 1657, 1658, 1659] (by decide +kernel) (by decide +kernel)
set_option maxRecDepth 20000 in
theorem gL_law_X12_under : GoodIn wsL_law (wsV RL 129 RX12 yX12_under wsX12_under) := goodIn_app (goodIn_of _ (by decide +kernel)) ggL_law_X12_under
set_option maxRecDepth 20000 in
theorem ggL_law_X11_needless : GoodIn wsL_law wsX11_needless := goodIn_r _ [1225, 41, 186, 187, 2, 188, 1226, 1227, 1228, 40, 1229, 135, 1148, 1217, 207, 208, 1612, 1613, 1614, 1615, 1616, 1617, 1618, 1619, 1620, 1621, 1622, 1623, 1710, 1711, 1712, 1713, 1714, 1722, 1723, 1724, 1725, 1726] (by decide +kernel) (by decide +kernel)
set_option maxRecDepth 20000 in
theorem gL_law_X11_needless : GoodIn wsL_law (wsV RL 130 RX11 yX11_needless wsX11_needless) := goodIn_app (goodIn_of _ (by decide +kernel)) ggL_law_X11_needless
set_option maxRecDepth 20000 in
theorem ggL_law_X12_needless : GoodIn wsL_law wsX12_needless := goodIn_r _ [1233, 155, 158, 193, 194, 5, 195, 196, 197, 198, 841, 842, 843, 844, 159, 228, 229, 230, 1624, 1625, 1626, 1627, 1628, 1629, 1630, 1631, 1632, 1633, 1634, 1635, 1636, 1637, 1638, 1639, 1640, 1641, 1642, 1643, 1644, 1645, 1646, 1647, 1648, 1649, 1650, 1651, 1652, 1653, 1654, 1655, 1656, 1657, 1658, 1659] (by decide +kernel) (by decide +kernel)
set_option maxRecDepth 20000 in
theorem gL_law_X12_needless : GoodIn wsL_law (wsV RL 133 RX12 yX12_needless wsX12_needless) := goodIn_app (goodIn_of _ (by decide +kernel)) ggL_law_X12_needless
set_option maxRecDepth 20000 in
theorem ggL_law_X11_shared : GoodIn wsL_law wsX11_shared := goodIn_r _ [1237, 41, 1141, 1142, 2, 1143, 186, 187, 188, 1238, 1239, 1240, 40, 1241, 135, 1217, 1170, 1171, 1172, 59, 1173, 76, 207, 208, 1612, 1613, 1614, 1615, 1616, 1617, 1618, 1619, 1620, 1621, 1622, 1623, 1710, 1711, 1712, 1713, 1714, 1722, 1723, 1724, 1725, 1726] (by decide +kernel) (by decide +kernel)
set_option maxRecDepth 20000 in
theorem gL_law_X11_shared : GoodIn wsL_law (wsV RL 134 RX11 yX11_shared wsX11_shared) := goodIn_app (goodIn_of _ (by decide +kernel)) ggL_law_X11_shared
set_option maxRecDepth 20000 in
theorem ggL_law_X12_shared : GoodIn wsL_law wsX12_shared := goodIn_r _ [1245, 158, 193, 194, 5, 195, 196, 197, 198, 841, 842, 843, 844, 155, 159, 228, 229, 230, 1624, 1625, 1626, 1627, 1628, 1629, 1630, 1631, 1632, 1633, 1634, 1635, 1636, 1637, 1638, 1639, 1640, 1641, 1642, 1643, 1644, 1645, 1646, 1647, 1648, 1649, 1650, 1651, 1652, 1653, 1654, 1655, 1656, 1657, 1658, 1659] (by decide +kernel) (by decide +kernel)
set_option maxRecDepth 20000 in
theorem gL_law_X12_shared : GoodIn wsL_law (wsV RL 137 RX12 yX12_shared wsX12_shared) := goodIn_app (goodIn_of _ (by decide +kernel)) ggL_law_X12_shared
set_option maxRecDepth 20000 in
theorem ggL_law_X11_apart : GoodIn wsL_law wsX11_apart := goodIn_r _ [1249, 41, 1250, 1251, 1252, 40, 1253, 1254, 218, 219, 220, 221, 222, 223, 1255, 1256, 1257, 1258, 135, 1217, 207, 2, 208, 1259, 1612, 1613, 1614, 1615, 1616, 1617, 1618, 1619, 1620, 1621, 1622, 1623, 1710, 1711, 1712, 1713, 1714, 1722, 1723, 1724, 1725, 1726] (by decide +kernel) (by decide +kernel)
set_option maxRecDepth 20000 in
theorem gL_law_X11_apart : GoodIn wsL_law (wsV RL 138 RX11 yX11_apart wsX11_apart) := goodIn_app (goodIn_of _ (by decide +kernel)) ggL_law_X11_apart
set_option maxRecDepth 20000 in
theorem ggL_law_X12_apart : GoodIn wsL_law wsX12_apart := goodIn_r _ [1263, 841, 842, 843, 5, 844, 158, 155, 159, 228, 229, 230, 845, 846, 847, 1264, 1265, 1266, 1267, 1624, 1625, 1626, 1627, 1628, 1629, 1630, 1631, 1632, 1633, 1634, 1635, 1636, 1637, 1638, 1639, 1640, 1641, 1642, 1643, 1644, 1645, 1646, 1647, 1648, 1649, 1650, 1651, 1652, 1653, 1654, 1655, 1656, 1657, 1658, 1659] (by decide +kernel) (by decide +kernel)
set_option maxRecDepth 20000 in
theorem gL_law_X12_apart : GoodIn wsL_law (wsV RL 142 RX12 yX12_apart wsX12_apart) := goodIn_app (goodIn_of _ (by decide +kernel)) ggL_law_X12_apart
set_option maxRecDepth 20000 in
theorem ggL_law_X11_chains : GoodIn wsL_law wsX11_chains := goodIn_r _ [1271, 41, 1272, 1273, 1274, 40, 1275, 134, 1276, 1277, 1278, 1279, 1280, 135, 1148, 187, 2, 188, 207, 208, 1612, 1613, 1614, 1615, 1616, 1617, 1618, 1619, 1620, 1621, 1622, 1623, 1710, 1711, 1712, 1713, 1714, 1722, 1723, 1724, 1725, 1726] (by decide +kernel) (by decide +kernel)
set_option maxRecDepth 20000 in
theorem gL_law_X11_chains : GoodIn wsL_law (wsV RL 143 RX11 yX11_chains wsX11_chains) := goodIn_app (goodIn_of _ (by decide +kernel)) ggL_law_X11_chains
set_option maxRecDepth 20000 in
theorem ggL_law_X12_chains : GoodIn wsL_law wsX12_chains := goodIn_r _ [1284, 172, 1285, 1286, 1287, 5, 1288, 174, 173, 155, 228, 229, 230, 1289, 1290, 1291, 1292, 1624, 1625, 1626, 1627, 1628, 1629, 1630, 1631, 1632, 1633, 1634, 1635, 1636, 1637, 1638, 1639, 1640, 1641, 1642, 1643, 1644, 1645, 1646, 1647, 1648, 1649, 1650, 1651, 1652, 1653, 1654, 1655, 1656, 1657, 1658, 1659] (by decide +kernel) (by decide +kernel)
set_option maxRecDepth 20000 in
theorem gL_law_X12_chains : GoodIn wsL_law (wsV RL 146 RX12 yX12_chains wsX12_chains) := goodIn_app (goodIn_of _ (by decide +kernel)) ggL_law_X12_chains
set_option maxRecDepth 20000 in
theorem ggL_law_X11_levels : GoodIn wsL_law wsX11_levels := goodIn_r _ [1296, 15, 32, 1062, 1297, 214, 215, 216, 1612, 1613, 1614, 1615, 1616, 1617, 1618, 1619, 1620, 1621, 1622, 1623, 1660, 1661, 1662, 1663, 1664, 1665, 1666, 1667, 1668, 1669, 1670, 1671, 1722, 1723, 1724, 1725, 1726] (by decide +kernel) (by decide +kernel)
set_option maxRecDepth 20000 in
theorem gL_law_X11_levels : GoodIn wsL_law (wsV RL 147 RX11 yX11_levels wsX11_levels) := goodIn_app (goodIn_of _ (by decide +kernel)) ggL_law_X11_levels
set_option maxRecDepth 20000 in
theorem ggL_law_X12_levels : GoodIn wsL_law wsX12_levels := goodIn_r _ [1301, 159, 841, 842, 843, 5, 844, 158, 155, 228, 229, 230, 1624, 1625, 1626, 1627, 1628, 1629, 1630, 1631, 1632, 1633, 1634, 1635, 1636, 1637, 1638, 1639, 1640, 1641, 1642, 1643, 1644, 1645, 1646, 1647, 1648, 1649, 1650, 1651, 1652, 1653, 1654, 1655, 1656, 1657, 1658, 1659] (by decide +kernel) (by decide +kernel)
set_option maxRecDepth 20000 in
theorem gL_law_X12_levels : GoodIn wsL_law (wsV RL 150 RX12 yX12_levels wsX12_levels) := goodIn_app (goodIn_of _ (by decide +kernel)) ggL_law_X12_levels
set_option maxRecDepth 20000 in
theorem ggL_law_X11_asked : GoodIn wsL_law wsX11_asked := goodIn_r _ [1305, 45, 1306, 1307, 1308, 44, 1309, 1310, 1311, 1312, 1313, 142, 143, 1314, 141, 1315, 1316, 1317, 1318, 1319, 305, 215, 306, 1320, 218, 219, 220, 221, 222, 223, 1321, 1322, 1323, 1324, 1325, 214, 216, 1326, 1171, 1172, 59, 1173, 76, 187, 2, 188, 1327, 1328, 1329, 1330, 1331, 1332, 1333, 1334, 1612, 1613, 1614, 1615, 1616, 1617, 1618, 1619, 1620, 1621, 1622, 1623, 1715, 1716, 1717, 1722, 1723, 1724, 1725, 1726] (by decide +kernel) (by decide +kernel)
set_option maxRecDepth 20000 in
theorem gL_law_X11_asked : GoodIn wsL_law (wsV RL 151 RX11 yX11_asked wsX11_asked) := goodIn_app (goodIn_of _ (by decide +kernel)) ggL_law_X11_asked
set_option maxRecDepth 20000 in
theorem ggL_law_X12_asked : GoodIn wsL_law wsX12_asked := goodIn_r _ [1338, 175, 1339, 196, 197, 5, 198, 841, 842, 843, 844, 158, 155, 159, 228, 229, 230, 845, 846, 847, 1340, 1341, 1342, 1343, 1624, 1625, 1626, 1627, 1628, 1629, 1630, 1631, 1632, 1633, 1634, 1635, 1636, 1637, 1638, 1639, 1640, 1641, 1642, 1643, 1644, 1645, 1646, 1647, 1648, 1649, 1650, 1651, 1652, 1653, 1654, 1655, 1656, 1657, 1658, 1659] (by decide +kernel) (by decide +kernel)
set_option maxRecDepth 20000 in
theorem gL_law_X12_asked : GoodIn wsL_law (wsV RL 155 RX12 yX12_asked wsX12_asked) := goodIn_app (goodIn_of _ (by decide +kernel)) ggL_law_X12_asked
set_option maxRecDepth 20000 in
theorem ggL_law_X11_cheap : GoodIn wsL_law wsX11_cheap := goodIn_r _ [1347, 15, 32, 1060, 41, 1141, 1142, 2, 1143, 186, 187, 188, 1348, 207, 208, 1349, 1350, 1351, 40, 1352, 135, 1166, 1167, 1168, 1169, 1170, 1171, 1172, 59, 1173, 76, 1353, 1354, 1355, 1356, 74, 1254, 218, 219, 220, 221, 222, 223, 1174, 1175, 1176, 1177, 1148, 1357, 1612, 1613, 1614, 1615, 1616, 1617, 1618, 1619, 1620, 1621, 1622, 1623, 1660, 1661, 1662, 1663, 1664, 1665, 1666, 1667, 1668, 1669, 1670, 1671, 1722, 1723, 1724, 1725, 1726, 1710, 1711, 1712, 1713, 1714] (by decide +kernel) (by decide +kernel)
set_option maxRecDepth 20000 in
theorem gL_law_X11_cheap : GoodIn wsL_law (wsV RL 156 RX11 yX11_cheap wsX11_cheap) := goodIn_app (goodIn_of _ (by decide +kernel)) ggL_law_X11_cheap
set_option maxRecDepth 20000 in
theorem ggL_law_X12_cheap : GoodIn wsL_law wsX12_cheap := goodIn_r _ [1361, 155, 193, 194, 5, 195, 196, 197, 198, 228, 229, 230, 1362, 1363, 1364, 1365, 845, 846, 847, 1182, 1183, 1184, 1185, 170, 1154, 1155, 1156, 1157, 1624, 1625, 1626, 1627, 1628, 1629, 1630, 1631, 1632, 1633, 1634, 1635, 1636, 1637, 1638, 1639, 1640, 1641, 1642, 1643, 1644, 1645, 1646, 1647, 1648, 1649, 1650, 1651, 1652, 1653, 1654, 1655, 1656, 1657, 1658, 1659] (by decide +kernel) (by decide +kernel)
set_option maxRecDepth 20000 in
theorem gL_law_X12_cheap : GoodIn wsL_law (wsV RL 160 RX12 yX12_cheap wsX12_cheap) := goodIn_app (goodIn_of _ (by decide +kernel)) ggL_law_X12_cheap
set_option maxRecDepth 20000 in
theorem ggL_law_X11_offers : GoodIn wsL_law wsX11_offers := goodIn_r _ [1369, 15, 1370, 1371, 241, 2, 242, 1348, 207, 208, 1612, 1613, 1614, 1615, 1616, 1617, 1618, 1619, 1620, 1621, 1622, 1623, 1660, 1661, 1662, 1663, 1664, 1665, 1666, 1667, 1668, 1669, 1670, 1671] (by decide +kernel) (by decide +kernel)
set_option maxRecDepth 20000 in
theorem gL_law_X11_offers : GoodIn wsL_law (wsV RL 161 RX11 yX11_offers wsX11_offers) := goodIn_app (goodIn_of _ (by decide +kernel)) ggL_law_X11_offers
set_option maxRecDepth 20000 in
theorem ggL_law_X12_offers : GoodIn wsL_law wsX12_offers := goodIn_r _ [1375, 155, 196, 197, 5, 198, 228, 229, 230, 1624, 1625, 1626, 1627, 1628, 1629, 1630, 1631, 1632, 1633, 1634, 1635, 1636, 1637, 1638, 1639, 1640, 1641, 1642, 1643, 1644, 1645, 1646, 1647, 1648, 1649, 1650, 1651, 1652, 1653, 1654, 1655, 1656, 1657, 1658, 1659] (by decide +kernel) (by decide +kernel)
set_option maxRecDepth 20000 in
theorem gL_law_X12_offers : GoodIn wsL_law (wsV RL 164 RX12 yX12_offers wsX12_offers) := goodIn_app (goodIn_of _ (by decide +kernel)) ggL_law_X12_offers
set_option maxRecDepth 20000 in
theorem ggL_law_X11_rings : GoodIn wsL_law wsX11_rings := goodIn_r _ [1379, 49, 1380, 1381, 1382, 48, 1383, 149, 1384, 1385, 1386, 1387, 148, 1388, 1389, 1390, 1391, 1392, 150, 1393, 1394, 1395, 1396, 1397, 1398, 712, 713, 714, 1399, 1400, 1401, 1402, 207, 2, 208, 1403, 1404, 1405, 1406, 241, 242, 1259, 218, 219, 220, 221, 222, 223, 1612, 1613, 1614, 1615, 1616, 1617, 1618, 1619, 1620, 1621, 1622, 1623, 1718, 1719, 1720, 1721, 1660, 1661, 1662, 1663, 1664, 1665, 1666, 1667, 1668, 1669, 1670, 1671] (by decide +kernel) (by decide +kernel)
set_option maxRecDepth 20000 in
theorem gL_law_X11_rings : GoodIn wsL_law (wsV RL 165 RX11 yX11_rings wsX11_rings) := goodIn_app (goodIn_of _ (by decide +kernel)) ggL_law_X11_rings
set_option maxRecDepth 20000 in
theorem ggL_law_X12_rings : GoodIn wsL_law wsX12_rings := goodIn_r _ [1410, 177, 1411, 1412, 1413, 5, 1414, 176, 1415, 1416, 1417, 1418, 1419, 1420, 1421, 1422, 155, 228, 229, 230, 1624, 1625, 1626, 1627, 1628, 1629, 1630, 1631, 1632, 1633, 1634, 1635, 1636, 1637, 1638, 1639, 1640, 1641, 1642, 1643, 1644, 1645, 1646, 1647, 1648, 1649, 1650, 1651, 1652, 1653, 1654, 1655, 1656, 1657, 1658, 1659] (by decide +kernel) (by decide +kernel)
set_option maxRecDepth 20000 in
theorem gL_law_X12_rings : GoodIn wsL_law (wsV RL 168 RX12 yX12_rings wsX12_rings) := goodIn_app (goodIn_of _ (by decide +kernel)) ggL_law_X12_rings
set_option maxRecDepth 20000 in
theorem ggL_law_X11_ring : GoodIn wsL_law wsX11_ring := goodIn_r _ [1426, 49, 1371, 241, 2, 242, 1427, 1428, 1429, 48, 1430, 149, 1384, 1385, 1386, 1387, 148, 1388, 1389, 1390, 1391, 1392, 150, 1393, 1394, 1395, 1396, 1397, 1398, 712, 713, 714, 1399, 1400, 1401, 1402, 207, 208, 1403, 1404, 1405, 1406, 1612, 1613, 1614, 1615, 1616, 1617, 1618, 1619, 1620, 1621, 1622, 1623, 1718, 1719, 1720, 1721, 1660, 1661, 1662, 1663, 1664, 1665, 1666, 1667, 1668, 1669, 1670, 1671] (by decide +kernel) (by decide +kernel)
set_option maxRecDepth 20000 in
theorem gL_law_X11_ring : GoodIn wsL_law (wsV RL 169 RX11 yX11_ring wsX11_ring) := goodIn_app (goodIn_of _ (by decide +kernel)) ggL_law_X11_ring
set_option maxRecDepth 20000 in
theorem ggL_law_X12_ring : GoodIn wsL_law wsX12_ring := goodIn_r _ [1434, 177, 196, 197, 5, 198, 1411, 1412, 1413, 1414, 176, 1415, 1416, 1417, 1418, 1419, 1420, 1421, 1422, 155, 228, 229, 230, 1624, 1625, 1626, 1627, 1628, 1629, 1630, 1631, 1632, 1633, 1634, 1635, 1636, 1637, 1638, 1639, 1640, 1641, 1642, 1643, 1644, 1645, 1646, 1647, 1648, 1649, 1650, 1651, 1652, 1653, 1654, 1655, 1656, 1657, 1658, 1659] (by decide +kernel) (by decide +kernel)
set_option maxRecDepth 20000 in
theorem gL_law_X12_ring : GoodIn wsL_law (wsV RL 172 RX12 yX12_ring wsX12_ring) := goodIn_app (goodIn_of _ (by decide +kernel)) ggL_law_X12_ring
set_option maxRecDepth 20000 in
theorem ggL_law_X11_grant : GoodIn wsL_law wsX11_grant := goodIn_r _ [1438, 15, 1439, 1440, 1371, 241, 2, 242, 1612, 1613, 1614, 1615, 1616, 1617, 1618, 1619, 1620, 1621, 1622, 1623, 1660, 1661, 1662, 1663, 1664, 1665, 1666, 1667, 1668, 1669, 1670, 1671] (by decide +kernel) (by decide +kernel)
set_option maxRecDepth 20000 in
theorem gL_law_X11_grant : GoodIn wsL_law (wsV RL 173 RX11 yX11_grant wsX11_grant) := goodIn_app (goodIn_of _ (by decide +kernel)) ggL_law_X11_grant
set_option maxRecDepth 20000 in
theorem ggL_law_X12_grant : GoodIn wsL_law wsX12_grant := goodIn_r _ [1444, 155, 196, 197, 5, 198, 1624, 1625, 1626, 1627, 1628, 1629, 1630, 1631, 1632, 1633, 1634, 1635, 1636, 1637, 1638, 1639, 1640, 1641, 1642, 1643, 1644, 1645, 1646, 1647, 1648, 1649, 1650, 1651, 1652, 1653, 1654, 1655, 1656, 1657, 1658, 1659] (by decide +kernel) (by decide +kernel)
set_option maxRecDepth 20000 in
theorem gL_law_X12_grant : GoodIn wsL_law (wsV RL 177 RX12 yX12_grant wsX12_grant) := goodIn_app (goodIn_of _ (by decide +kernel)) ggL_law_X12_grant
set_option maxRecDepth 20000 in
theorem ggL_law_X11_budget : GoodIn wsL_law wsX11_budget := goodIn_r _ [1448, 1140, 49, 1449, 775, 215, 776, 1450, 1451, 1452, 48, 1453, 1454, 1455, 1456, 1457, 150, 1458, 207, 2, 208, 1459, 1460, 1461, 1462, 1463, 1464, 1465, 1466, 1467, 1468, 1469, 1470, 1471, 1472, 1473, 1612, 1613, 1614, 1615, 1616, 1617, 1618, 1619, 1620, 1621, 1622, 1623, 1718, 1719, 1720, 1721, 1660, 1661, 1662, 1663, 1664, 1665, 1666, 1667, 1668, 1669, 1670, 1671, 1672, 1673, 1674, 1675, 1676, 1677, 1678, 1679, 1680, 1681, 1682, 1683] (by decide +kernel) (by decide +kernel)
set_option maxRecDepth 20000 in
theorem gL_law_X11_budget : GoodIn wsL_law (wsV RL 178 RX11 yX11_budget wsX11_budget) := goodIn_app (goodIn_of _ (by decide +kernel)) ggL_law_X11_budget
set_option maxRecDepth 20000 in
theorem ggL_law_X12_budget : GoodIn wsL_law wsX12_budget := goodIn_r _ [1477, 1153, 196, 197, 5, 198, 1478, 1479, 1480, 1481, 155, 228, 229, 230, 1482, 1483, 1484, 1485, 1486, 1487, 1488, 1489, 1624, 1625, 1626, 1627, 1628, 1629, 1630, 1631, 1632, 1633, 1634, 1635, 1636, 1637, 1638, 1639, 1640, 1641, 1642, 1643, 1644, 1645, 1646, 1647, 1648, 1649, 1650, 1651, 1652, 1653, 1654, 1655, 1656, 1657, 1658, 1659] (by decide +kernel) (by decide +kernel)
set_option maxRecDepth 20000 in
theorem gL_law_X12_budget : GoodIn wsL_law (wsV RL 182 RX12 yX12_budget wsX12_budget) := goodIn_app (goodIn_of _ (by decide +kernel)) ggL_law_X12_budget
set_option maxRecDepth 20000 in
theorem ggL_law_X11_enough : GoodIn wsL_law wsX11_enough := goodIn_r _ [1493, 49, 1494, 1495, 1496, 48, 1497, 1470, 1454, 1455, 1456, 1457, 150, 1458, 207, 2, 208, 1498, 1451, 1452, 1453, 1459, 1460, 1461, 1462, 1463, 1464, 1465, 1499, 1467, 1468, 1469, 1612, 1613, 1614, 1615, 1616, 1617, 1618, 1619, 1620, 1621, 1622, 1623, 1718, 1719, 1720, 1721, 1660, 1661, 1662, 1663, 1664, 1665, 1666, 1667, 1668, 1669, 1670, 1671, 1672, 1673, 1674, 1675, 1676, 1677, 1678, 1679, 1680, 1681, 1682, 1683] (by decide +kernel) (by decide +kernel)
set_option maxRecDepth 20000 in
theorem gL_law_X11_enough : GoodIn wsL_law (wsV RL 183 RX11 yX11_enough wsX11_enough) := goodIn_app (goodIn_of _ (by decide +kernel)) ggL_law_X11_enough
set_option maxRecDepth 20000 in
theorem ggL_law_X12_enough : GoodIn wsL_law wsX12_enough := goodIn_r _ [1503, 1486, 196, 197, 5, 198, 1478, 1479, 1480, 1481, 155, 228, 229, 230, 1482, 1483, 1484, 1485, 1624, 1625, 1626, 1627, 1628, 1629, 1630, 1631, 1632, 1633, 1634, 1635, 1636, 1637, 1638, 1639, 1640, 1641, 1642, 1643, 1644, 1645, 1646, 1647, 1648, 1649, 1650, 1651, 1652, 1653, 1654, 1655, 1656, 1657, 1658, 1659] (by decide +kernel) (by decide +kernel)
set_option maxRecDepth 20000 in
theorem gL_law_X12_enough : GoodIn wsL_law (wsV RL 186 RX12 yX12_enough wsX12_enough) := goodIn_app (goodIn_of _ (by decide +kernel)) ggL_law_X12_enough
set_option maxRecDepth 20000 in
theorem ggL_law_X11_said : GoodIn wsL_law wsX11_said := goodIn_r _ [1507, 15, 1508, 693, 1048, 699, 700, 19, 701, 702, 1509, 1510, 1511, 14, 1512, 1513, 68, 69, 1612, 1613, 1614, 1615, 1616, 1617, 1618, 1619, 1620, 1621, 1622, 1623, 1660, 1661, 1662, 1663, 1664, 1665, 1666, 1667, 1668, 1669, 1670, 1671, 1672, 1673, 1674, 1675, 1676, 1677, 1678, 1679, 1680, 1681, 1682, 1683] (by decide +kernel) (by decide +kernel)
set_option maxRecDepth 20000 in
theorem gL_law_X11_said : GoodIn wsL_law (wsV RL 187 RX11 yX11_said wsX11_said) := goodIn_app (goodIn_of _ (by decide +kernel)) ggL_law_X11_said
set_option maxRecDepth 20000 in
theorem ggL_law_X12_said : GoodIn wsL_law wsX12_said := goodIn_r _ [1517, 155, 812, 813, 814, 5, 815, 196, 197, 198, 1624, 1625, 1626, 1627, 1628, 1629, 1630, 1631, 1632, 1633, 1634, 1635, 1636, 1637, 1638, 1639, 1640, 1641, 1642, 1643, 1644, 1645, 1646, 1647, 1648, 1649, 1650, 1651, 1652, 1653, 1654, 1655, 1656, 1657, 1658, 1659] (by decide +kernel) (by decide +kernel)
set_option maxRecDepth 20000 in
theorem gL_law_X12_said : GoodIn wsL_law (wsV RL 190 RX12 yX12_said wsX12_said) := goodIn_app (goodIn_of _ (by decide +kernel)) ggL_law_X12_said
set_option maxRecDepth 20000 in
theorem ggL_law_X11_whose : GoodIn wsL_law wsX11_whose := goodIn_r _ [1521, 15, 288, 22, 1522, 1523, 1524, 2, 1525, 1508, 33, 693, 1526, 1527, 1050, 790, 791, 31, 792, 757, 758, 793, 794, 748, 305, 215, 306, 749, 214, 216, 750, 699, 700, 19, 701, 702, 751, 426, 427, 24, 428, 398, 400, 752, 753, 754, 755, 117, 756, 759, 760, 761, 241, 242, 762, 218, 219, 220, 221, 222, 223, 763, 764, 765, 766, 767, 768, 118, 769, 770, 771, 772, 773, 774, 775, 776, 777, 778, 779, 780, 781, 782, 783, 784, 119, 785, 786, 787, 788, 1612, 1613, 1614, 1615, 1616, 1617, 1618, 1619, 1620, 1621, 1622, 1623, 1660, 1661, 1662, 1663, 1664, 1665, 1666, 1667, 1668, 1669, 1670, 1671, 1672, 1673, 1674, 1675, 1676, 1677, 1678, 1679, 1680, 1681, 1682, 1683, 1684, 1685, 1686, 1687, 1688, 1689, 1690, 1691, 1692, 1693, 1694, 1704, 1705, 1706, 1722, 1723, 1724, 1725, 1726] (by decide +kernel) (by decide +kernel)
set_option maxRecDepth 20000 in
theorem gL_law_X11_whose : GoodIn wsL_law (wsV RL 191 RX11 yX11_whose wsX11_whose) := goodIn_app (goodIn_of _ (by decide +kernel)) ggL_law_X11_whose
set_option maxRecDepth 20000 in
theorem ggL_law_X12_whose : GoodIn wsL_law wsX12_whose := goodIn_r _ [1531, 155, 885, 886, 887, 5, 888, 164, 837, 838, 839, 840, 841, 842, 843, 844, 158, 159, 228, 229, 230, 816, 817, 818, 819, 845, 846, 847, 848, 849, 850, 851, 157, 852, 853, 854, 855, 165, 167, 856, 857, 858, 859, 860, 861, 862, 863, 864, 865, 866, 867, 868, 869, 870, 871, 872, 873, 874, 875, 876, 877, 878, 879, 880, 1624, 1625, 1626, 1627, 1628, 1629, 1630, 1631, 1632, 1633, 1634, 1635, 1636, 1637, 1638, 1639, 1640, 1641, 1642, 1643, 1644, 1645, 1646, 1647, 1648, 1649, 1650, 1651, 1652, 1653, 1654, 1655, 1656, 1657, 1658, 1659] (by decide +kernel) (by decide +kernel)
set_option maxRecDepth 20000 in
theorem gL_law_X12_whose : GoodIn wsL_law (wsV RL 194 RX12 yX12_whose wsX12_whose) := goodIn_app (goodIn_of _ (by decide +kernel)) ggL_law_X12_whose
set_option maxRecDepth 20000 in
theorem ggL_law_X11_saddest : GoodIn wsL_law wsX11_saddest := goodIn_r _ [1535, 15, 693, 1536, 1045, 1612, 1613, 1614, 1615, 1616, 1617, 1618, 1619, 1620, 1621, 1622, 1623, 1660, 1661, 1662, 1663, 1664, 1665, 1666, 1667, 1668, 1669, 1670, 1671, 1672, 1673, 1674, 1675, 1676, 1677, 1678, 1679, 1680, 1681, 1682, 1683] (by decide +kernel) (by decide +kernel)
set_option maxRecDepth 20000 in
theorem gL_law_X11_saddest : GoodIn wsL_law (wsV RL 195 RX11 yX11_saddest wsX11_saddest) := goodIn_app (goodIn_of _ (by decide +kernel)) ggL_law_X11_saddest
set_option maxRecDepth 20000 in
theorem ggL_law_X12_saddest : GoodIn wsL_law wsX12_saddest := goodIn_r _ [1540, 155, 816, 817, 818, 5, 819, 1624, 1625, 1626, 1627, 1628, 1629, 1630, 1631, 1632, 1633, 1634, 1635, 1636, 1637, 1638, 1639, 1640, 1641, 1642, 1643, 1644, 1645, 1646, 1647, 1648, 1649, 1650, 1651, 1652, 1653, 1654, 1655, 1656, 1657, 1658, 1659] (by decide +kernel) (by decide +kernel)
set_option maxRecDepth 20000 in
theorem gL_law_X12_saddest : GoodIn wsL_law (wsV RL 198 RX12 yX12_saddest wsX12_saddest) := goodIn_app (goodIn_of _ (by decide +kernel)) ggL_law_X12_saddest
set_option maxRecDepth 20000 in
theorem ggL_law_X11_plain : GoodIn wsL_law wsX11_plain := goodIn_r _ [1544, 15, 32, 1060, 1612, 1613, 1614, 1615, 1616, 1617, 1618, 1619, 1620, 1621, 1622, 1623, 1660, 1661, 1662, 1663, 1664, 1665, 1666, 1667, 1668, 1669, 1670, 1671, 1722, 1723, 1724, 1725, 1726] (by decide +kernel) (by decide +kernel)
set_option maxRecDepth 20000 in
theorem gL_law_X11_plain : GoodIn wsL_law (wsV RL 199 RX11 yX11_plain wsX11_plain) := goodIn_app (goodIn_of _ (by decide +kernel)) ggL_law_X11_plain
set_option maxRecDepth 20000 in
theorem ggL_law_X12_plain : GoodIn wsL_law wsX12_plain := goodIn_r _ [1548, 155, 1624, 1625, 1626, 1627, 1628, 1629, 1630, 1631, 1632, 1633, 1634, 1635, 1636, 1637, 1638, 1639, 1640, 1641, 1642, 1643, 1644, 1645, 1646, 1647, 1648, 1649, 1650, 1651, 1652, 1653, 1654, 1655, 1656, 1657, 1658, 1659] (by decide +kernel) (by decide +kernel)
set_option maxRecDepth 20000 in
theorem gL_law_X12_plain : GoodIn wsL_law (wsV RL 202 RX12 yX12_plain wsX12_plain) := goodIn_app (goodIn_of _ (by decide +kernel)) ggL_law_X12_plain
set_option maxRecDepth 20000 in
theorem ggL_law_X11_loose : GoodIn wsL_law wsX11_loose := goodIn_r _ [1552, 15, 32, 1060, 1612, 1613, 1614, 1615, 1616, 1617, 1618, 1619, 1620, 1621, 1622, 1623, 1660, 1661, 1662, 1663, 1664, 1665, 1666, 1667, 1668, 1669, 1670, 1671, 1722, 1723, 1724, 1725, 1726] (by decide +kernel) (by decide +kernel)
set_option maxRecDepth 20000 in
theorem gL_law_X11_loose : GoodIn wsL_law (wsV RL 203 RX11 yX11_loose wsX11_loose) := goodIn_app (goodIn_of _ (by decide +kernel)) ggL_law_X11_loose
set_option maxRecDepth 20000 in
theorem ggL_law_X12_loose : GoodIn wsL_law wsX12_loose := goodIn_r _ [1556, 155, 1624, 1625, 1626, 1627, 1628, 1629, 1630, 1631, 1632, 1633, 1634, 1635, 1636, 1637, 1638, 1639, 1640, 1641, 1642, 1643, 1644, 1645, 1646, 1647, 1648, 1649, 1650, 1651, 1652, 1653, 1654, 1655, 1656, 1657, 1658, 1659] (by decide +kernel) (by decide +kernel)
set_option maxRecDepth 20000 in
theorem gL_law_X12_loose : GoodIn wsL_law (wsV RL 206 RX12 yX12_loose wsX12_loose) := goodIn_app (goodIn_of _ (by decide +kernel)) ggL_law_X12_loose
set_option maxRecDepth 20000 in
theorem ggL_law_X11_above : GoodIn wsL_law wsX11_above := goodIn_r _ [1560, 41, 186, 187, 2, 188, 1561, 1562, 1563, 40, 1564, 135, 1217, 207, 208, 1612, 1613, 1614, 1615, 1616, 1617, 1618, 1619, 1620, 1621, 1622, 1623, 1710, 1711, 1712, 1713, 1714, 1722, 1723, 1724, 1725, 1726] (by decide +kernel) (by decide +kernel)
set_option maxRecDepth 20000 in
theorem gL_law_X11_above : GoodIn wsL_law (wsV RL 207 RX11 yX11_above wsX11_above) := goodIn_app (goodIn_of _ (by decide +kernel)) ggL_law_X11_above
set_option maxRecDepth 20000 in
theorem ggL_law_X12_above : GoodIn wsL_law wsX12_above := goodIn_r _ [1568, 158, 193, 194, 5, 195, 196, 197, 198, 841, 842, 843, 844, 155, 159, 228, 229, 230, 1624, 1625, 1626, 1627, 1628, 1629, 1630, 1631, 1632, 1633, 1634, 1635, 1636, 1637, 1638, 1639, 1640, 1641, 1642, 1643, 1644, 1645, 1646, 1647, 1648, 1649, 1650, 1651, 1652, 1653, 1654, 1655, 1656, 1657, 1658, 1659] (by decide +kernel) (by decide +kernel)
set_option maxRecDepth 20000 in
theorem gL_law_X12_above : GoodIn wsL_law (wsV RL 210 RX12 yX12_above wsX12_above) := goodIn_app (goodIn_of _ (by decide +kernel)) ggL_law_X12_above
set_option maxRecDepth 20000 in
theorem ggL_law_X11_ledger : GoodIn wsL_law wsX11_ledger := goodIn_r _ [1572, 15, 693, 1098, 1099, 1100, 1101, 19, 1102, 715, 88, 1612, 1613, 1614, 1615, 1616, 1617, 1618, 1619, 1620, 1621, 1622, 1623, 1660, 1661, 1662, 1663, 1664, 1665, 1666, 1667, 1668, 1669, 1670, 1671, 1672, 1673, 1674, 1675, 1676, 1677, 1678, 1679, 1680, 1681, 1682, 1683] (by decide +kernel) (by decide +kernel)
set_option maxRecDepth 20000 in
theorem gL_law_X11_ledger : GoodIn wsL_law (wsV RL 211 RX11 yX11_ledger wsX11_ledger) := goodIn_app (goodIn_of _ (by decide +kernel)) ggL_law_X11_ledger
set_option maxRecDepth 20000 in
theorem ggL_law_X12_ledger : GoodIn wsL_law wsX12_ledger := goodIn_r _ [1576, 155, 1107, 1108, 1109, 5, 1110, 1624, 1625, 1626, 1627, 1628, 1629, 1630, 1631, 1632, 1633, 1634, 1635, 1636, 1637, 1638, 1639, 1640, 1641, 1642, 1643, 1644, 1645, 1646, 1647, 1648, 1649, 1650, 1651, 1652, 1653, 1654, 1655, 1656, 1657, 1658, 1659] (by decide +kernel) (by decide +kernel)
set_option maxRecDepth 20000 in
theorem gL_law_X12_ledger : GoodIn wsL_law (wsV RL 214 RX12 yX12_ledger wsX12_ledger) := goodIn_app (goodIn_of _ (by decide +kernel)) ggL_law_X12_ledger
set_option maxRecDepth 20000 in
theorem ggL_law_X11_image : GoodIn wsL_law wsX11_image := goodIn_r _ [1580, 16, 15, 693, 940, 1581, 1582, 1583, 14, 1584, 60, 62, 240, 63, 1585, 64, 65, 1586, 712, 713, 714, 66, 67, 68, 69, 1513, 1587, 1588, 1589, 59, 1590, 74, 1591, 75, 76, 77, 78, 707, 708, 709, 19, 710, 82, 711, 83, 84, 85, 86, 87, 88, 715, 702, 716, 717, 89, 1612, 1613, 1614, 1615, 1616, 1617, 1618, 1619, 1620, 1621, 1622, 1623, 1660, 1661, 1662, 1663, 1664, 1665, 1666, 1667, 1668, 1669, 1670, 1671, 1672, 1673, 1674, 1675, 1676, 1677, 1678, 1679, 1680, 1681, 1682, 1683, 1722, 1723, 1724, 1725, 1726] (by decide +kernel) (by decide +kernel)
set_option maxRecDepth 20000 in
theorem gL_law_X11_image : GoodIn wsL_law (wsV RL 215 RX11 yX11_image wsX11_image) := goodIn_app (goodIn_of _ (by decide +kernel)) ggL_law_X11_image
set_option maxRecDepth 20000 in
theorem ggL_law_X12_image : GoodIn wsL_law wsX12_image := goodIn_r _ [1595, 155, 156, 178, 179, 5, 180, 1624, 1625, 1626, 1627, 1628, 1629, 1630, 1631, 1632, 1633, 1634, 1635, 1636, 1637, 1638, 1639, 1640, 1641, 1642, 1643, 1644, 1645, 1646, 1647, 1648, 1649, 1650, 1651, 1652, 1653, 1654, 1655, 1656, 1657, 1658, 1659] (by decide +kernel) (by decide +kernel)
set_option maxRecDepth 20000 in
theorem gL_law_X12_image : GoodIn wsL_law (wsV RL 218 RX12 yX12_image wsX12_image) := goodIn_app (goodIn_of _ (by decide +kernel)) ggL_law_X12_image
set_option maxRecDepth 20000 in
theorem ggL_law_X11_back : GoodIn wsL_law wsX11_back := goodIn_r _ [1599, 15, 16, 693, 940, 1581, 1582, 1583, 14, 1584, 60, 62, 240, 63, 1585, 64, 65, 1586, 712, 713, 714, 66, 67, 68, 69, 1513, 1587, 1588, 1589, 59, 1590, 74, 1591, 75, 76, 77, 78, 707, 708, 709, 19, 710, 82, 711, 83, 84, 85, 86, 87, 88, 715, 702, 716, 717, 89, 1612, 1613, 1614, 1615, 1616, 1617, 1618, 1619, 1620, 1621, 1622, 1623, 1660, 1661, 1662, 1663, 1664, 1665, 1666, 1667, 1668, 1669, 1670, 1671, 1672, 1673, 1674, 1675, 1676, 1677, 1678, 1679, 1680, 1681, 1682, 1683, 1722, 1723, 1724, 1725, 1726] (by decide +kernel) (by decide +kernel)
set_option maxRecDepth 20000 in
theorem gL_law_X11_back : GoodIn wsL_law (wsV RL 219 RX11 yX11_back wsX11_back) := goodIn_app (goodIn_of _ (by decide +kernel)) ggL_law_X11_back
set_option maxRecDepth 20000 in
theorem ggL_law_X12_back : GoodIn wsL_law wsX12_back := goodIn_r _ [1603, 156, 155, 178, 179, 5, 180, 1624, 1625, 1626, 1627, 1628, 1629, 1630, 1631, 1632, 1633, 1634, 1635, 1636, 1637, 1638, 1639, 1640, 1641, 1642, 1643, 1644, 1645, 1646, 1647, 1648, 1649, 1650, 1651, 1652, 1653, 1654, 1655, 1656, 1657, 1658, 1659] (by decide +kernel) (by decide +kernel)
set_option maxRecDepth 20000 in
theorem gL_law_X12_back : GoodIn wsL_law (wsV RL 222 RX12 yX12_back wsX12_back) := goodIn_app (goodIn_of _ (by decide +kernel)) ggL_law_X12_back
set_option maxRecDepth 20000 in
theorem ggL_law_X11_about : GoodIn wsL_law wsX11_about := goodIn_r _ [1607, 15, 693, 1536, 288, 680, 1030, 1508, 52, 1612, 1613, 1614, 1615, 1616, 1617, 1618, 1619, 1620, 1621, 1622, 1623, 1660, 1661, 1662, 1663, 1664, 1665, 1666, 1667, 1668, 1669, 1670, 1671, 1672, 1673, 1674, 1675, 1676, 1677, 1678, 1679, 1680, 1681, 1682, 1683] (by decide +kernel) (by decide +kernel)
set_option maxRecDepth 20000 in
theorem gL_law_X11_about : GoodIn wsL_law (wsV RL 223 RX11 yX11_about wsX11_about) := goodIn_app (goodIn_of _ (by decide +kernel)) ggL_law_X11_about
set_option maxRecDepth 20000 in
theorem ggL_law_X12_about : GoodIn wsL_law wsX12_about := goodIn_r _ [1611, 155, 271, 196, 197, 5, 198, 1624, 1625, 1626, 1627, 1628, 1629, 1630, 1631, 1632, 1633, 1634, 1635, 1636, 1637, 1638, 1639, 1640, 1641, 1642, 1643, 1644, 1645, 1646, 1647, 1648, 1649, 1650, 1651, 1652, 1653, 1654, 1655, 1656, 1657, 1658, 1659] (by decide +kernel) (by decide +kernel)
set_option maxRecDepth 20000 in
theorem gL_law_X12_about : GoodIn wsL_law (wsV RL 226 RX12 yX12_about wsX12_about) := goodIn_app (goodIn_of _ (by decide +kernel)) ggL_law_X12_about
theorem dL_law_0 : decode cL_law 0 = .ok (.new 7, 3) := by decide +kernel
theorem dL_law_3 : decode cL_law 3 = .ok (.dup, 1) := by decide +kernel
theorem dL_law_4 : decode cL_law 4 = .ok (.invokespecial 9, 3) := by decide +kernel
theorem dL_law_7 : decode cL_law 7 = .ok (.astore_n 1, 1) := by decide +kernel
theorem dL_law_8 : decode cL_law 8 = .ok (.new 10, 3) := by decide +kernel
theorem dL_law_11 : decode cL_law 11 = .ok (.dup, 1) := by decide +kernel
theorem dL_law_12 : decode cL_law 12 = .ok (.invokespecial 12, 3) := by decide +kernel
theorem dL_law_15 : decode cL_law 15 = .ok (.astore_n 2, 1) := by decide +kernel
theorem dL_law_16 : decode cL_law 16 = .ok (.iconst 0, 1) := by decide +kernel
theorem dL_law_17 : decode cL_law 17 = .ok (.istore_n 3, 1) := by decide +kernel
theorem dL_law_18 : decode cL_law 18 = .ok (.iload_n 3, 1) := by decide +kernel
theorem dL_law_19 : decode cL_law 19 = .ok (.aload_n 0, 1) := by decide +kernel
theorem dL_law_20 : decode cL_law 20 = .ok (.arraylength, 1) := by decide +kernel
theorem dL_law_21 : decode cL_law 21 = .ok (.bipush 6, 2) := by decide +kernel
theorem dL_law_23 : decode cL_law 23 = .ok (.isub, 1) := by decide +kernel
theorem dL_law_24 : decode cL_law 24 = .ok (.if_icmp .gt 1730, 3) := by decide +kernel
theorem dL_law_27 : decode cL_law 27 = .ok (.aload_n 0, 1) := by decide +kernel
theorem dL_law_28 : decode cL_law 28 = .ok (.iload_n 3, 1) := by decide +kernel
theorem dL_law_29 : decode cL_law 29 = .ok (.iaload, 1) := by decide +kernel
theorem dL_law_30 : decode cL_law 30 = .ok (.bipush 63, 2) := by decide +kernel
theorem dL_law_32 : decode cL_law 32 = .ok (.iand, 1) := by decide +kernel
theorem dL_law_33 : decode cL_law 33 = .ok (.tableswitch 1715 0 49 #[215, 248, 307, 340, 403, 426, 439, 462, 485, 508, 541, 574, 597, 620, 653, 666, 699, 732, 765, 788, 821, 864, 887, 921, 954, 987, 1020, 1053, 1076, 1109, 1148, 1161, 1174, 1223, 1282, 1341, 1380, 1403, 1446, 1496, 1519, 1552, 1565, 1578, 1591, 1604, 1627, 1666, 1679, 1692], 215) := by decide +kernel
theorem dL_law_248 : decode cL_law 248 = .ok (.aload_n 1, 1) := by decide +kernel
theorem dL_law_249 : decode cL_law 249 = .ok (.aload_n 0, 1) := by decide +kernel
theorem dL_law_250 : decode cL_law 250 = .ok (.iload_n 3, 1) := by decide +kernel
theorem dL_law_251 : decode cL_law 251 = .ok (.iconst 1, 1) := by decide +kernel
theorem dL_law_252 : decode cL_law 252 = .ok (.iadd, 1) := by decide +kernel
theorem dL_law_253 : decode cL_law 253 = .ok (.iaload, 1) := by decide +kernel
theorem dL_law_254 : decode cL_law 254 = .ok (.aload_n 0, 1) := by decide +kernel
theorem dL_law_255 : decode cL_law 255 = .ok (.iload_n 3, 1) := by decide +kernel
theorem dL_law_256 : decode cL_law 256 = .ok (.iconst 2, 1) := by decide +kernel
theorem dL_law_257 : decode cL_law 257 = .ok (.iadd, 1) := by decide +kernel
theorem dL_law_258 : decode cL_law 258 = .ok (.iaload, 1) := by decide +kernel
theorem dL_law_259 : decode cL_law 259 = .ok (.invokevirtual 13, 3) := by decide +kernel
theorem dL_law_262 : decode cL_law 262 = .ok (.aload_n 2, 1) := by decide +kernel
theorem dL_law_263 : decode cL_law 263 = .ok (.aload_n 0, 1) := by decide +kernel
theorem dL_law_264 : decode cL_law 264 = .ok (.iload_n 3, 1) := by decide +kernel
theorem dL_law_265 : decode cL_law 265 = .ok (.iconst 1, 1) := by decide +kernel
theorem dL_law_266 : decode cL_law 266 = .ok (.iadd, 1) := by decide +kernel
theorem dL_law_267 : decode cL_law 267 = .ok (.iaload, 1) := by decide +kernel
theorem dL_law_268 : decode cL_law 268 = .ok (.aload_n 0, 1) := by decide +kernel
theorem dL_law_269 : decode cL_law 269 = .ok (.iload_n 3, 1) := by decide +kernel
theorem dL_law_270 : decode cL_law 270 = .ok (.iconst 2, 1) := by decide +kernel
theorem dL_law_271 : decode cL_law 271 = .ok (.iadd, 1) := by decide +kernel
theorem dL_law_272 : decode cL_law 272 = .ok (.iaload, 1) := by decide +kernel
theorem dL_law_273 : decode cL_law 273 = .ok (.invokevirtual 17, 3) := by decide +kernel
theorem dL_law_276 : decode cL_law 276 = .ok (.if_icmp .eq 1472, 3) := by decide +kernel
theorem dL_law_279 : decode cL_law 279 = .ok (.iconst 0, 1) := by decide +kernel
theorem dL_law_280 : decode cL_law 280 = .ok (.ireturn, 1) := by decide +kernel
theorem dL_law_281 : decode cL_law 281 = .ok (.aload_n 1, 1) := by decide +kernel
theorem dL_law_282 : decode cL_law 282 = .ok (.aload_n 0, 1) := by decide +kernel
theorem dL_law_283 : decode cL_law 283 = .ok (.iload_n 3, 1) := by decide +kernel
theorem dL_law_284 : decode cL_law 284 = .ok (.iconst 1, 1) := by decide +kernel
theorem dL_law_285 : decode cL_law 285 = .ok (.iadd, 1) := by decide +kernel
theorem dL_law_286 : decode cL_law 286 = .ok (.iaload, 1) := by decide +kernel
theorem dL_law_287 : decode cL_law 287 = .ok (.aload_n 0, 1) := by decide +kernel
theorem dL_law_288 : decode cL_law 288 = .ok (.iload_n 3, 1) := by decide +kernel
theorem dL_law_289 : decode cL_law 289 = .ok (.iconst 2, 1) := by decide +kernel
theorem dL_law_290 : decode cL_law 290 = .ok (.iadd, 1) := by decide +kernel
theorem dL_law_291 : decode cL_law 291 = .ok (.iaload, 1) := by decide +kernel
theorem dL_law_292 : decode cL_law 292 = .ok (.aload_n 0, 1) := by decide +kernel
theorem dL_law_293 : decode cL_law 293 = .ok (.iload_n 3, 1) := by decide +kernel
theorem dL_law_294 : decode cL_law 294 = .ok (.iconst 3, 1) := by decide +kernel
theorem dL_law_295 : decode cL_law 295 = .ok (.iadd, 1) := by decide +kernel
theorem dL_law_296 : decode cL_law 296 = .ok (.iaload, 1) := by decide +kernel
theorem dL_law_297 : decode cL_law 297 = .ok (.ifCond .eq 7, 3) := by decide +kernel
