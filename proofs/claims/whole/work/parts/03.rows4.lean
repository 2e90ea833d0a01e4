theorem dX12_tellsOf_30 : decode cX12_tellsOf 30 = .ok (.getfield 38, 3) := by decide +kernel
theorem dX12_tellsOf_33 : decode cX12_tellsOf 33 = .ok (.bipush 9, 2) := by decide +kernel
theorem dX12_tellsOf_35 : decode cX12_tellsOf 35 = .ok (.aload_n 0, 1) := by decide +kernel
theorem dX12_tellsOf_36 : decode cX12_tellsOf 36 = .ok (.getfield 22, 3) := by decide +kernel
theorem dX12_tellsOf_39 : decode cX12_tellsOf 39 = .ok (.iload_n 2, 1) := by decide +kernel
theorem dX12_tellsOf_40 : decode cX12_tellsOf 40 = .ok (.iaload, 1) := by decide +kernel
theorem dX12_tellsOf_41 : decode cX12_tellsOf 41 = .ok (.iastore, 1) := by decide +kernel
theorem dX12_tellsOf_42 : decode cX12_tellsOf 42 = .ok (.aload_n 0, 1) := by decide +kernel
theorem dX12_tellsOf_43 : decode cX12_tellsOf 43 = .ok (.aload_n 0, 1) := by decide +kernel
theorem dX12_tellsOf_44 : decode cX12_tellsOf 44 = .ok (.getfield 7, 3) := by decide +kernel
theorem dX12_tellsOf_47 : decode cX12_tellsOf 47 = .ok (.iconst 2, 1) := by decide +kernel
theorem dX12_tellsOf_48 : decode cX12_tellsOf 48 = .ok (.iaload, 1) := by decide +kernel
theorem dX12_tellsOf_49 : decode cX12_tellsOf 49 = .ok (.iconst 0, 1) := by decide +kernel
theorem dX12_tellsOf_50 : decode cX12_tellsOf 50 = .ok (.aload_n 0, 1) := by decide +kernel
theorem dX12_tellsOf_51 : decode cX12_tellsOf 51 = .ok (.getfield 38, 3) := by decide +kernel
theorem dX12_tellsOf_54 : decode cX12_tellsOf 54 = .ok (.bipush 8, 2) := by decide +kernel
theorem dX12_tellsOf_56 : decode cX12_tellsOf 56 = .ok (.iaload, 1) := by decide +kernel
theorem dX12_tellsOf_57 : decode cX12_tellsOf 57 = .ok (.invokevirtual 319, 3) := by decide +kernel
theorem dX12_tellsOf_60 : decode cX12_tellsOf 60 = .ok (.ireturn, 1) := by decide +kernel
theorem dX12_needsOf_0 : decode cX12_needsOf 0 = .ok (.aload_n 0, 1) := by decide +kernel
theorem dX12_needsOf_1 : decode cX12_needsOf 1 = .ok (.iload_n 2, 1) := by decide +kernel
theorem dX12_needsOf_2 : decode cX12_needsOf 2 = .ok (.invokevirtual 316, 3) := by decide +kernel
theorem dX12_needsOf_5 : decode cX12_needsOf 5 = .ok (.aload_n 0, 1) := by decide +kernel
theorem dX12_needsOf_6 : decode cX12_needsOf 6 = .ok (.iload_n 1, 1) := by decide +kernel
theorem dX12_needsOf_7 : decode cX12_needsOf 7 = .ok (.iconst 1, 1) := by decide +kernel
theorem dX12_needsOf_8 : decode cX12_needsOf 8 = .ok (.aload_n 0, 1) := by decide +kernel
theorem dX12_needsOf_9 : decode cX12_needsOf 9 = .ok (.getfield 38, 3) := by decide +kernel
theorem dX12_needsOf_12 : decode cX12_needsOf 12 = .ok (.iconst 2, 1) := by decide +kernel
theorem dX12_needsOf_13 : decode cX12_needsOf 13 = .ok (.iaload, 1) := by decide +kernel
theorem dX12_needsOf_14 : decode cX12_needsOf 14 = .ok (.iconst 2, 1) := by decide +kernel
theorem dX12_needsOf_15 : decode cX12_needsOf 15 = .ok (.aload_n 0, 1) := by decide +kernel
theorem dX12_needsOf_16 : decode cX12_needsOf 16 = .ok (.getfield 38, 3) := by decide +kernel
theorem dX12_needsOf_19 : decode cX12_needsOf 19 = .ok (.iconst 3, 1) := by decide +kernel
theorem dX12_needsOf_20 : decode cX12_needsOf 20 = .ok (.iaload, 1) := by decide +kernel
theorem dX12_needsOf_21 : decode cX12_needsOf 21 = .ok (.imul, 1) := by decide +kernel
theorem dX12_needsOf_22 : decode cX12_needsOf 22 = .ok (.isub, 1) := by decide +kernel
theorem dX12_needsOf_23 : decode cX12_needsOf 23 = .ok (.invokevirtual 319, 3) := by decide +kernel
theorem dX12_needsOf_26 : decode cX12_needsOf 26 = .ok (.ireturn, 1) := by decide +kernel
theorem dX12_nextOf_0 : decode cX12_nextOf 0 = .ok (.iconst (-1), 1) := by decide +kernel
theorem dX12_nextOf_1 : decode cX12_nextOf 1 = .ok (.istore_n 2, 1) := by decide +kernel
theorem dX12_nextOf_2 : decode cX12_nextOf 2 = .ok (.iconst 0, 1) := by decide +kernel
theorem dX12_nextOf_3 : decode cX12_nextOf 3 = .ok (.istore_n 3, 1) := by decide +kernel
theorem dX12_nextOf_4 : decode cX12_nextOf 4 = .ok (.iconst 0, 1) := by decide +kernel
theorem dX12_nextOf_5 : decode cX12_nextOf 5 = .ok (.istore 4, 2) := by decide +kernel
theorem dX12_nextOf_7 : decode cX12_nextOf 7 = .ok (.iload 4, 2) := by decide +kernel
theorem dX12_nextOf_9 : decode cX12_nextOf 9 = .ok (.bipush 12, 2) := by decide +kernel
theorem dX12_nextOf_11 : decode cX12_nextOf 11 = .ok (.if_icmp .ge 72, 3) := by decide +kernel
theorem dX12_nextOf_14 : decode cX12_nextOf 14 = .ok (.aload_n 0, 1) := by decide +kernel
theorem dX12_nextOf_15 : decode cX12_nextOf 15 = .ok (.getfield 7, 3) := by decide +kernel
theorem dX12_nextOf_18 : decode cX12_nextOf 18 = .ok (.bipush 61, 2) := by decide +kernel
theorem dX12_nextOf_20 : decode cX12_nextOf 20 = .ok (.aload_n 0, 1) := by decide +kernel
theorem dX12_nextOf_21 : decode cX12_nextOf 21 = .ok (.iload_n 1, 1) := by decide +kernel
theorem dX12_nextOf_22 : decode cX12_nextOf 22 = .ok (.iconst 0, 1) := by decide +kernel
theorem dX12_nextOf_23 : decode cX12_nextOf 23 = .ok (.invokevirtual 92, 3) := by decide +kernel
theorem dX12_nextOf_26 : decode cX12_nextOf 26 = .ok (.iadd, 1) := by decide +kernel
theorem dX12_nextOf_27 : decode cX12_nextOf 27 = .ok (.iaload, 1) := by decide +kernel
theorem dX12_nextOf_28 : decode cX12_nextOf 28 = .ok (.aload_n 0, 1) := by decide +kernel
theorem dX12_nextOf_29 : decode cX12_nextOf 29 = .ok (.iload_n 1, 1) := by decide +kernel
theorem dX12_nextOf_30 : decode cX12_nextOf 30 = .ok (.iconst 5, 1) := by decide +kernel
theorem dX12_nextOf_31 : decode cX12_nextOf 31 = .ok (.invokevirtual 92, 3) := by decide +kernel
theorem dX12_nextOf_34 : decode cX12_nextOf 34 = .ok (.iconst (-1), 1) := by decide +kernel
theorem dX12_nextOf_35 : decode cX12_nextOf 35 = .ok (.ixor, 1) := by decide +kernel
theorem dX12_nextOf_36 : decode cX12_nextOf 36 = .ok (.iand, 1) := by decide +kernel
theorem dX12_nextOf_37 : decode cX12_nextOf 37 = .ok (.iload 4, 2) := by decide +kernel
theorem dX12_nextOf_39 : decode cX12_nextOf 39 = .ok (.invokestatic 96, 3) := by decide +kernel
theorem dX12_nextOf_42 : decode cX12_nextOf 42 = .ok (.ifCond .ne 6, 3) := by decide +kernel
theorem dX12_nextOf_45 : decode cX12_nextOf 45 = .ok (.goto 32, 3) := by decide +kernel
theorem dX12_nextOf_48 : decode cX12_nextOf 48 = .ok (.aload_n 0, 1) := by decide +kernel
theorem dX12_nextOf_49 : decode cX12_nextOf 49 = .ok (.iload_n 1, 1) := by decide +kernel
theorem dX12_nextOf_50 : decode cX12_nextOf 50 = .ok (.iload 4, 2) := by decide +kernel
theorem dX12_nextOf_52 : decode cX12_nextOf 52 = .ok (.invokevirtual 322, 3) := by decide +kernel
theorem dX12_nextOf_55 : decode cX12_nextOf 55 = .ok (.istore 5, 2) := by decide +kernel
theorem dX12_nextOf_57 : decode cX12_nextOf 57 = .ok (.iload_n 2, 1) := by decide +kernel
theorem dX12_nextOf_58 : decode cX12_nextOf 58 = .ok (.iconst (-1), 1) := by decide +kernel
theorem dX12_nextOf_59 : decode cX12_nextOf 59 = .ok (.if_icmp .eq 12, 3) := by decide +kernel
theorem dX12_nextOf_62 : decode cX12_nextOf 62 = .ok (.iload 5, 2) := by decide +kernel
theorem dX12_nextOf_64 : decode cX12_nextOf 64 = .ok (.iload_n 3, 1) := by decide +kernel
theorem dX12_nextOf_65 : decode cX12_nextOf 65 = .ok (.if_icmp .gt 6, 3) := by decide +kernel
theorem dX12_nextOf_68 : decode cX12_nextOf 68 = .ok (.goto 9, 3) := by decide +kernel
theorem dX12_nextOf_71 : decode cX12_nextOf 71 = .ok (.iload 5, 2) := by decide +kernel
theorem dX12_nextOf_73 : decode cX12_nextOf 73 = .ok (.istore_n 3, 1) := by decide +kernel
theorem dX12_nextOf_74 : decode cX12_nextOf 74 = .ok (.iload 4, 2) := by decide +kernel
theorem dX12_nextOf_76 : decode cX12_nextOf 76 = .ok (.istore_n 2, 1) := by decide +kernel
theorem dX12_nextOf_77 : decode cX12_nextOf 77 = .ok (.iinc 4 1, 3) := by decide +kernel
theorem dX12_nextOf_80 : decode cX12_nextOf 80 = .ok (.goto (-73), 3) := by decide +kernel
theorem dX12_nextOf_83 : decode cX12_nextOf 83 = .ok (.iload_n 2, 1) := by decide +kernel
theorem dX12_nextOf_84 : decode cX12_nextOf 84 = .ok (.ireturn, 1) := by decide +kernel
theorem dX12_write_0 : decode cX12_write 0 = .ok (.aload_n 0, 1) := by decide +kernel
theorem dX12_write_1 : decode cX12_write 1 = .ok (.getfield 49, 3) := by decide +kernel
theorem dX12_write_4 : decode cX12_write 4 = .ok (.ifCond .ne 4, 3) := by decide +kernel
theorem dX12_write_7 : decode cX12_write 7 = .ok (.return_, 1) := by decide +kernel
theorem dX12_write_8 : decode cX12_write 8 = .ok (.aload_n 0, 1) := by decide +kernel
theorem dX12_write_9 : decode cX12_write 9 = .ok (.getfield 7, 3) := by decide +kernel
theorem dX12_write_12 : decode cX12_write 12 = .ok (.bipush 8, 2) := by decide +kernel
theorem dX12_write_14 : decode cX12_write 14 = .ok (.iaload, 1) := by decide +kernel
theorem dX12_write_15 : decode cX12_write 15 = .ok (.bipush 30, 2) := by decide +kernel
theorem dX12_write_17 : decode cX12_write 17 = .ok (.if_icmp .ne 50, 3) := by decide +kernel
theorem dX12_write_20 : decode cX12_write 20 = .ok (.iconst 1, 1) := by decide +kernel
theorem dX12_write_21 : decode cX12_write 21 = .ok (.istore_n 3, 1) := by decide +kernel
theorem dX12_write_22 : decode cX12_write 22 = .ok (.iload_n 3, 1) := by decide +kernel
theorem dX12_write_23 : decode cX12_write 23 = .ok (.bipush 30, 2) := by decide +kernel
theorem dX12_write_25 : decode cX12_write 25 = .ok (.if_icmp .ge 31, 3) := by decide +kernel
theorem dX12_write_28 : decode cX12_write 28 = .ok (.aload_n 0, 1) := by decide +kernel
theorem dX12_write_29 : decode cX12_write 29 = .ok (.getfield 7, 3) := by decide +kernel
theorem dX12_write_32 : decode cX12_write 32 = .ok (.sipush 2054, 3) := by decide +kernel
theorem dX12_write_35 : decode cX12_write 35 = .ok (.iload_n 3, 1) := by decide +kernel
theorem dX12_write_36 : decode cX12_write 36 = .ok (.iadd, 1) := by decide +kernel
theorem dX12_write_37 : decode cX12_write 37 = .ok (.iconst 1, 1) := by decide +kernel
theorem dX12_write_38 : decode cX12_write 38 = .ok (.isub, 1) := by decide +kernel
theorem dX12_write_39 : decode cX12_write 39 = .ok (.aload_n 0, 1) := by decide +kernel
theorem dX12_write_40 : decode cX12_write 40 = .ok (.getfield 7, 3) := by decide +kernel
theorem dX12_write_43 : decode cX12_write 43 = .ok (.sipush 2054, 3) := by decide +kernel
theorem dX12_write_46 : decode cX12_write 46 = .ok (.iload_n 3, 1) := by decide +kernel
theorem dX12_write_47 : decode cX12_write 47 = .ok (.iadd, 1) := by decide +kernel
theorem dX12_write_48 : decode cX12_write 48 = .ok (.iaload, 1) := by decide +kernel
theorem dX12_write_49 : decode cX12_write 49 = .ok (.iastore, 1) := by decide +kernel
theorem dX12_write_50 : decode cX12_write 50 = .ok (.iinc 3 1, 3) := by decide +kernel
theorem dX12_write_53 : decode cX12_write 53 = .ok (.goto (-31), 3) := by decide +kernel
theorem dX12_write_56 : decode cX12_write 56 = .ok (.aload_n 0, 1) := by decide +kernel
theorem dX12_write_57 : decode cX12_write 57 = .ok (.getfield 7, 3) := by decide +kernel
theorem dX12_write_60 : decode cX12_write 60 = .ok (.bipush 8, 2) := by decide +kernel
theorem dX12_write_62 : decode cX12_write 62 = .ok (.dup2, 1) := by decide +kernel
theorem dX12_write_63 : decode cX12_write 63 = .ok (.iaload, 1) := by decide +kernel
theorem dX12_write_64 : decode cX12_write 64 = .ok (.iconst 1, 1) := by decide +kernel
theorem dX12_write_65 : decode cX12_write 65 = .ok (.isub, 1) := by decide +kernel
theorem dX12_write_66 : decode cX12_write 66 = .ok (.iastore, 1) := by decide +kernel
theorem dX12_write_67 : decode cX12_write 67 = .ok (.aload_n 0, 1) := by decide +kernel
theorem dX12_write_68 : decode cX12_write 68 = .ok (.getfield 7, 3) := by decide +kernel
theorem dX12_write_71 : decode cX12_write 71 = .ok (.sipush 2054, 3) := by decide +kernel
theorem dX12_write_74 : decode cX12_write 74 = .ok (.aload_n 0, 1) := by decide +kernel
theorem dX12_write_75 : decode cX12_write 75 = .ok (.getfield 7, 3) := by decide +kernel
theorem dX12_write_78 : decode cX12_write 78 = .ok (.bipush 8, 2) := by decide +kernel
theorem dX12_write_80 : decode cX12_write 80 = .ok (.iaload, 1) := by decide +kernel
theorem dX12_write_81 : decode cX12_write 81 = .ok (.iadd, 1) := by decide +kernel
theorem dX12_write_82 : decode cX12_write 82 = .ok (.aload_n 0, 1) := by decide +kernel
theorem dX12_write_83 : decode cX12_write 83 = .ok (.getfield 7, 3) := by decide +kernel
theorem dX12_write_86 : decode cX12_write 86 = .ok (.iconst 5, 1) := by decide +kernel
theorem dX12_write_87 : decode cX12_write 87 = .ok (.iaload, 1) := by decide +kernel
theorem dX12_write_88 : decode cX12_write 88 = .ok (.bipush 8, 2) := by decide +kernel
theorem dX12_write_90 : decode cX12_write 90 = .ok (.imul, 1) := by decide +kernel
theorem dX12_write_91 : decode cX12_write 91 = .ok (.iload_n 1, 1) := by decide +kernel
theorem dX12_write_92 : decode cX12_write 92 = .ok (.iadd, 1) := by decide +kernel
theorem dX12_write_93 : decode cX12_write 93 = .ok (.bipush 16, 2) := by decide +kernel
theorem dX12_write_95 : decode cX12_write 95 = .ok (.imul, 1) := by decide +kernel
theorem dX12_write_96 : decode cX12_write 96 = .ok (.aload_n 0, 1) := by decide +kernel
theorem dX12_write_97 : decode cX12_write 97 = .ok (.iload_n 1, 1) := by decide +kernel
theorem dX12_write_98 : decode cX12_write 98 = .ok (.iconst 0, 1) := by decide +kernel
theorem dX12_write_99 : decode cX12_write 99 = .ok (.invokevirtual 92, 3) := by decide +kernel
theorem dX12_write_102 : decode cX12_write 102 = .ok (.iadd, 1) := by decide +kernel
theorem dX12_write_103 : decode cX12_write 103 = .ok (.iconst 2, 1) := by decide +kernel
theorem dX12_write_104 : decode cX12_write 104 = .ok (.imul, 1) := by decide +kernel
theorem dX12_write_105 : decode cX12_write 105 = .ok (.iload_n 2, 1) := by decide +kernel
theorem dX12_write_106 : decode cX12_write 106 = .ok (.ifCond .eq 7, 3) := by decide +kernel
theorem dX12_write_109 : decode cX12_write 109 = .ok (.iconst 1, 1) := by decide +kernel
theorem dX12_write_110 : decode cX12_write 110 = .ok (.goto 4, 3) := by decide +kernel
theorem dX12_write_113 : decode cX12_write 113 = .ok (.iconst 0, 1) := by decide +kernel
theorem dX12_write_114 : decode cX12_write 114 = .ok (.iadd, 1) := by decide +kernel
theorem dX12_write_115 : decode cX12_write 115 = .ok (.iastore, 1) := by decide +kernel
theorem dX12_write_116 : decode cX12_write 116 = .ok (.aload_n 0, 1) := by decide +kernel
theorem dX12_write_117 : decode cX12_write 117 = .ok (.getfield 7, 3) := by decide +kernel
theorem dX12_write_120 : decode cX12_write 120 = .ok (.bipush 8, 2) := by decide +kernel
theorem dX12_write_122 : decode cX12_write 122 = .ok (.dup2, 1) := by decide +kernel
theorem dX12_write_123 : decode cX12_write 123 = .ok (.iaload, 1) := by decide +kernel
theorem dX12_write_124 : decode cX12_write 124 = .ok (.iconst 1, 1) := by decide +kernel
theorem dX12_write_125 : decode cX12_write 125 = .ok (.iadd, 1) := by decide +kernel
theorem dX12_write_126 : decode cX12_write 126 = .ok (.iastore, 1) := by decide +kernel
theorem dX12_write_127 : decode cX12_write 127 = .ok (.return_, 1) := by decide +kernel
theorem dX12_anew_0 : decode cX12_anew 0 = .ok (.aload_n 0, 1) := by decide +kernel
theorem dX12_anew_1 : decode cX12_anew 1 = .ok (.getfield 7, 3) := by decide +kernel
theorem dX12_anew_4 : decode cX12_anew 4 = .ok (.bipush 6, 2) := by decide +kernel
theorem dX12_anew_6 : decode cX12_anew 6 = .ok (.aload_n 0, 1) := by decide +kernel
theorem dX12_anew_7 : decode cX12_anew 7 = .ok (.getfield 7, 3) := by decide +kernel
theorem dX12_anew_10 : decode cX12_anew 10 = .ok (.bipush 6, 2) := by decide +kernel
theorem dX12_anew_12 : decode cX12_anew 12 = .ok (.iaload, 1) := by decide +kernel
theorem dX12_anew_13 : decode cX12_anew 13 = .ok (.i2l, 1) := by decide +kernel
theorem dX12_anew_14 : decode cX12_anew 14 = .ok (.ldc2_w 325, 3) := by decide +kernel
theorem dX12_anew_17 : decode cX12_anew 17 = .ok (.lmul, 1) := by decide +kernel
theorem dX12_anew_18 : decode cX12_anew 18 = .ok (.ldc2_w 327, 3) := by decide +kernel
theorem dX12_anew_21 : decode cX12_anew 21 = .ok (.ladd, 1) := by decide +kernel
theorem dX12_anew_22 : decode cX12_anew 22 = .ok (.ldc2_w 329, 3) := by decide +kernel
theorem dX12_anew_25 : decode cX12_anew 25 = .ok (.lrem, 1) := by decide +kernel
theorem dX12_anew_26 : decode cX12_anew 26 = .ok (.l2i, 1) := by decide +kernel
theorem dX12_anew_27 : decode cX12_anew 27 = .ok (.iastore, 1) := by decide +kernel
theorem dX12_anew_28 : decode cX12_anew 28 = .ok (.return_, 1) := by decide +kernel
theorem dX12_weep_0 : decode cX12_weep 0 = .ok (.aload_n 0, 1) := by decide +kernel
theorem dX12_weep_1 : decode cX12_weep 1 = .ok (.iload_n 1, 1) := by decide +kernel
theorem dX12_weep_2 : decode cX12_weep 2 = .ok (.iconst 2, 1) := by decide +kernel
theorem dX12_weep_3 : decode cX12_weep 3 = .ok (.aload_n 0, 1) := by decide +kernel
theorem dX12_weep_4 : decode cX12_weep 4 = .ok (.iload_n 1, 1) := by decide +kernel
theorem dX12_weep_5 : decode cX12_weep 5 = .ok (.iconst 2, 1) := by decide +kernel
theorem dX12_weep_6 : decode cX12_weep 6 = .ok (.invokevirtual 92, 3) := by decide +kernel
theorem dX12_weep_9 : decode cX12_weep 9 = .ok (.aload_n 0, 1) := by decide +kernel
theorem dX12_weep_10 : decode cX12_weep 10 = .ok (.getfield 7, 3) := by decide +kernel
theorem dX12_weep_13 : decode cX12_weep 13 = .ok (.bipush 49, 2) := by decide +kernel
theorem dX12_weep_15 : decode cX12_weep 15 = .ok (.iload_n 2, 1) := by decide +kernel
theorem dX12_weep_16 : decode cX12_weep 16 = .ok (.iadd, 1) := by decide +kernel
theorem dX12_weep_17 : decode cX12_weep 17 = .ok (.iaload, 1) := by decide +kernel
theorem dX12_weep_18 : decode cX12_weep 18 = .ok (.iadd, 1) := by decide +kernel
theorem dX12_weep_19 : decode cX12_weep 19 = .ok (.i2l, 1) := by decide +kernel
theorem dX12_weep_20 : decode cX12_weep 20 = .ok (.iconst 0, 1) := by decide +kernel
theorem dX12_weep_21 : decode cX12_weep 21 = .ok (.sipush 999, 3) := by decide +kernel
theorem dX12_weep_24 : decode cX12_weep 24 = .ok (.invokestatic 309, 3) := by decide +kernel
theorem dX12_weep_27 : decode cX12_weep 27 = .ok (.invokevirtual 103, 3) := by decide +kernel
theorem dX12_weep_30 : decode cX12_weep 30 = .ok (.return_, 1) := by decide +kernel
theorem dX12_askNow_0 : decode cX12_askNow 0 = .ok (.aload_n 0, 1) := by decide +kernel
theorem dX12_askNow_1 : decode cX12_askNow 1 = .ok (.iload_n 1, 1) := by decide +kernel
theorem dX12_askNow_2 : decode cX12_askNow 2 = .ok (.invokevirtual 331, 3) := by decide +kernel
theorem dX12_askNow_5 : decode cX12_askNow 5 = .ok (.istore_n 2, 1) := by decide +kernel
theorem dX12_askNow_6 : decode cX12_askNow 6 = .ok (.iload_n 2, 1) := by decide +kernel
theorem dX12_askNow_7 : decode cX12_askNow 7 = .ok (.iconst (-1), 1) := by decide +kernel
theorem dX12_askNow_8 : decode cX12_askNow 8 = .ok (.if_icmp .eq 39, 3) := by decide +kernel
theorem dX12_askNow_11 : decode cX12_askNow 11 = .ok (.aload_n 0, 1) := by decide +kernel
theorem dX12_askNow_12 : decode cX12_askNow 12 = .ok (.iload_n 1, 1) := by decide +kernel
theorem dX12_askNow_13 : decode cX12_askNow 13 = .ok (.iconst 0, 1) := by decide +kernel
theorem dX12_askNow_14 : decode cX12_askNow 14 = .ok (.iload_n 2, 1) := by decide +kernel
theorem dX12_askNow_15 : decode cX12_askNow 15 = .ok (.invokevirtual 103, 3) := by decide +kernel
theorem dX12_askNow_18 : decode cX12_askNow 18 = .ok (.aload_n 0, 1) := by decide +kernel
theorem dX12_askNow_19 : decode cX12_askNow 19 = .ok (.iload_n 1, 1) := by decide +kernel
theorem dX12_askNow_20 : decode cX12_askNow 20 = .ok (.iload_n 2, 1) := by decide +kernel
theorem dX12_askNow_21 : decode cX12_askNow 21 = .ok (.invokevirtual 334, 3) := by decide +kernel
theorem dX12_askNow_24 : decode cX12_askNow 24 = .ok (.aload_n 0, 1) := by decide +kernel
theorem dX12_askNow_25 : decode cX12_askNow 25 = .ok (.iload_n 1, 1) := by decide +kernel
theorem dX12_askNow_26 : decode cX12_askNow 26 = .ok (.iconst 3, 1) := by decide +kernel
theorem dX12_askNow_27 : decode cX12_askNow 27 = .ok (.aload_n 0, 1) := by decide +kernel
theorem dX12_askNow_28 : decode cX12_askNow 28 = .ok (.iload_n 1, 1) := by decide +kernel
theorem dX12_askNow_29 : decode cX12_askNow 29 = .ok (.iconst 3, 1) := by decide +kernel
theorem dX12_askNow_30 : decode cX12_askNow 30 = .ok (.invokevirtual 92, 3) := by decide +kernel
theorem dX12_askNow_33 : decode cX12_askNow 33 = .ok (.iconst 1, 1) := by decide +kernel
theorem dX12_askNow_34 : decode cX12_askNow 34 = .ok (.iadd, 1) := by decide +kernel
theorem dX12_askNow_35 : decode cX12_askNow 35 = .ok (.i2l, 1) := by decide +kernel
theorem dX12_askNow_36 : decode cX12_askNow 36 = .ok (.iconst 0, 1) := by decide +kernel
theorem dX12_askNow_37 : decode cX12_askNow 37 = .ok (.sipush 999, 3) := by decide +kernel
theorem dX12_askNow_40 : decode cX12_askNow 40 = .ok (.invokestatic 309, 3) := by decide +kernel
theorem dX12_askNow_43 : decode cX12_askNow 43 = .ok (.invokevirtual 103, 3) := by decide +kernel
theorem dX12_askNow_46 : decode cX12_askNow 46 = .ok (.return_, 1) := by decide +kernel
theorem dX12_askNow_47 : decode cX12_askNow 47 = .ok (.aload_n 0, 1) := by decide +kernel
theorem dX12_askNow_48 : decode cX12_askNow 48 = .ok (.aload_n 0, 1) := by decide +kernel
theorem dX12_askNow_49 : decode cX12_askNow 49 = .ok (.getfield 7, 3) := by decide +kernel
theorem dX12_askNow_52 : decode cX12_askNow 52 = .ok (.iconst 2, 1) := by decide +kernel
theorem dX12_askNow_53 : decode cX12_askNow 53 = .ok (.iaload, 1) := by decide +kernel
theorem dX12_askNow_54 : decode cX12_askNow 54 = .ok (.iload_n 1, 1) := by decide +kernel
theorem dX12_askNow_55 : decode cX12_askNow 55 = .ok (.invokevirtual 337, 3) := by decide +kernel
theorem dX12_askNow_58 : decode cX12_askNow 58 = .ok (.ifCond .le 7, 3) := by decide +kernel
theorem dX12_askNow_61 : decode cX12_askNow 61 = .ok (.iconst 1, 1) := by decide +kernel
theorem dX12_askNow_62 : decode cX12_askNow 62 = .ok (.goto 4, 3) := by decide +kernel
theorem dX12_askNow_65 : decode cX12_askNow 65 = .ok (.iconst 0, 1) := by decide +kernel
theorem dX12_askNow_66 : decode cX12_askNow 66 = .ok (.istore_n 3, 1) := by decide +kernel
theorem dX12_askNow_67 : decode cX12_askNow 67 = .ok (.aload_n 0, 1) := by decide +kernel
theorem dX12_askNow_68 : decode cX12_askNow 68 = .ok (.iload_n 1, 1) := by decide +kernel
theorem dX12_askNow_69 : decode cX12_askNow 69 = .ok (.iconst 1, 1) := by decide +kernel
theorem dX12_askNow_70 : decode cX12_askNow 70 = .ok (.iload_n 3, 1) := by decide +kernel
theorem dX12_askNow_71 : decode cX12_askNow 71 = .ok (.ifCond .eq 7, 3) := by decide +kernel
theorem dX12_askNow_74 : decode cX12_askNow 74 = .ok (.iconst 1, 1) := by decide +kernel
theorem dX12_askNow_75 : decode cX12_askNow 75 = .ok (.goto 4, 3) := by decide +kernel
theorem dX12_askNow_78 : decode cX12_askNow 78 = .ok (.iconst 2, 1) := by decide +kernel
theorem dX12_askNow_79 : decode cX12_askNow 79 = .ok (.invokevirtual 103, 3) := by decide +kernel
theorem dX12_askNow_82 : decode cX12_askNow 82 = .ok (.iload_n 3, 1) := by decide +kernel
theorem dX12_askNow_83 : decode cX12_askNow 83 = .ok (.ifCond .eq 59, 3) := by decide +kernel
theorem dX12_askNow_86 : decode cX12_askNow 86 = .ok (.aload_n 0, 1) := by decide +kernel
theorem dX12_askNow_87 : decode cX12_askNow 87 = .ok (.getfield 7, 3) := by decide +kernel
theorem dX12_askNow_90 : decode cX12_askNow 90 = .ok (.bipush 7, 2) := by decide +kernel
theorem dX12_askNow_92 : decode cX12_askNow 92 = .ok (.aload_n 0, 1) := by decide +kernel
theorem dX12_askNow_93 : decode cX12_askNow 93 = .ok (.getfield 7, 3) := by decide +kernel
theorem dX12_askNow_96 : decode cX12_askNow 96 = .ok (.bipush 7, 2) := by decide +kernel
theorem dX12_askNow_98 : decode cX12_askNow 98 = .ok (.iaload, 1) := by decide +kernel
theorem dX12_askNow_99 : decode cX12_askNow 99 = .ok (.iconst 1, 1) := by decide +kernel
theorem dX12_askNow_100 : decode cX12_askNow 100 = .ok (.iadd, 1) := by decide +kernel
theorem dX12_askNow_101 : decode cX12_askNow 101 = .ok (.i2l, 1) := by decide +kernel
theorem dX12_askNow_102 : decode cX12_askNow 102 = .ok (.iconst 0, 1) := by decide +kernel
theorem dX12_askNow_103 : decode cX12_askNow 103 = .ok (.sipush 9999, 3) := by decide +kernel
theorem dX12_askNow_106 : decode cX12_askNow 106 = .ok (.invokestatic 309, 3) := by decide +kernel
theorem dX12_askNow_109 : decode cX12_askNow 109 = .ok (.iastore, 1) := by decide +kernel
theorem dX12_askNow_110 : decode cX12_askNow 110 = .ok (.aload_n 0, 1) := by decide +kernel
theorem dX12_askNow_111 : decode cX12_askNow 111 = .ok (.iload_n 1, 1) := by decide +kernel
theorem dX12_askNow_112 : decode cX12_askNow 112 = .ok (.iconst 4, 1) := by decide +kernel
theorem dX12_askNow_113 : decode cX12_askNow 113 = .ok (.aload_n 0, 1) := by decide +kernel
theorem dX12_askNow_114 : decode cX12_askNow 114 = .ok (.iload_n 1, 1) := by decide +kernel
theorem dX12_askNow_115 : decode cX12_askNow 115 = .ok (.iconst 4, 1) := by decide +kernel
theorem dX12_askNow_116 : decode cX12_askNow 116 = .ok (.invokevirtual 92, 3) := by decide +kernel
theorem dX12_askNow_119 : decode cX12_askNow 119 = .ok (.bipush 10, 2) := by decide +kernel
theorem dX12_askNow_121 : decode cX12_askNow 121 = .ok (.iadd, 1) := by decide +kernel
theorem dX12_askNow_122 : decode cX12_askNow 122 = .ok (.i2l, 1) := by decide +kernel
theorem dX12_askNow_123 : decode cX12_askNow 123 = .ok (.iconst 0, 1) := by decide +kernel
theorem dX12_askNow_124 : decode cX12_askNow 124 = .ok (.bipush 99, 2) := by decide +kernel
theorem dX12_askNow_126 : decode cX12_askNow 126 = .ok (.invokestatic 309, 3) := by decide +kernel
theorem dX12_askNow_129 : decode cX12_askNow 129 = .ok (.invokevirtual 103, 3) := by decide +kernel
theorem dX12_askNow_132 : decode cX12_askNow 132 = .ok (.aload_n 0, 1) := by decide +kernel
theorem dX12_askNow_133 : decode cX12_askNow 133 = .ok (.dup, 1) := by decide +kernel
theorem dX12_askNow_134 : decode cX12_askNow 134 = .ok (.getfield 340, 3) := by decide +kernel
theorem dX12_askNow_137 : decode cX12_askNow 137 = .ok (.iconst 1, 1) := by decide +kernel
theorem dX12_askNow_138 : decode cX12_askNow 138 = .ok (.iadd, 1) := by decide +kernel
theorem dX12_askNow_139 : decode cX12_askNow 139 = .ok (.putfield 340, 3) := by decide +kernel
theorem dX12_askNow_142 : decode cX12_askNow 142 = .ok (.aload_n 0, 1) := by decide +kernel
theorem dX12_askNow_143 : decode cX12_askNow 143 = .ok (.iload_n 1, 1) := by decide +kernel
theorem dX12_askNow_144 : decode cX12_askNow 144 = .ok (.iload_n 3, 1) := by decide +kernel
theorem dX12_askNow_145 : decode cX12_askNow 145 = .ok (.invokevirtual 343, 3) := by decide +kernel
theorem dX12_askNow_148 : decode cX12_askNow 148 = .ok (.return_, 1) := by decide +kernel
theorem dX12_pass_0 : decode cX12_pass 0 = .ok (.iconst 0, 1) := by decide +kernel
theorem dX12_pass_1 : decode cX12_pass 1 = .ok (.istore_n 1, 1) := by decide +kernel
theorem dX12_pass_2 : decode cX12_pass 2 = .ok (.iload_n 1, 1) := by decide +kernel
theorem dX12_pass_3 : decode cX12_pass 3 = .ok (.aload_n 0, 1) := by decide +kernel
theorem dX12_pass_4 : decode cX12_pass 4 = .ok (.getfield 7, 3) := by decide +kernel
theorem dX12_pass_7 : decode cX12_pass 7 = .ok (.iconst 0, 1) := by decide +kernel
theorem dX12_pass_8 : decode cX12_pass 8 = .ok (.iaload, 1) := by decide +kernel
theorem dX12_pass_9 : decode cX12_pass 9 = .ok (.if_icmp .ge 54, 3) := by decide +kernel
theorem dX12_pass_12 : decode cX12_pass 12 = .ok (.aload_n 0, 1) := by decide +kernel
theorem dX12_pass_13 : decode cX12_pass 13 = .ok (.iload_n 1, 1) := by decide +kernel
theorem dX12_pass_14 : decode cX12_pass 14 = .ok (.invokevirtual 347, 3) := by decide +kernel
theorem dX12_pass_17 : decode cX12_pass 17 = .ok (.ifCond .ne 6, 3) := by decide +kernel
theorem dX12_pass_20 : decode cX12_pass 20 = .ok (.goto 37, 3) := by decide +kernel
theorem dX12_pass_23 : decode cX12_pass 23 = .ok (.aload_n 0, 1) := by decide +kernel
theorem dX12_pass_24 : decode cX12_pass 24 = .ok (.getfield 7, 3) := by decide +kernel
theorem dX12_pass_27 : decode cX12_pass 27 = .ok (.bipush 6, 2) := by decide +kernel
theorem dX12_pass_29 : decode cX12_pass 29 = .ok (.iaload, 1) := by decide +kernel
theorem dX12_pass_30 : decode cX12_pass 30 = .ok (.bipush 10, 2) := by decide +kernel
theorem dX12_pass_32 : decode cX12_pass 32 = .ok (.irem, 1) := by decide +kernel
theorem dX12_pass_33 : decode cX12_pass 33 = .ok (.bipush 6, 2) := by decide +kernel
theorem dX12_pass_35 : decode cX12_pass 35 = .ok (.if_icmp .ge 7, 3) := by decide +kernel
theorem dX12_pass_38 : decode cX12_pass 38 = .ok (.iconst 1, 1) := by decide +kernel
theorem dX12_pass_39 : decode cX12_pass 39 = .ok (.goto 4, 3) := by decide +kernel
theorem dX12_pass_42 : decode cX12_pass 42 = .ok (.iconst 0, 1) := by decide +kernel
theorem dX12_pass_43 : decode cX12_pass 43 = .ok (.istore_n 2, 1) := by decide +kernel
theorem dX12_pass_44 : decode cX12_pass 44 = .ok (.aload_n 0, 1) := by decide +kernel
theorem dX12_pass_45 : decode cX12_pass 45 = .ok (.invokevirtual 350, 3) := by decide +kernel
theorem dX12_pass_48 : decode cX12_pass 48 = .ok (.iload_n 2, 1) := by decide +kernel
theorem dX12_pass_49 : decode cX12_pass 49 = .ok (.ifCond .eq 8, 3) := by decide +kernel
theorem dX12_pass_52 : decode cX12_pass 52 = .ok (.aload_n 0, 1) := by decide +kernel
theorem dX12_pass_53 : decode cX12_pass 53 = .ok (.iload_n 1, 1) := by decide +kernel
theorem dX12_pass_54 : decode cX12_pass 54 = .ok (.invokevirtual 353, 3) := by decide +kernel
theorem dX12_pass_57 : decode cX12_pass 57 = .ok (.iinc 1 1, 3) := by decide +kernel
theorem dX12_pass_60 : decode cX12_pass 60 = .ok (.goto (-58), 3) := by decide +kernel
theorem dX12_pass_63 : decode cX12_pass 63 = .ok (.aload_n 0, 1) := by decide +kernel
theorem dX12_pass_64 : decode cX12_pass 64 = .ok (.getfield 7, 3) := by decide +kernel
theorem dX12_pass_67 : decode cX12_pass 67 = .ok (.iconst 5, 1) := by decide +kernel
theorem dX12_pass_68 : decode cX12_pass 68 = .ok (.dup2, 1) := by decide +kernel
theorem dX12_pass_69 : decode cX12_pass 69 = .ok (.iaload, 1) := by decide +kernel
theorem dX12_pass_70 : decode cX12_pass 70 = .ok (.iconst 1, 1) := by decide +kernel
theorem dX12_pass_71 : decode cX12_pass 71 = .ok (.iadd, 1) := by decide +kernel
theorem dX12_pass_72 : decode cX12_pass 72 = .ok (.iastore, 1) := by decide +kernel
theorem dX12_pass_73 : decode cX12_pass 73 = .ok (.return_, 1) := by decide +kernel
theorem dX12_keep_0 : decode cX12_keep 0 = .ok (.aload_n 0, 1) := by decide +kernel
theorem dX12_keep_1 : decode cX12_keep 1 = .ok (.getfield 7, 3) := by decide +kernel
theorem dX12_keep_4 : decode cX12_keep 4 = .ok (.iconst 3, 1) := by decide +kernel
theorem dX12_keep_5 : decode cX12_keep 5 = .ok (.iaload, 1) := by decide +kernel
theorem dX12_keep_6 : decode cX12_keep 6 = .ok (.bipush 30, 2) := by decide +kernel
theorem dX12_keep_8 : decode cX12_keep 8 = .ok (.if_icmp .ne 47, 3) := by decide +kernel
theorem dX12_keep_11 : decode cX12_keep 11 = .ok (.iconst 0, 1) := by decide +kernel
theorem dX12_keep_12 : decode cX12_keep 12 = .ok (.istore_n 1, 1) := by decide +kernel
theorem dX12_keep_13 : decode cX12_keep 13 = .ok (.iload_n 1, 1) := by decide +kernel
theorem dX12_keep_14 : decode cX12_keep 14 = .ok (.sipush 1885, 3) := by decide +kernel
theorem dX12_keep_17 : decode cX12_keep 17 = .ok (.if_icmp .ge 28, 3) := by decide +kernel
theorem dX12_keep_20 : decode cX12_keep 20 = .ok (.aload_n 0, 1) := by decide +kernel
theorem dX12_keep_21 : decode cX12_keep 21 = .ok (.getfield 7, 3) := by decide +kernel
theorem dX12_keep_24 : decode cX12_keep 24 = .ok (.bipush 104, 2) := by decide +kernel
theorem dX12_keep_26 : decode cX12_keep 26 = .ok (.iload_n 1, 1) := by decide +kernel
theorem dX12_keep_27 : decode cX12_keep 27 = .ok (.iadd, 1) := by decide +kernel
theorem dX12_keep_28 : decode cX12_keep 28 = .ok (.aload_n 0, 1) := by decide +kernel
theorem dX12_keep_29 : decode cX12_keep 29 = .ok (.getfield 7, 3) := by decide +kernel
theorem dX12_keep_32 : decode cX12_keep 32 = .ok (.sipush 169, 3) := by decide +kernel
theorem dX12_keep_35 : decode cX12_keep 35 = .ok (.iload_n 1, 1) := by decide +kernel
theorem dX12_keep_36 : decode cX12_keep 36 = .ok (.iadd, 1) := by decide +kernel
theorem dX12_keep_37 : decode cX12_keep 37 = .ok (.iaload, 1) := by decide +kernel
theorem dX12_keep_38 : decode cX12_keep 38 = .ok (.iastore, 1) := by decide +kernel
theorem dX12_keep_39 : decode cX12_keep 39 = .ok (.iinc 1 1, 3) := by decide +kernel
theorem dX12_keep_42 : decode cX12_keep 42 = .ok (.goto (-29), 3) := by decide +kernel
theorem dX12_keep_45 : decode cX12_keep 45 = .ok (.aload_n 0, 1) := by decide +kernel
theorem dX12_keep_46 : decode cX12_keep 46 = .ok (.getfield 7, 3) := by decide +kernel
theorem dX12_keep_49 : decode cX12_keep 49 = .ok (.iconst 3, 1) := by decide +kernel
theorem dX12_keep_50 : decode cX12_keep 50 = .ok (.dup2, 1) := by decide +kernel
theorem dX12_keep_51 : decode cX12_keep 51 = .ok (.iaload, 1) := by decide +kernel
theorem dX12_keep_52 : decode cX12_keep 52 = .ok (.iconst 1, 1) := by decide +kernel
theorem dX12_keep_53 : decode cX12_keep 53 = .ok (.isub, 1) := by decide +kernel
theorem dX12_keep_54 : decode cX12_keep 54 = .ok (.iastore, 1) := by decide +kernel
theorem dX12_keep_55 : decode cX12_keep 55 = .ok (.bipush 104, 2) := by decide +kernel
theorem dX12_keep_57 : decode cX12_keep 57 = .ok (.bipush 65, 2) := by decide +kernel
theorem dX12_keep_59 : decode cX12_keep 59 = .ok (.aload_n 0, 1) := by decide +kernel
theorem dX12_keep_60 : decode cX12_keep 60 = .ok (.getfield 7, 3) := by decide +kernel
theorem dX12_keep_63 : decode cX12_keep 63 = .ok (.iconst 3, 1) := by decide +kernel
theorem dX12_keep_64 : decode cX12_keep 64 = .ok (.iaload, 1) := by decide +kernel
theorem dX12_keep_65 : decode cX12_keep 65 = .ok (.imul, 1) := by decide +kernel
theorem dX12_keep_66 : decode cX12_keep 66 = .ok (.iadd, 1) := by decide +kernel
theorem dX12_keep_67 : decode cX12_keep 67 = .ok (.istore_n 1, 1) := by decide +kernel
theorem dX12_keep_68 : decode cX12_keep 68 = .ok (.aload_n 0, 1) := by decide +kernel
theorem dX12_keep_69 : decode cX12_keep 69 = .ok (.getfield 7, 3) := by decide +kernel
theorem dX12_keep_72 : decode cX12_keep 72 = .ok (.iload_n 1, 1) := by decide +kernel
theorem dX12_keep_73 : decode cX12_keep 73 = .ok (.aload_n 0, 1) := by decide +kernel
theorem dX12_keep_74 : decode cX12_keep 74 = .ok (.getfield 7, 3) := by decide +kernel
theorem dX12_keep_77 : decode cX12_keep 77 = .ok (.iconst 0, 1) := by decide +kernel
theorem dX12_keep_78 : decode cX12_keep 78 = .ok (.iaload, 1) := by decide +kernel
theorem dX12_keep_79 : decode cX12_keep 79 = .ok (.iastore, 1) := by decide +kernel
theorem dX12_keep_80 : decode cX12_keep 80 = .ok (.iconst 0, 1) := by decide +kernel
theorem dX12_keep_81 : decode cX12_keep 81 = .ok (.istore_n 2, 1) := by decide +kernel
theorem dX12_keep_82 : decode cX12_keep 82 = .ok (.iload_n 2, 1) := by decide +kernel
theorem dX12_keep_83 : decode cX12_keep 83 = .ok (.iconst 4, 1) := by decide +kernel
theorem dX12_keep_84 : decode cX12_keep 84 = .ok (.if_icmp .ge 27, 3) := by decide +kernel
theorem dX12_keep_87 : decode cX12_keep 87 = .ok (.aload_n 0, 1) := by decide +kernel
theorem dX12_keep_88 : decode cX12_keep 88 = .ok (.getfield 7, 3) := by decide +kernel
theorem dX12_keep_91 : decode cX12_keep 91 = .ok (.iload_n 1, 1) := by decide +kernel
theorem dX12_keep_92 : decode cX12_keep 92 = .ok (.iconst 1, 1) := by decide +kernel
theorem dX12_keep_93 : decode cX12_keep 93 = .ok (.iadd, 1) := by decide +kernel
theorem dX12_keep_94 : decode cX12_keep 94 = .ok (.iload_n 2, 1) := by decide +kernel
theorem dX12_keep_95 : decode cX12_keep 95 = .ok (.iadd, 1) := by decide +kernel
theorem dX12_keep_96 : decode cX12_keep 96 = .ok (.aload_n 0, 1) := by decide +kernel
theorem dX12_keep_97 : decode cX12_keep 97 = .ok (.getfield 7, 3) := by decide +kernel
theorem dX12_keep_100 : decode cX12_keep 100 = .ok (.iconst 5, 1) := by decide +kernel
theorem dX12_keep_101 : decode cX12_keep 101 = .ok (.iload_n 2, 1) := by decide +kernel
theorem dX12_keep_102 : decode cX12_keep 102 = .ok (.iadd, 1) := by decide +kernel
theorem dX12_keep_103 : decode cX12_keep 103 = .ok (.iaload, 1) := by decide +kernel
theorem dX12_keep_104 : decode cX12_keep 104 = .ok (.iastore, 1) := by decide +kernel
theorem dX12_keep_105 : decode cX12_keep 105 = .ok (.iinc 2 1, 3) := by decide +kernel
theorem dX12_keep_108 : decode cX12_keep 108 = .ok (.goto (-26), 3) := by decide +kernel
theorem dX12_keep_111 : decode cX12_keep 111 = .ok (.iconst 0, 1) := by decide +kernel
theorem dX12_keep_112 : decode cX12_keep 112 = .ok (.istore_n 2, 1) := by decide +kernel
theorem dX12_keep_113 : decode cX12_keep 113 = .ok (.iload_n 2, 1) := by decide +kernel
theorem dX12_keep_114 : decode cX12_keep 114 = .ok (.iconst 5, 1) := by decide +kernel
theorem dX12_keep_115 : decode cX12_keep 115 = .ok (.if_icmp .ge 44, 3) := by decide +kernel
theorem dX12_keep_118 : decode cX12_keep 118 = .ok (.iconst 0, 1) := by decide +kernel
theorem dX12_keep_119 : decode cX12_keep 119 = .ok (.istore_n 3, 1) := by decide +kernel
theorem dX12_keep_120 : decode cX12_keep 120 = .ok (.iload_n 3, 1) := by decide +kernel
theorem dX12_keep_121 : decode cX12_keep 121 = .ok (.bipush 6, 2) := by decide +kernel
theorem dX12_keep_123 : decode cX12_keep 123 = .ok (.if_icmp .ge 30, 3) := by decide +kernel
theorem dX12_keep_126 : decode cX12_keep 126 = .ok (.aload_n 0, 1) := by decide +kernel
theorem dX12_keep_127 : decode cX12_keep 127 = .ok (.getfield 7, 3) := by decide +kernel
theorem dX12_keep_130 : decode cX12_keep 130 = .ok (.iload_n 1, 1) := by decide +kernel
theorem dX12_keep_131 : decode cX12_keep 131 = .ok (.iconst 5, 1) := by decide +kernel
theorem dX12_keep_132 : decode cX12_keep 132 = .ok (.iadd, 1) := by decide +kernel
theorem dX12_keep_133 : decode cX12_keep 133 = .ok (.bipush 6, 2) := by decide +kernel
theorem dX12_keep_135 : decode cX12_keep 135 = .ok (.iload_n 2, 1) := by decide +kernel
theorem dX12_keep_136 : decode cX12_keep 136 = .ok (.imul, 1) := by decide +kernel
theorem dX12_keep_137 : decode cX12_keep 137 = .ok (.iadd, 1) := by decide +kernel
theorem dX12_keep_138 : decode cX12_keep 138 = .ok (.iload_n 3, 1) := by decide +kernel
theorem dX12_keep_139 : decode cX12_keep 139 = .ok (.iadd, 1) := by decide +kernel
theorem dX12_keep_140 : decode cX12_keep 140 = .ok (.aload_n 0, 1) := by decide +kernel
theorem dX12_keep_141 : decode cX12_keep 141 = .ok (.iload_n 2, 1) := by decide +kernel
theorem dX12_keep_142 : decode cX12_keep 142 = .ok (.iload_n 3, 1) := by decide +kernel
theorem dX12_keep_143 : decode cX12_keep 143 = .ok (.invokevirtual 92, 3) := by decide +kernel
theorem dX12_keep_146 : decode cX12_keep 146 = .ok (.iastore, 1) := by decide +kernel
theorem dX12_keep_147 : decode cX12_keep 147 = .ok (.iinc 3 1, 3) := by decide +kernel
theorem dX12_keep_150 : decode cX12_keep 150 = .ok (.goto (-30), 3) := by decide +kernel
theorem dX12_keep_153 : decode cX12_keep 153 = .ok (.iinc 2 1, 3) := by decide +kernel
theorem dX12_keep_156 : decode cX12_keep 156 = .ok (.goto (-43), 3) := by decide +kernel
theorem dX12_keep_159 : decode cX12_keep 159 = .ok (.iconst 0, 1) := by decide +kernel
theorem dX12_keep_160 : decode cX12_keep 160 = .ok (.istore_n 2, 1) := by decide +kernel
theorem dX12_keep_161 : decode cX12_keep 161 = .ok (.iload_n 2, 1) := by decide +kernel
theorem dX12_keep_162 : decode cX12_keep 162 = .ok (.bipush 30, 2) := by decide +kernel
theorem dX12_keep_164 : decode cX12_keep 164 = .ok (.if_icmp .ge 30, 3) := by decide +kernel
theorem dX12_keep_167 : decode cX12_keep 167 = .ok (.aload_n 0, 1) := by decide +kernel
theorem dX12_keep_168 : decode cX12_keep 168 = .ok (.getfield 7, 3) := by decide +kernel
theorem dX12_keep_171 : decode cX12_keep 171 = .ok (.iload_n 1, 1) := by decide +kernel
theorem dX12_keep_172 : decode cX12_keep 172 = .ok (.bipush 35, 2) := by decide +kernel
theorem dX12_keep_174 : decode cX12_keep 174 = .ok (.iadd, 1) := by decide +kernel
theorem dX12_keep_175 : decode cX12_keep 175 = .ok (.iload_n 2, 1) := by decide +kernel
theorem dX12_keep_176 : decode cX12_keep 176 = .ok (.iadd, 1) := by decide +kernel
theorem dX12_keep_177 : decode cX12_keep 177 = .ok (.aload_n 0, 1) := by decide +kernel
theorem dX12_keep_178 : decode cX12_keep 178 = .ok (.getfield 7, 3) := by decide +kernel
theorem dX12_keep_181 : decode cX12_keep 181 = .ok (.sipush 2054, 3) := by decide +kernel
theorem dX12_keep_184 : decode cX12_keep 184 = .ok (.iload_n 2, 1) := by decide +kernel
theorem dX12_keep_185 : decode cX12_keep 185 = .ok (.iadd, 1) := by decide +kernel
theorem dX12_keep_186 : decode cX12_keep 186 = .ok (.iaload, 1) := by decide +kernel
theorem dX12_keep_187 : decode cX12_keep 187 = .ok (.iastore, 1) := by decide +kernel
theorem dX12_keep_188 : decode cX12_keep 188 = .ok (.iinc 2 1, 3) := by decide +kernel
theorem dX12_keep_191 : decode cX12_keep 191 = .ok (.goto (-30), 3) := by decide +kernel
theorem dX12_keep_194 : decode cX12_keep 194 = .ok (.aload_n 0, 1) := by decide +kernel
theorem dX12_keep_195 : decode cX12_keep 195 = .ok (.getfield 7, 3) := by decide +kernel
theorem dX12_keep_198 : decode cX12_keep 198 = .ok (.iconst 3, 1) := by decide +kernel
theorem dX12_keep_199 : decode cX12_keep 199 = .ok (.dup2, 1) := by decide +kernel
theorem dX12_keep_200 : decode cX12_keep 200 = .ok (.iaload, 1) := by decide +kernel
theorem dX12_keep_201 : decode cX12_keep 201 = .ok (.iconst 1, 1) := by decide +kernel
theorem dX12_keep_202 : decode cX12_keep 202 = .ok (.iadd, 1) := by decide +kernel
theorem dX12_keep_203 : decode cX12_keep 203 = .ok (.iastore, 1) := by decide +kernel
theorem dX12_keep_204 : decode cX12_keep 204 = .ok (.return_, 1) := by decide +kernel
theorem dX12_undo_0 : decode cX12_undo 0 = .ok (.aload_n 0, 1) := by decide +kernel
theorem dX12_undo_1 : decode cX12_undo 1 = .ok (.getfield 7, 3) := by decide +kernel
theorem dX12_undo_4 : decode cX12_undo 4 = .ok (.iconst 3, 1) := by decide +kernel
theorem dX12_undo_5 : decode cX12_undo 5 = .ok (.iaload, 1) := by decide +kernel
theorem dX12_undo_6 : decode cX12_undo 6 = .ok (.ifCond .ne 5, 3) := by decide +kernel
theorem dX12_undo_9 : decode cX12_undo 9 = .ok (.iconst (-1), 1) := by decide +kernel
theorem dX12_undo_10 : decode cX12_undo 10 = .ok (.ireturn, 1) := by decide +kernel
theorem dX12_undo_11 : decode cX12_undo 11 = .ok (.aload_n 0, 1) := by decide +kernel
theorem dX12_undo_12 : decode cX12_undo 12 = .ok (.getfield 7, 3) := by decide +kernel
theorem dX12_undo_15 : decode cX12_undo 15 = .ok (.iconst 3, 1) := by decide +kernel
theorem dX12_undo_16 : decode cX12_undo 16 = .ok (.dup2, 1) := by decide +kernel
theorem dX12_undo_17 : decode cX12_undo 17 = .ok (.iaload, 1) := by decide +kernel
theorem dX12_undo_18 : decode cX12_undo 18 = .ok (.iconst 1, 1) := by decide +kernel
theorem dX12_undo_19 : decode cX12_undo 19 = .ok (.isub, 1) := by decide +kernel
theorem dX12_undo_20 : decode cX12_undo 20 = .ok (.iastore, 1) := by decide +kernel
theorem dX12_undo_21 : decode cX12_undo 21 = .ok (.bipush 104, 2) := by decide +kernel
theorem dX12_undo_23 : decode cX12_undo 23 = .ok (.bipush 65, 2) := by decide +kernel
theorem dX12_undo_25 : decode cX12_undo 25 = .ok (.aload_n 0, 1) := by decide +kernel
theorem dX12_undo_26 : decode cX12_undo 26 = .ok (.getfield 7, 3) := by decide +kernel
theorem dX12_undo_29 : decode cX12_undo 29 = .ok (.iconst 3, 1) := by decide +kernel
theorem dX12_undo_30 : decode cX12_undo 30 = .ok (.iaload, 1) := by decide +kernel
theorem dX12_undo_31 : decode cX12_undo 31 = .ok (.imul, 1) := by decide +kernel
theorem dX12_undo_32 : decode cX12_undo 32 = .ok (.iadd, 1) := by decide +kernel
theorem dX12_undo_33 : decode cX12_undo 33 = .ok (.istore_n 1, 1) := by decide +kernel
theorem dX12_undo_34 : decode cX12_undo 34 = .ok (.iconst 0, 1) := by decide +kernel
theorem dX12_undo_35 : decode cX12_undo 35 = .ok (.istore_n 2, 1) := by decide +kernel
theorem dX12_undo_36 : decode cX12_undo 36 = .ok (.iload_n 2, 1) := by decide +kernel
theorem dX12_undo_37 : decode cX12_undo 37 = .ok (.iconst 4, 1) := by decide +kernel
theorem dX12_undo_38 : decode cX12_undo 38 = .ok (.if_icmp .ge 27, 3) := by decide +kernel
theorem dX12_undo_41 : decode cX12_undo 41 = .ok (.aload_n 0, 1) := by decide +kernel
theorem dX12_undo_42 : decode cX12_undo 42 = .ok (.getfield 7, 3) := by decide +kernel
theorem dX12_undo_45 : decode cX12_undo 45 = .ok (.iconst 5, 1) := by decide +kernel
theorem dX12_undo_46 : decode cX12_undo 46 = .ok (.iload_n 2, 1) := by decide +kernel
theorem dX12_undo_47 : decode cX12_undo 47 = .ok (.iadd, 1) := by decide +kernel
theorem dX12_undo_48 : decode cX12_undo 48 = .ok (.aload_n 0, 1) := by decide +kernel
theorem dX12_undo_49 : decode cX12_undo 49 = .ok (.getfield 7, 3) := by decide +kernel
theorem dX12_undo_52 : decode cX12_undo 52 = .ok (.iload_n 1, 1) := by decide +kernel
theorem dX12_undo_53 : decode cX12_undo 53 = .ok (.iconst 1, 1) := by decide +kernel
theorem dX12_undo_54 : decode cX12_undo 54 = .ok (.iadd, 1) := by decide +kernel
theorem dX12_undo_55 : decode cX12_undo 55 = .ok (.iload_n 2, 1) := by decide +kernel
theorem dX12_undo_56 : decode cX12_undo 56 = .ok (.iadd, 1) := by decide +kernel
theorem dX12_undo_57 : decode cX12_undo 57 = .ok (.iaload, 1) := by decide +kernel
theorem dX12_undo_58 : decode cX12_undo 58 = .ok (.iastore, 1) := by decide +kernel
theorem dX12_undo_59 : decode cX12_undo 59 = .ok (.iinc 2 1, 3) := by decide +kernel
theorem dX12_undo_62 : decode cX12_undo 62 = .ok (.goto (-26), 3) := by decide +kernel
theorem dX12_undo_65 : decode cX12_undo 65 = .ok (.iconst 0, 1) := by decide +kernel
theorem dX12_undo_66 : decode cX12_undo 66 = .ok (.istore_n 2, 1) := by decide +kernel
theorem dX12_undo_67 : decode cX12_undo 67 = .ok (.iload_n 2, 1) := by decide +kernel
theorem dX12_undo_68 : decode cX12_undo 68 = .ok (.aload_n 0, 1) := by decide +kernel
theorem dX12_undo_69 : decode cX12_undo 69 = .ok (.getfield 7, 3) := by decide +kernel
theorem dX12_undo_72 : decode cX12_undo 72 = .ok (.iconst 0, 1) := by decide +kernel
theorem dX12_undo_73 : decode cX12_undo 73 = .ok (.iaload, 1) := by decide +kernel
theorem dX12_undo_74 : decode cX12_undo 74 = .ok (.if_icmp .ge 89, 3) := by decide +kernel
theorem dX12_undo_77 : decode cX12_undo 77 = .ok (.iload_n 2, 1) := by decide +kernel
theorem dX12_undo_78 : decode cX12_undo 78 = .ok (.aload_n 0, 1) := by decide +kernel
theorem dX12_undo_79 : decode cX12_undo 79 = .ok (.getfield 7, 3) := by decide +kernel
theorem dX12_undo_82 : decode cX12_undo 82 = .ok (.iload_n 1, 1) := by decide +kernel
theorem dX12_undo_83 : decode cX12_undo 83 = .ok (.iaload, 1) := by decide +kernel
theorem dX12_undo_84 : decode cX12_undo 84 = .ok (.if_icmp .lt 28, 3) := by decide +kernel
theorem dX12_undo_87 : decode cX12_undo 87 = .ok (.aload_n 0, 1) := by decide +kernel
theorem dX12_undo_88 : decode cX12_undo 88 = .ok (.iload_n 2, 1) := by decide +kernel
theorem dX12_undo_89 : decode cX12_undo 89 = .ok (.aload_n 0, 1) := by decide +kernel
theorem dX12_undo_90 : decode cX12_undo 90 = .ok (.iload_n 2, 1) := by decide +kernel
theorem dX12_undo_91 : decode cX12_undo 91 = .ok (.bipush 6, 2) := by decide +kernel
theorem dX12_undo_93 : decode cX12_undo 93 = .ok (.invokevirtual 92, 3) := by decide +kernel
theorem dX12_undo_96 : decode cX12_undo 96 = .ok (.invokevirtual 107, 3) := by decide +kernel
theorem dX12_undo_99 : decode cX12_undo 99 = .ok (.aload_n 0, 1) := by decide +kernel
theorem dX12_undo_100 : decode cX12_undo 100 = .ok (.iload_n 2, 1) := by decide +kernel
theorem dX12_undo_101 : decode cX12_undo 101 = .ok (.iconst 4, 1) := by decide +kernel
theorem dX12_undo_102 : decode cX12_undo 102 = .ok (.aload_n 0, 1) := by decide +kernel
theorem dX12_undo_103 : decode cX12_undo 103 = .ok (.iload_n 2, 1) := by decide +kernel
theorem dX12_undo_104 : decode cX12_undo 104 = .ok (.bipush 7, 2) := by decide +kernel
theorem dX12_undo_106 : decode cX12_undo 106 = .ok (.invokevirtual 92, 3) := by decide +kernel
theorem dX12_undo_109 : decode cX12_undo 109 = .ok (.invokevirtual 103, 3) := by decide +kernel
theorem dX12_undo_112 : decode cX12_undo 112 = .ok (.iconst 0, 1) := by decide +kernel
theorem dX12_undo_113 : decode cX12_undo 113 = .ok (.istore_n 3, 1) := by decide +kernel
theorem dX12_undo_114 : decode cX12_undo 114 = .ok (.iload_n 3, 1) := by decide +kernel
theorem dX12_undo_115 : decode cX12_undo 115 = .ok (.bipush 6, 2) := by decide +kernel
theorem dX12_undo_117 : decode cX12_undo 117 = .ok (.if_icmp .ge 40, 3) := by decide +kernel
theorem dX12_undo_120 : decode cX12_undo 120 = .ok (.iload_n 2, 1) := by decide +kernel
theorem dX12_undo_121 : decode cX12_undo 121 = .ok (.aload_n 0, 1) := by decide +kernel
theorem dX12_undo_122 : decode cX12_undo 122 = .ok (.getfield 7, 3) := by decide +kernel
theorem dX12_undo_125 : decode cX12_undo 125 = .ok (.iload_n 1, 1) := by decide +kernel
theorem dX12_undo_126 : decode cX12_undo 126 = .ok (.iaload, 1) := by decide +kernel
theorem dX12_undo_127 : decode cX12_undo 127 = .ok (.if_icmp .ge 30, 3) := by decide +kernel
theorem dX12_undo_130 : decode cX12_undo 130 = .ok (.aload_n 0, 1) := by decide +kernel
theorem dX12_undo_131 : decode cX12_undo 131 = .ok (.iload_n 2, 1) := by decide +kernel
theorem dX12_undo_132 : decode cX12_undo 132 = .ok (.iload_n 3, 1) := by decide +kernel
theorem dX12_undo_133 : decode cX12_undo 133 = .ok (.aload_n 0, 1) := by decide +kernel
theorem dX12_undo_134 : decode cX12_undo 134 = .ok (.getfield 7, 3) := by decide +kernel
theorem dX12_undo_137 : decode cX12_undo 137 = .ok (.iload_n 1, 1) := by decide +kernel
theorem dX12_undo_138 : decode cX12_undo 138 = .ok (.iconst 5, 1) := by decide +kernel
theorem dX12_undo_139 : decode cX12_undo 139 = .ok (.iadd, 1) := by decide +kernel
theorem dX12_undo_140 : decode cX12_undo 140 = .ok (.bipush 6, 2) := by decide +kernel
theorem dX12_undo_142 : decode cX12_undo 142 = .ok (.iload_n 2, 1) := by decide +kernel
theorem dX12_undo_143 : decode cX12_undo 143 = .ok (.imul, 1) := by decide +kernel
theorem dX12_undo_144 : decode cX12_undo 144 = .ok (.iadd, 1) := by decide +kernel
theorem dX12_undo_145 : decode cX12_undo 145 = .ok (.iload_n 3, 1) := by decide +kernel
theorem dX12_undo_146 : decode cX12_undo 146 = .ok (.iadd, 1) := by decide +kernel
theorem dX12_undo_147 : decode cX12_undo 147 = .ok (.iaload, 1) := by decide +kernel
theorem dX12_undo_148 : decode cX12_undo 148 = .ok (.invokevirtual 103, 3) := by decide +kernel
theorem dX12_undo_151 : decode cX12_undo 151 = .ok (.iinc 3 1, 3) := by decide +kernel
theorem dX12_undo_154 : decode cX12_undo 154 = .ok (.goto (-40), 3) := by decide +kernel
theorem dX12_undo_157 : decode cX12_undo 157 = .ok (.iinc 2 1, 3) := by decide +kernel
theorem dX12_undo_160 : decode cX12_undo 160 = .ok (.goto (-93), 3) := by decide +kernel
theorem dX12_undo_163 : decode cX12_undo 163 = .ok (.iconst 0, 1) := by decide +kernel
theorem dX12_undo_164 : decode cX12_undo 164 = .ok (.istore_n 2, 1) := by decide +kernel
theorem dX12_undo_165 : decode cX12_undo 165 = .ok (.iload_n 2, 1) := by decide +kernel
theorem dX12_undo_166 : decode cX12_undo 166 = .ok (.bipush 30, 2) := by decide +kernel
theorem dX12_undo_168 : decode cX12_undo 168 = .ok (.if_icmp .ge 30, 3) := by decide +kernel
theorem dX12_undo_171 : decode cX12_undo 171 = .ok (.aload_n 0, 1) := by decide +kernel
theorem dX12_undo_172 : decode cX12_undo 172 = .ok (.getfield 7, 3) := by decide +kernel
theorem dX12_undo_175 : decode cX12_undo 175 = .ok (.sipush 2054, 3) := by decide +kernel
theorem dX12_undo_178 : decode cX12_undo 178 = .ok (.iload_n 2, 1) := by decide +kernel
theorem dX12_undo_179 : decode cX12_undo 179 = .ok (.iadd, 1) := by decide +kernel
theorem dX12_undo_180 : decode cX12_undo 180 = .ok (.aload_n 0, 1) := by decide +kernel
theorem dX12_undo_181 : decode cX12_undo 181 = .ok (.getfield 7, 3) := by decide +kernel
theorem dX12_undo_184 : decode cX12_undo 184 = .ok (.iload_n 1, 1) := by decide +kernel
theorem dX12_undo_185 : decode cX12_undo 185 = .ok (.bipush 35, 2) := by decide +kernel
theorem dX12_undo_187 : decode cX12_undo 187 = .ok (.iadd, 1) := by decide +kernel
theorem dX12_undo_188 : decode cX12_undo 188 = .ok (.iload_n 2, 1) := by decide +kernel
theorem dX12_undo_189 : decode cX12_undo 189 = .ok (.iadd, 1) := by decide +kernel
theorem dX12_undo_190 : decode cX12_undo 190 = .ok (.iaload, 1) := by decide +kernel
theorem dX12_undo_191 : decode cX12_undo 191 = .ok (.iastore, 1) := by decide +kernel
theorem dX12_undo_192 : decode cX12_undo 192 = .ok (.iinc 2 1, 3) := by decide +kernel
theorem dX12_undo_195 : decode cX12_undo 195 = .ok (.goto (-30), 3) := by decide +kernel
theorem dX12_undo_198 : decode cX12_undo 198 = .ok (.aload_n 0, 1) := by decide +kernel
theorem dX12_undo_199 : decode cX12_undo 199 = .ok (.getfield 7, 3) := by decide +kernel
theorem dX12_undo_202 : decode cX12_undo 202 = .ok (.iconst 3, 1) := by decide +kernel
theorem dX12_undo_203 : decode cX12_undo 203 = .ok (.iaload, 1) := by decide +kernel
theorem dX12_undo_204 : decode cX12_undo 204 = .ok (.ireturn, 1) := by decide +kernel
theorem dX12_ask_0 : decode cX12_ask 0 = .ok (.aload_n 0, 1) := by decide +kernel
theorem dX12_ask_1 : decode cX12_ask 1 = .ok (.iload_n 1, 1) := by decide +kernel
theorem dX12_ask_2 : decode cX12_ask 2 = .ok (.invokevirtual 347, 3) := by decide +kernel
theorem dX12_ask_5 : decode cX12_ask 5 = .ok (.ifCond .ne 5, 3) := by decide +kernel
theorem dX12_ask_8 : decode cX12_ask 8 = .ok (.iconst (-1), 1) := by decide +kernel
theorem dX12_ask_9 : decode cX12_ask 9 = .ok (.ireturn, 1) := by decide +kernel
theorem dX12_ask_10 : decode cX12_ask 10 = .ok (.aload_n 0, 1) := by decide +kernel
theorem dX12_ask_11 : decode cX12_ask 11 = .ok (.invokevirtual 356, 3) := by decide +kernel
theorem dX12_ask_14 : decode cX12_ask 14 = .ok (.aload_n 0, 1) := by decide +kernel
theorem dX12_ask_15 : decode cX12_ask 15 = .ok (.iload_n 1, 1) := by decide +kernel
theorem dX12_ask_16 : decode cX12_ask 16 = .ok (.invokevirtual 353, 3) := by decide +kernel
theorem dX12_ask_19 : decode cX12_ask 19 = .ok (.aload_n 0, 1) := by decide +kernel
theorem dX12_ask_20 : decode cX12_ask 20 = .ok (.iload_n 1, 1) := by decide +kernel
theorem dX12_ask_21 : decode cX12_ask 21 = .ok (.invokevirtual 347, 3) := by decide +kernel
theorem dX12_ask_24 : decode cX12_ask 24 = .ok (.ifCond .eq 12, 3) := by decide +kernel
theorem dX12_ask_27 : decode cX12_ask 27 = .ok (.aload_n 0, 1) := by decide +kernel
theorem dX12_ask_28 : decode cX12_ask 28 = .ok (.iload_n 1, 1) := by decide +kernel
theorem dX12_ask_29 : decode cX12_ask 29 = .ok (.iconst 0, 1) := by decide +kernel
theorem dX12_ask_30 : decode cX12_ask 30 = .ok (.invokevirtual 92, 3) := by decide +kernel
theorem dX12_ask_33 : decode cX12_ask 33 = .ok (.goto 5, 3) := by decide +kernel
theorem dX12_ask_36 : decode cX12_ask 36 = .ok (.bipush 12, 2) := by decide +kernel
theorem dX12_ask_38 : decode cX12_ask 38 = .ok (.ireturn, 1) := by decide +kernel
theorem dX12_canGive_0 : decode cX12_canGive 0 = .ok (.aload_n 0, 1) := by decide +kernel
theorem dX12_canGive_1 : decode cX12_canGive 1 = .ok (.iload_n 1, 1) := by decide +kernel
theorem dX12_canGive_2 : decode cX12_canGive 2 = .ok (.invokevirtual 347, 3) := by decide +kernel
theorem dX12_canGive_5 : decode cX12_canGive 5 = .ok (.ifCond .eq 37, 3) := by decide +kernel
theorem dX12_canGive_8 : decode cX12_canGive 8 = .ok (.iload_n 2, 1) := by decide +kernel
theorem dX12_canGive_9 : decode cX12_canGive 9 = .ok (.invokestatic 100, 3) := by decide +kernel
theorem dX12_canGive_12 : decode cX12_canGive 12 = .ok (.ifCond .eq 30, 3) := by decide +kernel
theorem dX12_canGive_15 : decode cX12_canGive 15 = .ok (.iload_n 2, 1) := by decide +kernel
theorem dX12_canGive_16 : decode cX12_canGive 16 = .ok (.aload_n 0, 1) := by decide +kernel
theorem dX12_canGive_17 : decode cX12_canGive 17 = .ok (.iload_n 1, 1) := by decide +kernel
theorem dX12_canGive_18 : decode cX12_canGive 18 = .ok (.iconst 0, 1) := by decide +kernel
theorem dX12_canGive_19 : decode cX12_canGive 19 = .ok (.invokevirtual 92, 3) := by decide +kernel
theorem dX12_canGive_22 : decode cX12_canGive 22 = .ok (.if_icmp .eq 20, 3) := by decide +kernel
theorem dX12_canGive_25 : decode cX12_canGive 25 = .ok (.aload_n 0, 1) := by decide +kernel
theorem dX12_canGive_26 : decode cX12_canGive 26 = .ok (.iload_n 1, 1) := by decide +kernel
theorem dX12_canGive_27 : decode cX12_canGive 27 = .ok (.iconst 5, 1) := by decide +kernel
theorem dX12_canGive_28 : decode cX12_canGive 28 = .ok (.invokevirtual 92, 3) := by decide +kernel
theorem dX12_canGive_31 : decode cX12_canGive 31 = .ok (.iload_n 2, 1) := by decide +kernel
theorem dX12_canGive_32 : decode cX12_canGive 32 = .ok (.invokestatic 96, 3) := by decide +kernel
theorem dX12_canGive_35 : decode cX12_canGive 35 = .ok (.ifCond .ne 7, 3) := by decide +kernel
theorem dX12_canGive_38 : decode cX12_canGive 38 = .ok (.iconst 1, 1) := by decide +kernel
theorem dX12_canGive_39 : decode cX12_canGive 39 = .ok (.goto 4, 3) := by decide +kernel
theorem dX12_canGive_42 : decode cX12_canGive 42 = .ok (.iconst 0, 1) := by decide +kernel
theorem dX12_canGive_43 : decode cX12_canGive 43 = .ok (.ireturn, 1) := by decide +kernel
theorem dX12_giveNow_0 : decode cX12_giveNow 0 = .ok (.aload_n 0, 1) := by decide +kernel
theorem dX12_giveNow_1 : decode cX12_giveNow 1 = .ok (.iload_n 1, 1) := by decide +kernel
theorem dX12_giveNow_2 : decode cX12_giveNow 2 = .ok (.iconst 5, 1) := by decide +kernel
theorem dX12_giveNow_3 : decode cX12_giveNow 3 = .ok (.aload_n 0, 1) := by decide +kernel
theorem dX12_giveNow_4 : decode cX12_giveNow 4 = .ok (.iload_n 1, 1) := by decide +kernel
theorem dX12_giveNow_5 : decode cX12_giveNow 5 = .ok (.iconst 5, 1) := by decide +kernel
theorem dX12_giveNow_6 : decode cX12_giveNow 6 = .ok (.invokevirtual 92, 3) := by decide +kernel
theorem dX12_giveNow_9 : decode cX12_giveNow 9 = .ok (.iconst 1, 1) := by decide +kernel
theorem dX12_giveNow_10 : decode cX12_giveNow 10 = .ok (.iload_n 2, 1) := by decide +kernel
theorem dX12_giveNow_11 : decode cX12_giveNow 11 = .ok (.ishl, 1) := by decide +kernel
theorem dX12_giveNow_12 : decode cX12_giveNow 12 = .ok (.ior, 1) := by decide +kernel
theorem dX12_giveNow_13 : decode cX12_giveNow 13 = .ok (.invokevirtual 103, 3) := by decide +kernel
theorem dX12_giveNow_16 : decode cX12_giveNow 16 = .ok (.aload_n 0, 1) := by decide +kernel
theorem dX12_giveNow_17 : decode cX12_giveNow 17 = .ok (.iload_n 1, 1) := by decide +kernel
theorem dX12_giveNow_18 : decode cX12_giveNow 18 = .ok (.iload_n 2, 1) := by decide +kernel
theorem dX12_giveNow_19 : decode cX12_giveNow 19 = .ok (.invokevirtual 334, 3) := by decide +kernel
theorem dX12_giveNow_22 : decode cX12_giveNow 22 = .ok (.return_, 1) := by decide +kernel
theorem dX12_give_0 : decode cX12_give 0 = .ok (.aload_n 0, 1) := by decide +kernel
theorem dX12_give_1 : decode cX12_give 1 = .ok (.iload_n 1, 1) := by decide +kernel
theorem dX12_give_2 : decode cX12_give 2 = .ok (.iload_n 2, 1) := by decide +kernel
theorem dX12_give_3 : decode cX12_give 3 = .ok (.invokevirtual 359, 3) := by decide +kernel
theorem dX12_give_6 : decode cX12_give 6 = .ok (.ifCond .ne 5, 3) := by decide +kernel
theorem dX12_give_9 : decode cX12_give 9 = .ok (.iconst 0, 1) := by decide +kernel
theorem dX12_give_10 : decode cX12_give 10 = .ok (.ireturn, 1) := by decide +kernel
theorem dX12_give_11 : decode cX12_give 11 = .ok (.aload_n 0, 1) := by decide +kernel
theorem dX12_give_12 : decode cX12_give 12 = .ok (.invokevirtual 356, 3) := by decide +kernel
theorem dX12_give_15 : decode cX12_give 15 = .ok (.aload_n 0, 1) := by decide +kernel
theorem dX12_give_16 : decode cX12_give 16 = .ok (.iload_n 1, 1) := by decide +kernel
theorem dX12_give_17 : decode cX12_give 17 = .ok (.iload_n 2, 1) := by decide +kernel
theorem dX12_give_18 : decode cX12_give 18 = .ok (.invokevirtual 362, 3) := by decide +kernel
theorem dX12_give_21 : decode cX12_give 21 = .ok (.iconst 1, 1) := by decide +kernel
theorem dX12_give_22 : decode cX12_give 22 = .ok (.ireturn, 1) := by decide +kernel
theorem dX12_canCome_0 : decode cX12_canCome 0 = .ok (.aload_n 0, 1) := by decide +kernel
theorem dX12_canCome_1 : decode cX12_canCome 1 = .ok (.iload_n 1, 1) := by decide +kernel
theorem dX12_canCome_2 : decode cX12_canCome 2 = .ok (.invokevirtual 88, 3) := by decide +kernel
theorem dX12_canCome_5 : decode cX12_canCome 5 = .ok (.ifCond .eq 22, 3) := by decide +kernel
theorem dX12_canCome_8 : decode cX12_canCome 8 = .ok (.aload_n 0, 1) := by decide +kernel
theorem dX12_canCome_9 : decode cX12_canCome 9 = .ok (.iload_n 1, 1) := by decide +kernel
theorem dX12_canCome_10 : decode cX12_canCome 10 = .ok (.invokevirtual 347, 3) := by decide +kernel
theorem dX12_canCome_13 : decode cX12_canCome 13 = .ok (.ifCond .ne 14, 3) := by decide +kernel
theorem dX12_canCome_16 : decode cX12_canCome 16 = .ok (.iload_n 2, 1) := by decide +kernel
theorem dX12_canCome_17 : decode cX12_canCome 17 = .ok (.invokestatic 100, 3) := by decide +kernel
theorem dX12_canCome_20 : decode cX12_canCome 20 = .ok (.ifCond .eq 7, 3) := by decide +kernel
theorem dX12_canCome_23 : decode cX12_canCome 23 = .ok (.iconst 1, 1) := by decide +kernel
theorem dX12_canCome_24 : decode cX12_canCome 24 = .ok (.goto 4, 3) := by decide +kernel
theorem dX12_canCome_27 : decode cX12_canCome 27 = .ok (.iconst 0, 1) := by decide +kernel
theorem dX12_canCome_28 : decode cX12_canCome 28 = .ok (.ireturn, 1) := by decide +kernel
theorem dX12_again_0 : decode cX12_again 0 = .ok (.aload_n 0, 1) := by decide +kernel
theorem dX12_again_1 : decode cX12_again 1 = .ok (.iload_n 1, 1) := by decide +kernel
theorem dX12_again_2 : decode cX12_again 2 = .ok (.iload_n 2, 1) := by decide +kernel
theorem dX12_again_3 : decode cX12_again 3 = .ok (.invokevirtual 365, 3) := by decide +kernel
theorem dX12_again_6 : decode cX12_again 6 = .ok (.ifCond .ne 5, 3) := by decide +kernel
theorem dX12_again_9 : decode cX12_again 9 = .ok (.iconst 0, 1) := by decide +kernel
theorem dX12_again_10 : decode cX12_again 10 = .ok (.ireturn, 1) := by decide +kernel
theorem dX12_again_11 : decode cX12_again 11 = .ok (.aload_n 0, 1) := by decide +kernel
theorem dX12_again_12 : decode cX12_again 12 = .ok (.invokevirtual 356, 3) := by decide +kernel
theorem dX12_again_15 : decode cX12_again 15 = .ok (.aload_n 0, 1) := by decide +kernel
theorem dX12_again_16 : decode cX12_again 16 = .ok (.iload_n 1, 1) := by decide +kernel
theorem dX12_again_17 : decode cX12_again 17 = .ok (.iload_n 2, 1) := by decide +kernel
theorem dX12_again_18 : decode cX12_again 18 = .ok (.invokevirtual 107, 3) := by decide +kernel
theorem dX12_again_21 : decode cX12_again 21 = .ok (.iconst 1, 1) := by decide +kernel
theorem dX12_again_22 : decode cX12_again 22 = .ok (.ireturn, 1) := by decide +kernel
theorem dX12_arePassed_0 : decode cX12_arePassed 0 = .ok (.aload_n 0, 1) := by decide +kernel
theorem dX12_arePassed_1 : decode cX12_arePassed 1 = .ok (.iconst 0, 1) := by decide +kernel
theorem dX12_arePassed_2 : decode cX12_arePassed 2 = .ok (.putfield 340, 3) := by decide +kernel
theorem dX12_arePassed_5 : decode cX12_arePassed 5 = .ok (.iconst 0, 1) := by decide +kernel
theorem dX12_arePassed_6 : decode cX12_arePassed 6 = .ok (.istore_n 2, 1) := by decide +kernel
theorem dX12_arePassed_7 : decode cX12_arePassed 7 = .ok (.iload_n 2, 1) := by decide +kernel
theorem dX12_arePassed_8 : decode cX12_arePassed 8 = .ok (.iload_n 1, 1) := by decide +kernel
theorem dX12_arePassed_9 : decode cX12_arePassed 9 = .ok (.if_icmp .ge 31, 3) := by decide +kernel
theorem dX12_arePassed_12 : decode cX12_arePassed 12 = .ok (.aload_n 0, 1) := by decide +kernel
theorem dX12_arePassed_13 : decode cX12_arePassed 13 = .ok (.getfield 7, 3) := by decide +kernel
theorem dX12_arePassed_16 : decode cX12_arePassed 16 = .ok (.iconst 5, 1) := by decide +kernel
theorem dX12_arePassed_17 : decode cX12_arePassed 17 = .ok (.iaload, 1) := by decide +kernel
theorem dX12_arePassed_18 : decode cX12_arePassed 18 = .ok (.sipush 9999, 3) := by decide +kernel
theorem dX12_arePassed_21 : decode cX12_arePassed 21 = .ok (.if_icmp .ne 5, 3) := by decide +kernel
theorem dX12_arePassed_24 : decode cX12_arePassed 24 = .ok (.iconst 0, 1) := by decide +kernel
theorem dX12_arePassed_25 : decode cX12_arePassed 25 = .ok (.ireturn, 1) := by decide +kernel
theorem dX12_arePassed_26 : decode cX12_arePassed 26 = .ok (.aload_n 0, 1) := by decide +kernel
theorem dX12_arePassed_27 : decode cX12_arePassed 27 = .ok (.invokevirtual 356, 3) := by decide +kernel
theorem dX12_arePassed_30 : decode cX12_arePassed 30 = .ok (.aload_n 0, 1) := by decide +kernel
theorem dX12_arePassed_31 : decode cX12_arePassed 31 = .ok (.invokevirtual 368, 3) := by decide +kernel
theorem dX12_arePassed_34 : decode cX12_arePassed 34 = .ok (.iinc 2 1, 3) := by decide +kernel
theorem dX12_arePassed_37 : decode cX12_arePassed 37 = .ok (.goto (-30), 3) := by decide +kernel
theorem dX12_arePassed_40 : decode cX12_arePassed 40 = .ok (.iconst 1, 1) := by decide +kernel
theorem dX12_arePassed_41 : decode cX12_arePassed 41 = .ok (.ireturn, 1) := by decide +kernel
theorem dX12_day_0 : decode cX12_day 0 = .ok (.iload_n 1, 1) := by decide +kernel
theorem dX12_day_1 : decode cX12_day 1 = .ok (.iconst 1, 1) := by decide +kernel
theorem dX12_day_2 : decode cX12_day 2 = .ok (.bipush 60, 2) := by decide +kernel
theorem dX12_day_4 : decode cX12_day 4 = .ok (.invokestatic 84, 3) := by decide +kernel
theorem dX12_day_7 : decode cX12_day 7 = .ok (.ifCond .eq 32, 3) := by decide +kernel
theorem dX12_day_10 : decode cX12_day 10 = .ok (.aload_n 0, 1) := by decide +kernel
theorem dX12_day_11 : decode cX12_day 11 = .ok (.getfield 7, 3) := by decide +kernel
theorem dX12_day_14 : decode cX12_day 14 = .ok (.iconst 5, 1) := by decide +kernel
theorem dX12_day_15 : decode cX12_day 15 = .ok (.iaload, 1) := by decide +kernel
theorem dX12_day_16 : decode cX12_day 16 = .ok (.iload_n 1, 1) := by decide +kernel
theorem dX12_day_17 : decode cX12_day 17 = .ok (.iadd, 1) := by decide +kernel
theorem dX12_day_18 : decode cX12_day 18 = .ok (.sipush 9999, 3) := by decide +kernel
theorem dX12_day_21 : decode cX12_day 21 = .ok (.if_icmp .gt 18, 3) := by decide +kernel
theorem dX12_day_24 : decode cX12_day 24 = .ok (.aload_n 0, 1) := by decide +kernel
theorem dX12_day_25 : decode cX12_day 25 = .ok (.iload_n 1, 1) := by decide +kernel
theorem dX12_day_26 : decode cX12_day 26 = .ok (.invokevirtual 371, 3) := by decide +kernel
theorem dX12_day_29 : decode cX12_day 29 = .ok (.ifCond .eq 10, 3) := by decide +kernel
theorem dX12_day_32 : decode cX12_day 32 = .ok (.aload_n 0, 1) := by decide +kernel
theorem dX12_day_33 : decode cX12_day 33 = .ok (.getfield 340, 3) := by decide +kernel
theorem dX12_day_36 : decode cX12_day 36 = .ok (.goto 4, 3) := by decide +kernel
theorem dX12_day_39 : decode cX12_day 39 = .ok (.iconst (-1), 1) := by decide +kernel
theorem dX12_day_40 : decode cX12_day 40 = .ok (.ireturn, 1) := by decide +kernel
theorem dX12_isPlayed_0 : decode cX12_isPlayed 0 = .ok (.aload_n 0, 1) := by decide +kernel
theorem dX12_isPlayed_1 : decode cX12_isPlayed 1 = .ok (.getfield 16, 3) := by decide +kernel
theorem dX12_isPlayed_4 : decode cX12_isPlayed 4 = .ok (.iload_n 1, 1) := by decide +kernel
theorem dX12_isPlayed_5 : decode cX12_isPlayed 5 = .ok (.iconst 1, 1) := by decide +kernel
theorem dX12_isPlayed_6 : decode cX12_isPlayed 6 = .ok (.iadd, 1) := by decide +kernel
theorem dX12_isPlayed_7 : decode cX12_isPlayed 7 = .ok (.iaload, 1) := by decide +kernel
theorem dX12_isPlayed_8 : decode cX12_isPlayed 8 = .ok (.istore_n 2, 1) := by decide +kernel
theorem dX12_isPlayed_9 : decode cX12_isPlayed 9 = .ok (.aload_n 0, 1) := by decide +kernel
theorem dX12_isPlayed_10 : decode cX12_isPlayed 10 = .ok (.getfield 16, 3) := by decide +kernel
theorem dX12_isPlayed_13 : decode cX12_isPlayed 13 = .ok (.iload_n 1, 1) := by decide +kernel
theorem dX12_isPlayed_14 : decode cX12_isPlayed 14 = .ok (.iconst 2, 1) := by decide +kernel
theorem dX12_isPlayed_15 : decode cX12_isPlayed 15 = .ok (.iadd, 1) := by decide +kernel
theorem dX12_isPlayed_16 : decode cX12_isPlayed 16 = .ok (.iaload, 1) := by decide +kernel
theorem dX12_isPlayed_17 : decode cX12_isPlayed 17 = .ok (.istore_n 3, 1) := by decide +kernel
theorem dX12_isPlayed_18 : decode cX12_isPlayed 18 = .ok (.aload_n 0, 1) := by decide +kernel
theorem dX12_isPlayed_19 : decode cX12_isPlayed 19 = .ok (.getfield 16, 3) := by decide +kernel
theorem dX12_isPlayed_22 : decode cX12_isPlayed 22 = .ok (.iload_n 1, 1) := by decide +kernel
theorem dX12_isPlayed_23 : decode cX12_isPlayed 23 = .ok (.iaload, 1) := by decide +kernel
theorem dX12_isPlayed_24 : decode cX12_isPlayed 24 = .ok (.tableswitch 108 2 8 #[44, 51, 59, 74, 88, 95, 102], 44) := by decide +kernel
theorem dX12_isPlayed_68 : decode cX12_isPlayed 68 = .ok (.aload_n 0, 1) := by decide +kernel
theorem dX12_isPlayed_69 : decode cX12_isPlayed 69 = .ok (.iload_n 3, 1) := by decide +kernel
theorem dX12_isPlayed_70 : decode cX12_isPlayed 70 = .ok (.iload_n 2, 1) := by decide +kernel
theorem dX12_isPlayed_71 : decode cX12_isPlayed 71 = .ok (.invokevirtual 374, 3) := by decide +kernel
theorem dX12_isPlayed_74 : decode cX12_isPlayed 74 = .ok (.ireturn, 1) := by decide +kernel
theorem dX12_isPlayed_75 : decode cX12_isPlayed 75 = .ok (.aload_n 0, 1) := by decide +kernel
theorem dX12_isPlayed_76 : decode cX12_isPlayed 76 = .ok (.iload_n 2, 1) := by decide +kernel
theorem dX12_isPlayed_77 : decode cX12_isPlayed 77 = .ok (.iload_n 3, 1) := by decide +kernel
theorem dX12_isPlayed_78 : decode cX12_isPlayed 78 = .ok (.iconst 1, 1) := by decide +kernel
theorem dX12_isPlayed_79 : decode cX12_isPlayed 79 = .ok (.invokevirtual 377, 3) := by decide +kernel
theorem dX12_isPlayed_82 : decode cX12_isPlayed 82 = .ok (.ireturn, 1) := by decide +kernel
theorem dX12_isPlayed_83 : decode cX12_isPlayed 83 = .ok (.aload_n 0, 1) := by decide +kernel
theorem dX12_isPlayed_84 : decode cX12_isPlayed 84 = .ok (.iload_n 2, 1) := by decide +kernel
theorem dX12_isPlayed_85 : decode cX12_isPlayed 85 = .ok (.iload_n 3, 1) := by decide +kernel
theorem dX12_isPlayed_86 : decode cX12_isPlayed 86 = .ok (.invokevirtual 381, 3) := by decide +kernel
theorem dX12_isPlayed_89 : decode cX12_isPlayed 89 = .ok (.ifCond .lt 7, 3) := by decide +kernel
theorem dX12_isPlayed_92 : decode cX12_isPlayed 92 = .ok (.iconst 1, 1) := by decide +kernel
theorem dX12_isPlayed_93 : decode cX12_isPlayed 93 = .ok (.goto 4, 3) := by decide +kernel
theorem dX12_isPlayed_96 : decode cX12_isPlayed 96 = .ok (.iconst 0, 1) := by decide +kernel
theorem dX12_isPlayed_97 : decode cX12_isPlayed 97 = .ok (.ireturn, 1) := by decide +kernel
theorem dX12_isPlayed_98 : decode cX12_isPlayed 98 = .ok (.aload_n 0, 1) := by decide +kernel
theorem dX12_isPlayed_99 : decode cX12_isPlayed 99 = .ok (.iload_n 2, 1) := by decide +kernel
theorem dX12_isPlayed_100 : decode cX12_isPlayed 100 = .ok (.invokevirtual 384, 3) := by decide +kernel
theorem dX12_isPlayed_103 : decode cX12_isPlayed 103 = .ok (.ifCond .lt 7, 3) := by decide +kernel
theorem dX12_isPlayed_106 : decode cX12_isPlayed 106 = .ok (.iconst 1, 1) := by decide +kernel
theorem dX12_isPlayed_107 : decode cX12_isPlayed 107 = .ok (.goto 4, 3) := by decide +kernel
theorem dX12_isPlayed_110 : decode cX12_isPlayed 110 = .ok (.iconst 0, 1) := by decide +kernel
theorem dX12_isPlayed_111 : decode cX12_isPlayed 111 = .ok (.ireturn, 1) := by decide +kernel
theorem dX12_isPlayed_112 : decode cX12_isPlayed 112 = .ok (.aload_n 0, 1) := by decide +kernel
theorem dX12_isPlayed_113 : decode cX12_isPlayed 113 = .ok (.iload_n 3, 1) := by decide +kernel
theorem dX12_isPlayed_114 : decode cX12_isPlayed 114 = .ok (.iload_n 2, 1) := by decide +kernel
theorem dX12_isPlayed_115 : decode cX12_isPlayed 115 = .ok (.invokevirtual 387, 3) := by decide +kernel
theorem dX12_isPlayed_118 : decode cX12_isPlayed 118 = .ok (.ireturn, 1) := by decide +kernel
theorem dX12_isPlayed_119 : decode cX12_isPlayed 119 = .ok (.aload_n 0, 1) := by decide +kernel
theorem dX12_isPlayed_120 : decode cX12_isPlayed 120 = .ok (.iload_n 3, 1) := by decide +kernel
theorem dX12_isPlayed_121 : decode cX12_isPlayed 121 = .ok (.iload_n 2, 1) := by decide +kernel
theorem dX12_isPlayed_122 : decode cX12_isPlayed 122 = .ok (.invokevirtual 390, 3) := by decide +kernel
theorem dX12_isPlayed_125 : decode cX12_isPlayed 125 = .ok (.ireturn, 1) := by decide +kernel
theorem dX12_isPlayed_126 : decode cX12_isPlayed 126 = .ok (.aload_n 0, 1) := by decide +kernel
theorem dX12_isPlayed_127 : decode cX12_isPlayed 127 = .ok (.iload_n 2, 1) := by decide +kernel
theorem dX12_isPlayed_128 : decode cX12_isPlayed 128 = .ok (.invokevirtual 371, 3) := by decide +kernel
theorem dX12_isPlayed_131 : decode cX12_isPlayed 131 = .ok (.ireturn, 1) := by decide +kernel
theorem dX12_isPlayed_132 : decode cX12_isPlayed 132 = .ok (.iconst 1, 1) := by decide +kernel
theorem dX12_isPlayed_133 : decode cX12_isPlayed 133 = .ok (.ireturn, 1) := by decide +kernel
theorem dX12_played_0 : decode cX12_played 0 = .ok (.iload_n 1, 1) := by decide +kernel
theorem dX12_played_1 : decode cX12_played 1 = .ok (.iconst 0, 1) := by decide +kernel
theorem dX12_played_2 : decode cX12_played 2 = .ok (.aload_n 0, 1) := by decide +kernel
theorem dX12_played_3 : decode cX12_played 3 = .ok (.getfield 7, 3) := by decide +kernel
theorem dX12_played_6 : decode cX12_played 6 = .ok (.iconst 1, 1) := by decide +kernel
theorem dX12_played_7 : decode cX12_played 7 = .ok (.iaload, 1) := by decide +kernel
theorem dX12_played_8 : decode cX12_played 8 = .ok (.iconst 1, 1) := by decide +kernel
theorem dX12_played_9 : decode cX12_played 9 = .ok (.isub, 1) := by decide +kernel
theorem dX12_played_10 : decode cX12_played 10 = .ok (.invokestatic 84, 3) := by decide +kernel
theorem dX12_played_13 : decode cX12_played 13 = .ok (.ifCond .ne 6, 3) := by decide +kernel
theorem dX12_played_16 : decode cX12_played 16 = .ok (.bipush (-2), 2) := by decide +kernel
theorem dX12_played_18 : decode cX12_played 18 = .ok (.ireturn, 1) := by decide +kernel
theorem dX12_played_19 : decode cX12_played 19 = .ok (.iconst 0, 1) := by decide +kernel
theorem dX12_played_20 : decode cX12_played 20 = .ok (.istore_n 2, 1) := by decide +kernel
theorem dX12_played_21 : decode cX12_played 21 = .ok (.iload_n 2, 1) := by decide +kernel
theorem dX12_played_22 : decode cX12_played 22 = .ok (.aload_n 0, 1) := by decide +kernel
theorem dX12_played_23 : decode cX12_played 23 = .ok (.getfield 16, 3) := by decide +kernel
theorem dX12_played_26 : decode cX12_played 26 = .ok (.sipush 681, 3) := by decide +kernel
theorem dX12_played_29 : decode cX12_played 29 = .ok (.iload_n 1, 1) := by decide +kernel
theorem dX12_played_30 : decode cX12_played 30 = .ok (.imul, 1) := by decide +kernel
theorem dX12_played_31 : decode cX12_played 31 = .ok (.iaload, 1) := by decide +kernel
theorem dX12_played_32 : decode cX12_played 32 = .ok (.if_icmp .ge 29, 3) := by decide +kernel
theorem dX12_played_35 : decode cX12_played 35 = .ok (.aload_n 0, 1) := by decide +kernel
theorem dX12_played_36 : decode cX12_played 36 = .ok (.sipush 681, 3) := by decide +kernel
theorem dX12_played_39 : decode cX12_played 39 = .ok (.iload_n 1, 1) := by decide +kernel
theorem dX12_played_40 : decode cX12_played 40 = .ok (.imul, 1) := by decide +kernel
theorem dX12_played_41 : decode cX12_played 41 = .ok (.iconst 1, 1) := by decide +kernel
theorem dX12_played_42 : decode cX12_played 42 = .ok (.iadd, 1) := by decide +kernel
theorem dX12_played_43 : decode cX12_played 43 = .ok (.iconst 3, 1) := by decide +kernel
theorem dX12_played_44 : decode cX12_played 44 = .ok (.iload_n 2, 1) := by decide +kernel
theorem dX12_played_45 : decode cX12_played 45 = .ok (.imul, 1) := by decide +kernel
theorem dX12_played_46 : decode cX12_played 46 = .ok (.iadd, 1) := by decide +kernel
theorem dX12_played_47 : decode cX12_played 47 = .ok (.invokevirtual 393, 3) := by decide +kernel
theorem dX12_played_50 : decode cX12_played 50 = .ok (.ifCond .ne 5, 3) := by decide +kernel
theorem dX12_played_53 : decode cX12_played 53 = .ok (.iload_n 2, 1) := by decide +kernel
theorem dX12_played_54 : decode cX12_played 54 = .ok (.ireturn, 1) := by decide +kernel
theorem dX12_played_55 : decode cX12_played 55 = .ok (.iinc 2 1, 3) := by decide +kernel
theorem dX12_played_58 : decode cX12_played 58 = .ok (.goto (-37), 3) := by decide +kernel
theorem dX12_played_61 : decode cX12_played 61 = .ok (.iconst (-1), 1) := by decide +kernel
theorem dX12_played_62 : decode cX12_played 62 = .ok (.ireturn, 1) := by decide +kernel
theorem dX12_happens_0 : decode cX12_happens 0 = .ok (.iload_n 1, 1) := by decide +kernel
theorem dX12_happens_1 : decode cX12_happens 1 = .ok (.bipush 6, 2) := by decide +kernel
theorem dX12_happens_3 : decode cX12_happens 3 = .ok (.irem, 1) := by decide +kernel
theorem dX12_happens_4 : decode cX12_happens 4 = .ok (.iconst 3, 1) := by decide +kernel
theorem dX12_happens_5 : decode cX12_happens 5 = .ok (.if_icmp .le 20, 3) := by decide +kernel
theorem dX12_happens_8 : decode cX12_happens 8 = .ok (.aload_n 0, 1) := by decide +kernel
theorem dX12_happens_9 : decode cX12_happens 9 = .ok (.getfield 7, 3) := by decide +kernel
theorem dX12_happens_12 : decode cX12_happens 12 = .ok (.iconst 5, 1) := by decide +kernel
theorem dX12_happens_13 : decode cX12_happens 13 = .ok (.iaload, 1) := by decide +kernel
theorem dX12_happens_14 : decode cX12_happens 14 = .ok (.sipush 9999, 3) := by decide +kernel
theorem dX12_happens_17 : decode cX12_happens 17 = .ok (.if_icmp .ge 7, 3) := by decide +kernel
theorem dX12_happens_20 : decode cX12_happens 20 = .ok (.aload_n 0, 1) := by decide +kernel
theorem dX12_happens_21 : decode cX12_happens 21 = .ok (.invokevirtual 368, 3) := by decide +kernel
theorem dX12_happens_24 : decode cX12_happens 24 = .ok (.return_, 1) := by decide +kernel
theorem dX12_happens_25 : decode cX12_happens 25 = .ok (.aload_n 0, 1) := by decide +kernel
theorem dX12_happens_26 : decode cX12_happens 26 = .ok (.getfield 7, 3) := by decide +kernel
theorem dX12_happens_29 : decode cX12_happens 29 = .ok (.iconst 0, 1) := by decide +kernel
theorem dX12_happens_30 : decode cX12_happens 30 = .ok (.iaload, 1) := by decide +kernel
theorem dX12_happens_31 : decode cX12_happens 31 = .ok (.ifCond .ne 4, 3) := by decide +kernel
theorem dX12_happens_34 : decode cX12_happens 34 = .ok (.return_, 1) := by decide +kernel
theorem dX12_happens_35 : decode cX12_happens 35 = .ok (.iload_n 1, 1) := by decide +kernel
theorem dX12_happens_36 : decode cX12_happens 36 = .ok (.aload_n 0, 1) := by decide +kernel
theorem dX12_happens_37 : decode cX12_happens 37 = .ok (.getfield 7, 3) := by decide +kernel
theorem dX12_happens_40 : decode cX12_happens 40 = .ok (.iconst 0, 1) := by decide +kernel
theorem dX12_happens_41 : decode cX12_happens 41 = .ok (.iaload, 1) := by decide +kernel
theorem dX12_happens_42 : decode cX12_happens 42 = .ok (.irem, 1) := by decide +kernel
theorem dX12_happens_43 : decode cX12_happens 43 = .ok (.istore_n 2, 1) := by decide +kernel
theorem dX12_happens_44 : decode cX12_happens 44 = .ok (.iload_n 1, 1) := by decide +kernel
theorem dX12_happens_45 : decode cX12_happens 45 = .ok (.bipush 6, 2) := by decide +kernel
theorem dX12_happens_47 : decode cX12_happens 47 = .ok (.idiv, 1) := by decide +kernel
theorem dX12_happens_48 : decode cX12_happens 48 = .ok (.bipush 12, 2) := by decide +kernel
theorem dX12_happens_50 : decode cX12_happens 50 = .ok (.irem, 1) := by decide +kernel
theorem dX12_happens_51 : decode cX12_happens 51 = .ok (.istore_n 3, 1) := by decide +kernel
theorem dX12_happens_52 : decode cX12_happens 52 = .ok (.iload_n 1, 1) := by decide +kernel
theorem dX12_happens_53 : decode cX12_happens 53 = .ok (.bipush 6, 2) := by decide +kernel
theorem dX12_happens_55 : decode cX12_happens 55 = .ok (.irem, 1) := by decide +kernel
theorem dX12_happens_56 : decode cX12_happens 56 = .ok (.iconst 2, 1) := by decide +kernel
theorem dX12_happens_57 : decode cX12_happens 57 = .ok (.if_icmp .ge 19, 3) := by decide +kernel
theorem dX12_happens_60 : decode cX12_happens 60 = .ok (.aload_n 0, 1) := by decide +kernel
theorem dX12_happens_61 : decode cX12_happens 61 = .ok (.iload_n 2, 1) := by decide +kernel
theorem dX12_happens_62 : decode cX12_happens 62 = .ok (.invokevirtual 347, 3) := by decide +kernel
theorem dX12_happens_65 : decode cX12_happens 65 = .ok (.ifCond .eq 52, 3) := by decide +kernel
theorem dX12_happens_68 : decode cX12_happens 68 = .ok (.aload_n 0, 1) := by decide +kernel
theorem dX12_happens_69 : decode cX12_happens 69 = .ok (.iload_n 2, 1) := by decide +kernel
theorem dX12_happens_70 : decode cX12_happens 70 = .ok (.invokevirtual 353, 3) := by decide +kernel
theorem dX12_happens_73 : decode cX12_happens 73 = .ok (.goto 44, 3) := by decide +kernel
theorem dX12_happens_76 : decode cX12_happens 76 = .ok (.iload_n 1, 1) := by decide +kernel
theorem dX12_happens_77 : decode cX12_happens 77 = .ok (.bipush 6, 2) := by decide +kernel
theorem dX12_happens_79 : decode cX12_happens 79 = .ok (.irem, 1) := by decide +kernel
theorem dX12_happens_80 : decode cX12_happens 80 = .ok (.iconst 2, 1) := by decide +kernel
theorem dX12_happens_81 : decode cX12_happens 81 = .ok (.if_icmp .ne 21, 3) := by decide +kernel
theorem dX12_happens_84 : decode cX12_happens 84 = .ok (.aload_n 0, 1) := by decide +kernel
theorem dX12_happens_85 : decode cX12_happens 85 = .ok (.iload_n 2, 1) := by decide +kernel
theorem dX12_happens_86 : decode cX12_happens 86 = .ok (.iload_n 3, 1) := by decide +kernel
theorem dX12_happens_87 : decode cX12_happens 87 = .ok (.invokevirtual 359, 3) := by decide +kernel
theorem dX12_happens_90 : decode cX12_happens 90 = .ok (.ifCond .eq 27, 3) := by decide +kernel
theorem dX12_happens_93 : decode cX12_happens 93 = .ok (.aload_n 0, 1) := by decide +kernel
theorem dX12_happens_94 : decode cX12_happens 94 = .ok (.iload_n 2, 1) := by decide +kernel
theorem dX12_happens_95 : decode cX12_happens 95 = .ok (.iload_n 3, 1) := by decide +kernel
theorem dX12_happens_96 : decode cX12_happens 96 = .ok (.invokevirtual 362, 3) := by decide +kernel
theorem dX12_happens_99 : decode cX12_happens 99 = .ok (.goto 18, 3) := by decide +kernel
theorem dX12_happens_102 : decode cX12_happens 102 = .ok (.aload_n 0, 1) := by decide +kernel
theorem dX12_happens_103 : decode cX12_happens 103 = .ok (.iload_n 2, 1) := by decide +kernel
theorem dX12_happens_104 : decode cX12_happens 104 = .ok (.iload_n 3, 1) := by decide +kernel
theorem dX12_happens_105 : decode cX12_happens 105 = .ok (.invokevirtual 365, 3) := by decide +kernel
theorem dX12_happens_108 : decode cX12_happens 108 = .ok (.ifCond .eq 9, 3) := by decide +kernel
theorem dX12_happens_111 : decode cX12_happens 111 = .ok (.aload_n 0, 1) := by decide +kernel
theorem dX12_happens_112 : decode cX12_happens 112 = .ok (.iload_n 2, 1) := by decide +kernel
theorem dX12_happens_113 : decode cX12_happens 113 = .ok (.iload_n 3, 1) := by decide +kernel
theorem dX12_happens_114 : decode cX12_happens 114 = .ok (.invokevirtual 107, 3) := by decide +kernel
theorem dX12_happens_117 : decode cX12_happens 117 = .ok (.return_, 1) := by decide +kernel
theorem dX12_years_0 : decode cX12_years 0 = .ok (.iload_n 1, 1) := by decide +kernel
theorem dX12_years_1 : decode cX12_years 1 = .ok (.iconst 0, 1) := by decide +kernel
theorem dX12_years_2 : decode cX12_years 2 = .ok (.sipush 9999, 3) := by decide +kernel
theorem dX12_years_5 : decode cX12_years 5 = .ok (.invokestatic 84, 3) := by decide +kernel
theorem dX12_years_8 : decode cX12_years 8 = .ok (.ifCond .eq 13, 3) := by decide +kernel
theorem dX12_years_11 : decode cX12_years 11 = .ok (.iload_n 2, 1) := by decide +kernel
theorem dX12_years_12 : decode cX12_years 12 = .ok (.iconst 1, 1) := by decide +kernel
theorem dX12_years_13 : decode cX12_years 13 = .ok (.bipush 40, 2) := by decide +kernel
theorem dX12_years_15 : decode cX12_years 15 = .ok (.invokestatic 84, 3) := by decide +kernel
theorem dX12_years_18 : decode cX12_years 18 = .ok (.ifCond .ne 5, 3) := by decide +kernel
theorem dX12_years_21 : decode cX12_years 21 = .ok (.iconst (-1), 1) := by decide +kernel
theorem dX12_years_22 : decode cX12_years 22 = .ok (.ireturn, 1) := by decide +kernel
theorem dX12_years_23 : decode cX12_years 23 = .ok (.aload_n 0, 1) := by decide +kernel
theorem dX12_years_24 : decode cX12_years 24 = .ok (.invokevirtual 356, 3) := by decide +kernel
theorem dX12_years_27 : decode cX12_years 27 = .ok (.aload_n 0, 1) := by decide +kernel
theorem dX12_years_28 : decode cX12_years 28 = .ok (.getfield 7, 3) := by decide +kernel
theorem dX12_years_31 : decode cX12_years 31 = .ok (.bipush 6, 2) := by decide +kernel
theorem dX12_years_33 : decode cX12_years 33 = .ok (.iload_n 1, 1) := by decide +kernel
theorem dX12_years_34 : decode cX12_years 34 = .ok (.iconst 2, 1) := by decide +kernel
theorem dX12_years_35 : decode cX12_years 35 = .ok (.imul, 1) := by decide +kernel
theorem dX12_years_36 : decode cX12_years 36 = .ok (.sipush 251, 3) := by decide +kernel
theorem dX12_years_39 : decode cX12_years 39 = .ok (.iadd, 1) := by decide +kernel
theorem dX12_years_40 : decode cX12_years 40 = .ok (.iastore, 1) := by decide +kernel
theorem dX12_years_41 : decode cX12_years 41 = .ok (.iconst 0, 1) := by decide +kernel
theorem dX12_years_42 : decode cX12_years 42 = .ok (.istore_n 3, 1) := by decide +kernel
theorem dX12_years_43 : decode cX12_years 43 = .ok (.iload_n 3, 1) := by decide +kernel
theorem dX12_years_44 : decode cX12_years 44 = .ok (.iload_n 2, 1) := by decide +kernel
theorem dX12_years_45 : decode cX12_years 45 = .ok (.if_icmp .ge 28, 3) := by decide +kernel
theorem dX12_years_48 : decode cX12_years 48 = .ok (.aload_n 0, 1) := by decide +kernel
theorem dX12_years_49 : decode cX12_years 49 = .ok (.getfield 7, 3) := by decide +kernel
theorem dX12_years_52 : decode cX12_years 52 = .ok (.bipush 6, 2) := by decide +kernel
theorem dX12_years_54 : decode cX12_years 54 = .ok (.iaload, 1) := by decide +kernel
theorem dX12_years_55 : decode cX12_years 55 = .ok (.istore 4, 2) := by decide +kernel
theorem dX12_years_57 : decode cX12_years 57 = .ok (.aload_n 0, 1) := by decide +kernel
theorem dX12_years_58 : decode cX12_years 58 = .ok (.invokevirtual 350, 3) := by decide +kernel
theorem dX12_years_61 : decode cX12_years 61 = .ok (.aload_n 0, 1) := by decide +kernel
theorem dX12_years_62 : decode cX12_years 62 = .ok (.iload 4, 2) := by decide +kernel
theorem dX12_years_64 : decode cX12_years 64 = .ok (.invokevirtual 396, 3) := by decide +kernel
theorem dX12_years_67 : decode cX12_years 67 = .ok (.iinc 3 1, 3) := by decide +kernel
theorem dX12_years_70 : decode cX12_years 70 = .ok (.goto (-27), 3) := by decide +kernel
theorem dX12_years_73 : decode cX12_years 73 = .ok (.aload_n 0, 1) := by decide +kernel
theorem dX12_years_74 : decode cX12_years 74 = .ok (.getfield 7, 3) := by decide +kernel
theorem dX12_years_77 : decode cX12_years 77 = .ok (.iconst 5, 1) := by decide +kernel
theorem dX12_years_78 : decode cX12_years 78 = .ok (.iaload, 1) := by decide +kernel
theorem dX12_years_79 : decode cX12_years 79 = .ok (.ireturn, 1) := by decide +kernel
theorem dX12_of_0 : decode cX12_of 0 = .ok (.aload_n 0, 1) := by decide +kernel
theorem dX12_of_1 : decode cX12_of 1 = .ok (.iload_n 1, 1) := by decide +kernel
theorem dX12_of_2 : decode cX12_of 2 = .ok (.invokevirtual 88, 3) := by decide +kernel
theorem dX12_of_5 : decode cX12_of 5 = .ok (.ifCond .ne 5, 3) := by decide +kernel
theorem dX12_of_8 : decode cX12_of 8 = .ok (.iconst (-1), 1) := by decide +kernel
theorem dX12_of_9 : decode cX12_of 9 = .ok (.ireturn, 1) := by decide +kernel
theorem dX12_of_10 : decode cX12_of 10 = .ok (.iload_n 2, 1) := by decide +kernel
theorem dX12_of_11 : decode cX12_of 11 = .ok (.tableswitch 72 3 7 #[33, 40, 47, 54, 66], 33) := by decide +kernel
theorem dX12_of_44 : decode cX12_of 44 = .ok (.aload_n 0, 1) := by decide +kernel
theorem dX12_of_45 : decode cX12_of 45 = .ok (.iload_n 1, 1) := by decide +kernel
theorem dX12_of_46 : decode cX12_of 46 = .ok (.iconst 4, 1) := by decide +kernel
theorem dX12_of_47 : decode cX12_of 47 = .ok (.invokevirtual 92, 3) := by decide +kernel
theorem dX12_of_50 : decode cX12_of 50 = .ok (.ireturn, 1) := by decide +kernel
theorem dX12_of_51 : decode cX12_of 51 = .ok (.aload_n 0, 1) := by decide +kernel
theorem dX12_of_52 : decode cX12_of 52 = .ok (.iload_n 1, 1) := by decide +kernel
theorem dX12_of_53 : decode cX12_of 53 = .ok (.iconst 5, 1) := by decide +kernel
theorem dX12_of_54 : decode cX12_of 54 = .ok (.invokevirtual 92, 3) := by decide +kernel
theorem dX12_of_57 : decode cX12_of 57 = .ok (.ireturn, 1) := by decide +kernel
theorem dX12_of_58 : decode cX12_of 58 = .ok (.aload_n 0, 1) := by decide +kernel
theorem dX12_of_59 : decode cX12_of 59 = .ok (.iload_n 1, 1) := by decide +kernel
theorem dX12_of_60 : decode cX12_of 60 = .ok (.iconst 3, 1) := by decide +kernel
theorem dX12_of_61 : decode cX12_of 61 = .ok (.invokevirtual 92, 3) := by decide +kernel
theorem dX12_of_64 : decode cX12_of 64 = .ok (.ireturn, 1) := by decide +kernel
theorem dX12_of_65 : decode cX12_of 65 = .ok (.aload_n 0, 1) := by decide +kernel
theorem dX12_of_66 : decode cX12_of 66 = .ok (.aload_n 0, 1) := by decide +kernel
theorem dX12_of_67 : decode cX12_of 67 = .ok (.getfield 7, 3) := by decide +kernel
theorem dX12_of_70 : decode cX12_of 70 = .ok (.iconst 2, 1) := by decide +kernel
theorem dX12_of_71 : decode cX12_of 71 = .ok (.iaload, 1) := by decide +kernel
theorem dX12_of_72 : decode cX12_of 72 = .ok (.iload_n 1, 1) := by decide +kernel
theorem dX12_of_73 : decode cX12_of 73 = .ok (.invokevirtual 337, 3) := by decide +kernel
theorem dX12_of_76 : decode cX12_of 76 = .ok (.ireturn, 1) := by decide +kernel
theorem dX12_of_77 : decode cX12_of 77 = .ok (.aload_n 0, 1) := by decide +kernel
theorem dX12_of_78 : decode cX12_of 78 = .ok (.iload_n 1, 1) := by decide +kernel
theorem dX12_of_79 : decode cX12_of 79 = .ok (.invokevirtual 331, 3) := by decide +kernel
theorem dX12_of_82 : decode cX12_of 82 = .ok (.ireturn, 1) := by decide +kernel
theorem dX12_of_83 : decode cX12_of 83 = .ok (.iload_n 2, 1) := by decide +kernel
theorem dX12_of_84 : decode cX12_of 84 = .ok (.iconst 0, 1) := by decide +kernel
theorem dX12_of_85 : decode cX12_of 85 = .ok (.iconst 2, 1) := by decide +kernel
theorem dX12_of_86 : decode cX12_of 86 = .ok (.invokestatic 84, 3) := by decide +kernel
theorem dX12_of_89 : decode cX12_of 89 = .ok (.ifCond .eq 12, 3) := by decide +kernel
theorem dX12_of_92 : decode cX12_of 92 = .ok (.aload_n 0, 1) := by decide +kernel
theorem dX12_of_93 : decode cX12_of 93 = .ok (.iload_n 1, 1) := by decide +kernel
theorem dX12_of_94 : decode cX12_of 94 = .ok (.iload_n 2, 1) := by decide +kernel
theorem dX12_of_95 : decode cX12_of 95 = .ok (.invokevirtual 92, 3) := by decide +kernel
theorem dX12_of_98 : decode cX12_of 98 = .ok (.goto 4, 3) := by decide +kernel
theorem dX12_of_101 : decode cX12_of 101 = .ok (.iconst (-1), 1) := by decide +kernel
theorem dX12_of_102 : decode cX12_of 102 = .ok (.ireturn, 1) := by decide +kernel
theorem dX12_ofWant_0 : decode cX12_ofWant 0 = .ok (.iload_n 1, 1) := by decide +kernel
theorem dX12_ofWant_1 : decode cX12_ofWant 1 = .ok (.invokestatic 100, 3) := by decide +kernel
theorem dX12_ofWant_4 : decode cX12_ofWant 4 = .ok (.ifCond .ne 5, 3) := by decide +kernel
theorem dX12_ofWant_7 : decode cX12_ofWant 7 = .ok (.iconst (-1), 1) := by decide +kernel
theorem dX12_ofWant_8 : decode cX12_ofWant 8 = .ok (.ireturn, 1) := by decide +kernel
theorem dX12_ofWant_9 : decode cX12_ofWant 9 = .ok (.aload_n 0, 1) := by decide +kernel
theorem dX12_ofWant_10 : decode cX12_ofWant 10 = .ok (.invokevirtual 313, 3) := by decide +kernel
theorem dX12_ofWant_13 : decode cX12_ofWant 13 = .ok (.iload_n 2, 1) := by decide +kernel
theorem dX12_ofWant_14 : decode cX12_ofWant 14 = .ok (.ifCond .ne 15, 3) := by decide +kernel
theorem dX12_ofWant_17 : decode cX12_ofWant 17 = .ok (.aload_n 0, 1) := by decide +kernel
theorem dX12_ofWant_18 : decode cX12_ofWant 18 = .ok (.getfield 7, 3) := by decide +kernel
theorem dX12_ofWant_21 : decode cX12_ofWant 21 = .ok (.bipush 49, 2) := by decide +kernel
theorem dX12_ofWant_23 : decode cX12_ofWant 23 = .ok (.iload_n 1, 1) := by decide +kernel
theorem dX12_ofWant_24 : decode cX12_ofWant 24 = .ok (.iadd, 1) := by decide +kernel
theorem dX12_ofWant_25 : decode cX12_ofWant 25 = .ok (.iaload, 1) := by decide +kernel
theorem dX12_ofWant_26 : decode cX12_ofWant 26 = .ok (.goto 49, 3) := by decide +kernel
theorem dX12_ofWant_29 : decode cX12_ofWant 29 = .ok (.iload_n 2, 1) := by decide +kernel
theorem dX12_ofWant_30 : decode cX12_ofWant 30 = .ok (.iconst 1, 1) := by decide +kernel
theorem dX12_ofWant_31 : decode cX12_ofWant 31 = .ok (.if_icmp .ne 15, 3) := by decide +kernel
theorem dX12_ofWant_34 : decode cX12_ofWant 34 = .ok (.aload_n 0, 1) := by decide +kernel
theorem dX12_ofWant_35 : decode cX12_ofWant 35 = .ok (.getfield 7, 3) := by decide +kernel
theorem dX12_ofWant_38 : decode cX12_ofWant 38 = .ok (.bipush 61, 2) := by decide +kernel
theorem dX12_ofWant_40 : decode cX12_ofWant 40 = .ok (.iload_n 1, 1) := by decide +kernel
theorem dX12_ofWant_41 : decode cX12_ofWant 41 = .ok (.iadd, 1) := by decide +kernel
theorem dX12_ofWant_42 : decode cX12_ofWant 42 = .ok (.iaload, 1) := by decide +kernel
theorem dX12_ofWant_43 : decode cX12_ofWant 43 = .ok (.goto 32, 3) := by decide +kernel
theorem dX12_ofWant_46 : decode cX12_ofWant 46 = .ok (.iload_n 2, 1) := by decide +kernel
theorem dX12_ofWant_47 : decode cX12_ofWant 47 = .ok (.iconst 2, 1) := by decide +kernel
theorem dX12_ofWant_48 : decode cX12_ofWant 48 = .ok (.if_icmp .ne 12, 3) := by decide +kernel
theorem dX12_ofWant_51 : decode cX12_ofWant 51 = .ok (.aload_n 0, 1) := by decide +kernel
theorem dX12_ofWant_52 : decode cX12_ofWant 52 = .ok (.getfield 19, 3) := by decide +kernel
theorem dX12_ofWant_55 : decode cX12_ofWant 55 = .ok (.iload_n 1, 1) := by decide +kernel
theorem dX12_ofWant_56 : decode cX12_ofWant 56 = .ok (.iaload, 1) := by decide +kernel
theorem dX12_ofWant_57 : decode cX12_ofWant 57 = .ok (.goto 18, 3) := by decide +kernel
theorem dX12_ofWant_60 : decode cX12_ofWant 60 = .ok (.iload_n 2, 1) := by decide +kernel
theorem dX12_ofWant_61 : decode cX12_ofWant 61 = .ok (.iconst 3, 1) := by decide +kernel
theorem dX12_ofWant_62 : decode cX12_ofWant 62 = .ok (.if_icmp .ne 12, 3) := by decide +kernel
theorem dX12_ofWant_65 : decode cX12_ofWant 65 = .ok (.aload_n 0, 1) := by decide +kernel
theorem dX12_ofWant_66 : decode cX12_ofWant 66 = .ok (.getfield 22, 3) := by decide +kernel
theorem dX12_ofWant_69 : decode cX12_ofWant 69 = .ok (.iload_n 1, 1) := by decide +kernel
theorem dX12_ofWant_70 : decode cX12_ofWant 70 = .ok (.iaload, 1) := by decide +kernel
theorem dX12_ofWant_71 : decode cX12_ofWant 71 = .ok (.goto 4, 3) := by decide +kernel
theorem dX12_ofWant_74 : decode cX12_ofWant 74 = .ok (.iconst (-1), 1) := by decide +kernel
theorem dX12_ofWant_75 : decode cX12_ofWant 75 = .ok (.ireturn, 1) := by decide +kernel
theorem dX12_tells_0 : decode cX12_tells 0 = .ok (.aload_n 0, 1) := by decide +kernel
theorem dX12_tells_1 : decode cX12_tells 1 = .ok (.iload_n 1, 1) := by decide +kernel
theorem dX12_tells_2 : decode cX12_tells 2 = .ok (.invokevirtual 88, 3) := by decide +kernel
theorem dX12_tells_5 : decode cX12_tells 5 = .ok (.ifCond .eq 19, 3) := by decide +kernel
theorem dX12_tells_8 : decode cX12_tells 8 = .ok (.iload_n 2, 1) := by decide +kernel
theorem dX12_tells_9 : decode cX12_tells 9 = .ok (.invokestatic 100, 3) := by decide +kernel
theorem dX12_tells_12 : decode cX12_tells 12 = .ok (.ifCond .eq 12, 3) := by decide +kernel
theorem dX12_tells_15 : decode cX12_tells 15 = .ok (.aload_n 0, 1) := by decide +kernel
theorem dX12_tells_16 : decode cX12_tells 16 = .ok (.iload_n 1, 1) := by decide +kernel
theorem dX12_tells_17 : decode cX12_tells 17 = .ok (.iload_n 2, 1) := by decide +kernel
theorem dX12_tells_18 : decode cX12_tells 18 = .ok (.invokevirtual 322, 3) := by decide +kernel
theorem dX12_tells_21 : decode cX12_tells 21 = .ok (.goto 6, 3) := by decide +kernel
theorem dX12_tells_24 : decode cX12_tells 24 = .ok (.sipush (-1000), 3) := by decide +kernel
theorem dX12_tells_27 : decode cX12_tells 27 = .ok (.ireturn, 1) := by decide +kernel
theorem dX12_waiting_0 : decode cX12_waiting 0 = .ok (.iconst 0, 1) := by decide +kernel
theorem dX12_waiting_1 : decode cX12_waiting 1 = .ok (.istore_n 1, 1) := by decide +kernel
theorem dX12_waiting_2 : decode cX12_waiting 2 = .ok (.iconst 0, 1) := by decide +kernel
theorem dX12_waiting_3 : decode cX12_waiting 3 = .ok (.istore_n 2, 1) := by decide +kernel
theorem dX12_waiting_4 : decode cX12_waiting 4 = .ok (.iload_n 2, 1) := by decide +kernel
theorem dX12_waiting_5 : decode cX12_waiting 5 = .ok (.aload_n 0, 1) := by decide +kernel
theorem dX12_waiting_6 : decode cX12_waiting 6 = .ok (.getfield 7, 3) := by decide +kernel
theorem dX12_waiting_9 : decode cX12_waiting 9 = .ok (.iconst 0, 1) := by decide +kernel
theorem dX12_waiting_10 : decode cX12_waiting 10 = .ok (.iaload, 1) := by decide +kernel
theorem dX12_waiting_11 : decode cX12_waiting 11 = .ok (.if_icmp .ge 27, 3) := by decide +kernel
theorem dX12_waiting_14 : decode cX12_waiting 14 = .ok (.iload_n 1, 1) := by decide +kernel
theorem dX12_waiting_15 : decode cX12_waiting 15 = .ok (.aload_n 0, 1) := by decide +kernel
theorem dX12_waiting_16 : decode cX12_waiting 16 = .ok (.iload_n 2, 1) := by decide +kernel
theorem dX12_waiting_17 : decode cX12_waiting 17 = .ok (.invokevirtual 347, 3) := by decide +kernel
theorem dX12_waiting_20 : decode cX12_waiting 20 = .ok (.ifCond .eq 9, 3) := by decide +kernel
theorem dX12_waiting_23 : decode cX12_waiting 23 = .ok (.iconst 1, 1) := by decide +kernel
theorem dX12_waiting_24 : decode cX12_waiting 24 = .ok (.iload_n 2, 1) := by decide +kernel
theorem dX12_waiting_25 : decode cX12_waiting 25 = .ok (.ishl, 1) := by decide +kernel
theorem dX12_waiting_26 : decode cX12_waiting 26 = .ok (.goto 4, 3) := by decide +kernel
theorem dX12_waiting_29 : decode cX12_waiting 29 = .ok (.iconst 0, 1) := by decide +kernel
theorem dX12_waiting_30 : decode cX12_waiting 30 = .ok (.ior, 1) := by decide +kernel
theorem dX12_waiting_31 : decode cX12_waiting 31 = .ok (.istore_n 1, 1) := by decide +kernel
theorem dX12_waiting_32 : decode cX12_waiting 32 = .ok (.iinc 2 1, 3) := by decide +kernel
theorem dX12_waiting_35 : decode cX12_waiting 35 = .ok (.goto (-31), 3) := by decide +kernel
theorem dX12_waiting_38 : decode cX12_waiting 38 = .ok (.iload_n 1, 1) := by decide +kernel
theorem dX12_waiting_39 : decode cX12_waiting 39 = .ok (.ireturn, 1) := by decide +kernel
theorem dX12_is_0 : decode cX12_is 0 = .ok (.iload_n 1, 1) := by decide +kernel
theorem dX12_is_1 : decode cX12_is 1 = .ok (.iconst 0, 1) := by decide +kernel
theorem dX12_is_2 : decode cX12_is 2 = .ok (.iconst 1, 1) := by decide +kernel
theorem dX12_is_3 : decode cX12_is 3 = .ok (.invokestatic 84, 3) := by decide +kernel
theorem dX12_is_6 : decode cX12_is 6 = .ok (.ifCond .eq 14, 3) := by decide +kernel
theorem dX12_is_9 : decode cX12_is 9 = .ok (.aload_n 0, 1) := by decide +kernel
theorem dX12_is_10 : decode cX12_is 10 = .ok (.getfield 7, 3) := by decide +kernel
theorem dX12_is_13 : decode cX12_is 13 = .ok (.iconst 5, 1) := by decide +kernel
theorem dX12_is_14 : decode cX12_is 14 = .ok (.iload_n 1, 1) := by decide +kernel
theorem dX12_is_15 : decode cX12_is 15 = .ok (.iadd, 1) := by decide +kernel
theorem dX12_is_16 : decode cX12_is 16 = .ok (.iaload, 1) := by decide +kernel
theorem dX12_is_17 : decode cX12_is 17 = .ok (.goto 32, 3) := by decide +kernel
theorem dX12_is_20 : decode cX12_is 20 = .ok (.iload_n 1, 1) := by decide +kernel
theorem dX12_is_21 : decode cX12_is 21 = .ok (.iconst 2, 1) := by decide +kernel
theorem dX12_is_22 : decode cX12_is 22 = .ok (.if_icmp .ne 10, 3) := by decide +kernel
theorem dX12_is_25 : decode cX12_is 25 = .ok (.aload_n 0, 1) := by decide +kernel
theorem dX12_is_26 : decode cX12_is 26 = .ok (.invokevirtual 399, 3) := by decide +kernel
theorem dX12_is_29 : decode cX12_is 29 = .ok (.goto 20, 3) := by decide +kernel
theorem dX12_is_32 : decode cX12_is 32 = .ok (.iload_n 1, 1) := by decide +kernel
theorem dX12_is_33 : decode cX12_is 33 = .ok (.iconst 3, 1) := by decide +kernel
theorem dX12_is_34 : decode cX12_is 34 = .ok (.if_icmp .ne 13, 3) := by decide +kernel
theorem dX12_is_37 : decode cX12_is 37 = .ok (.aload_n 0, 1) := by decide +kernel
theorem dX12_is_38 : decode cX12_is 38 = .ok (.getfield 7, 3) := by decide +kernel
theorem dX12_is_41 : decode cX12_is 41 = .ok (.bipush 7, 2) := by decide +kernel
theorem dX12_is_43 : decode cX12_is 43 = .ok (.iaload, 1) := by decide +kernel
theorem dX12_is_44 : decode cX12_is 44 = .ok (.goto 5, 3) := by decide +kernel
theorem dX12_is_47 : decode cX12_is 47 = .ok (.bipush (-2), 2) := by decide +kernel
theorem dX12_is_49 : decode cX12_is 49 = .ok (.ireturn, 1) := by decide +kernel
theorem dX12_entry_0 : decode cX12_entry 0 = .ok (.aload_n 0, 1) := by decide +kernel
theorem dX12_entry_1 : decode cX12_entry 1 = .ok (.getfield 7, 3) := by decide +kernel
theorem dX12_entry_4 : decode cX12_entry 4 = .ok (.sipush 2054, 3) := by decide +kernel
theorem dX12_entry_7 : decode cX12_entry 7 = .ok (.iload_n 1, 1) := by decide +kernel
theorem dX12_entry_8 : decode cX12_entry 8 = .ok (.iadd, 1) := by decide +kernel
theorem dX12_entry_9 : decode cX12_entry 9 = .ok (.iaload, 1) := by decide +kernel
theorem dX12_entry_10 : decode cX12_entry 10 = .ok (.istore_n 3, 1) := by decide +kernel
theorem dX12_entry_11 : decode cX12_entry 11 = .ok (.iload_n 2, 1) := by decide +kernel
theorem dX12_entry_12 : decode cX12_entry 12 = .ok (.ifCond .ne 11, 3) := by decide +kernel
theorem dX12_entry_15 : decode cX12_entry 15 = .ok (.iload_n 3, 1) := by decide +kernel
theorem dX12_entry_16 : decode cX12_entry 16 = .ok (.sipush 256, 3) := by decide +kernel
theorem dX12_entry_19 : decode cX12_entry 19 = .ok (.idiv, 1) := by decide +kernel
theorem dX12_entry_20 : decode cX12_entry 20 = .ok (.goto 35, 3) := by decide +kernel
theorem dX12_entry_23 : decode cX12_entry 23 = .ok (.iload_n 2, 1) := by decide +kernel
theorem dX12_entry_24 : decode cX12_entry 24 = .ok (.iconst 1, 1) := by decide +kernel
theorem dX12_entry_25 : decode cX12_entry 25 = .ok (.if_icmp .ne 13, 3) := by decide +kernel
theorem dX12_entry_28 : decode cX12_entry 28 = .ok (.iload_n 3, 1) := by decide +kernel
theorem dX12_entry_29 : decode cX12_entry 29 = .ok (.bipush 32, 2) := by decide +kernel
theorem dX12_entry_31 : decode cX12_entry 31 = .ok (.idiv, 1) := by decide +kernel
theorem dX12_entry_32 : decode cX12_entry 32 = .ok (.bipush 8, 2) := by decide +kernel
theorem dX12_entry_34 : decode cX12_entry 34 = .ok (.irem, 1) := by decide +kernel
theorem dX12_entry_35 : decode cX12_entry 35 = .ok (.goto 20, 3) := by decide +kernel
theorem dX12_entry_38 : decode cX12_entry 38 = .ok (.iload_n 2, 1) := by decide +kernel
theorem dX12_entry_39 : decode cX12_entry 39 = .ok (.iconst 2, 1) := by decide +kernel
theorem dX12_entry_40 : decode cX12_entry 40 = .ok (.if_icmp .ne 12, 3) := by decide +kernel
theorem dX12_entry_43 : decode cX12_entry 43 = .ok (.iload_n 3, 1) := by decide +kernel
theorem dX12_entry_44 : decode cX12_entry 44 = .ok (.iconst 2, 1) := by decide +kernel
theorem dX12_entry_45 : decode cX12_entry 45 = .ok (.idiv, 1) := by decide +kernel
theorem dX12_entry_46 : decode cX12_entry 46 = .ok (.bipush 16, 2) := by decide +kernel
theorem dX12_entry_48 : decode cX12_entry 48 = .ok (.irem, 1) := by decide +kernel
theorem dX12_entry_49 : decode cX12_entry 49 = .ok (.goto 6, 3) := by decide +kernel
theorem dX12_entry_52 : decode cX12_entry 52 = .ok (.iload_n 3, 1) := by decide +kernel
theorem dX12_entry_53 : decode cX12_entry 53 = .ok (.iconst 2, 1) := by decide +kernel
theorem dX12_entry_54 : decode cX12_entry 54 = .ok (.irem, 1) := by decide +kernel
theorem dX12_entry_55 : decode cX12_entry 55 = .ok (.ireturn, 1) := by decide +kernel
theorem dX12_book_0 : decode cX12_book 0 = .ok (.iload_n 1, 1) := by decide +kernel
theorem dX12_book_1 : decode cX12_book 1 = .ok (.iconst (-1), 1) := by decide +kernel
theorem dX12_book_2 : decode cX12_book 2 = .ok (.if_icmp .ne 11, 3) := by decide +kernel
theorem dX12_book_5 : decode cX12_book 5 = .ok (.aload_n 0, 1) := by decide +kernel
theorem dX12_book_6 : decode cX12_book 6 = .ok (.getfield 7, 3) := by decide +kernel
theorem dX12_book_9 : decode cX12_book 9 = .ok (.bipush 8, 2) := by decide +kernel
theorem dX12_book_11 : decode cX12_book 11 = .ok (.iaload, 1) := by decide +kernel
theorem dX12_book_12 : decode cX12_book 12 = .ok (.ireturn, 1) := by decide +kernel
theorem dX12_book_13 : decode cX12_book 13 = .ok (.iload_n 1, 1) := by decide +kernel
theorem dX12_book_14 : decode cX12_book 14 = .ok (.iconst 0, 1) := by decide +kernel
theorem dX12_book_15 : decode cX12_book 15 = .ok (.aload_n 0, 1) := by decide +kernel
theorem dX12_book_16 : decode cX12_book 16 = .ok (.getfield 7, 3) := by decide +kernel
theorem dX12_book_19 : decode cX12_book 19 = .ok (.bipush 8, 2) := by decide +kernel
theorem dX12_book_21 : decode cX12_book 21 = .ok (.iaload, 1) := by decide +kernel
theorem dX12_book_22 : decode cX12_book 22 = .ok (.iconst 1, 1) := by decide +kernel
theorem dX12_book_23 : decode cX12_book 23 = .ok (.isub, 1) := by decide +kernel
theorem dX12_book_24 : decode cX12_book 24 = .ok (.invokestatic 84, 3) := by decide +kernel
theorem dX12_book_27 : decode cX12_book 27 = .ok (.ifCond .eq 21, 3) := by decide +kernel
theorem dX12_book_30 : decode cX12_book 30 = .ok (.iload_n 2, 1) := by decide +kernel
theorem dX12_book_31 : decode cX12_book 31 = .ok (.iconst 0, 1) := by decide +kernel
theorem dX12_book_32 : decode cX12_book 32 = .ok (.iconst 3, 1) := by decide +kernel
theorem dX12_book_33 : decode cX12_book 33 = .ok (.invokestatic 84, 3) := by decide +kernel
theorem dX12_book_36 : decode cX12_book 36 = .ok (.ifCond .eq 12, 3) := by decide +kernel
theorem dX12_book_39 : decode cX12_book 39 = .ok (.aload_n 0, 1) := by decide +kernel
theorem dX12_book_40 : decode cX12_book 40 = .ok (.iload_n 1, 1) := by decide +kernel
theorem dX12_book_41 : decode cX12_book 41 = .ok (.iload_n 2, 1) := by decide +kernel
theorem dX12_book_42 : decode cX12_book 42 = .ok (.invokevirtual 402, 3) := by decide +kernel
theorem dX12_book_45 : decode cX12_book 45 = .ok (.goto 5, 3) := by decide +kernel
theorem dX12_book_48 : decode cX12_book 48 = .ok (.bipush (-2), 2) := by decide +kernel
theorem dX12_book_50 : decode cX12_book 50 = .ok (.ireturn, 1) := by decide +kernel
theorem dX12_ledger_0 : decode cX12_ledger 0 = .ok (.iconst 0, 1) := by decide +kernel
theorem dX12_ledger_1 : decode cX12_ledger 1 = .ok (.istore_n 2, 1) := by decide +kernel
theorem dX12_ledger_2 : decode cX12_ledger 2 = .ok (.iconst 0, 1) := by decide +kernel
theorem dX12_ledger_3 : decode cX12_ledger 3 = .ok (.istore_n 3, 1) := by decide +kernel
theorem dX12_ledger_4 : decode cX12_ledger 4 = .ok (.iload_n 3, 1) := by decide +kernel
theorem dX12_ledger_5 : decode cX12_ledger 5 = .ok (.aload_n 0, 1) := by decide +kernel
theorem dX12_ledger_6 : decode cX12_ledger 6 = .ok (.getfield 7, 3) := by decide +kernel
theorem dX12_ledger_9 : decode cX12_ledger 9 = .ok (.bipush 8, 2) := by decide +kernel
theorem dX12_ledger_11 : decode cX12_ledger 11 = .ok (.iaload, 1) := by decide +kernel
theorem dX12_ledger_12 : decode cX12_ledger 12 = .ok (.if_icmp .ge 36, 3) := by decide +kernel
theorem dX12_ledger_15 : decode cX12_ledger 15 = .ok (.iload_n 2, 1) := by decide +kernel
theorem dX12_ledger_16 : decode cX12_ledger 16 = .ok (.aload_n 0, 1) := by decide +kernel
theorem dX12_ledger_17 : decode cX12_ledger 17 = .ok (.iload_n 3, 1) := by decide +kernel
theorem dX12_ledger_18 : decode cX12_ledger 18 = .ok (.iconst 3, 1) := by decide +kernel
theorem dX12_ledger_19 : decode cX12_ledger 19 = .ok (.invokevirtual 402, 3) := by decide +kernel
theorem dX12_ledger_22 : decode cX12_ledger 22 = .ok (.iconst 1, 1) := by decide +kernel
theorem dX12_ledger_23 : decode cX12_ledger 23 = .ok (.if_icmp .ne 7, 3) := by decide +kernel
theorem dX12_ledger_26 : decode cX12_ledger 26 = .ok (.iconst 1, 1) := by decide +kernel
theorem dX12_ledger_27 : decode cX12_ledger 27 = .ok (.goto 4, 3) := by decide +kernel
theorem dX12_ledger_30 : decode cX12_ledger 30 = .ok (.iconst 0, 1) := by decide +kernel
theorem dX12_ledger_31 : decode cX12_ledger 31 = .ok (.iload_n 1, 1) := by decide +kernel
theorem dX12_ledger_32 : decode cX12_ledger 32 = .ok (.if_icmp .ne 7, 3) := by decide +kernel
theorem dX12_ledger_35 : decode cX12_ledger 35 = .ok (.iconst 1, 1) := by decide +kernel
theorem dX12_ledger_36 : decode cX12_ledger 36 = .ok (.goto 4, 3) := by decide +kernel
theorem dX12_ledger_39 : decode cX12_ledger 39 = .ok (.iconst 0, 1) := by decide +kernel
theorem dX12_ledger_40 : decode cX12_ledger 40 = .ok (.iadd, 1) := by decide +kernel
theorem dX12_ledger_41 : decode cX12_ledger 41 = .ok (.istore_n 2, 1) := by decide +kernel
theorem dX12_ledger_42 : decode cX12_ledger 42 = .ok (.iinc 3 1, 3) := by decide +kernel
theorem dX12_ledger_45 : decode cX12_ledger 45 = .ok (.goto (-41), 3) := by decide +kernel
theorem dX12_ledger_48 : decode cX12_ledger 48 = .ok (.iload_n 2, 1) := by decide +kernel
theorem dX12_ledger_49 : decode cX12_ledger 49 = .ok (.ireturn, 1) := by decide +kernel
theorem dX12_saddest_0 : decode cX12_saddest 0 = .ok (.iconst (-1), 1) := by decide +kernel
theorem dX12_saddest_1 : decode cX12_saddest 1 = .ok (.istore_n 1, 1) := by decide +kernel
theorem dX12_saddest_2 : decode cX12_saddest 2 = .ok (.iconst 0, 1) := by decide +kernel
theorem dX12_saddest_3 : decode cX12_saddest 3 = .ok (.istore_n 2, 1) := by decide +kernel
theorem dX12_saddest_4 : decode cX12_saddest 4 = .ok (.iload_n 2, 1) := by decide +kernel
theorem dX12_saddest_5 : decode cX12_saddest 5 = .ok (.aload_n 0, 1) := by decide +kernel
theorem dX12_saddest_6 : decode cX12_saddest 6 = .ok (.getfield 7, 3) := by decide +kernel
theorem dX12_saddest_9 : decode cX12_saddest 9 = .ok (.iconst 0, 1) := by decide +kernel
theorem dX12_saddest_10 : decode cX12_saddest 10 = .ok (.iaload, 1) := by decide +kernel
theorem dX12_saddest_11 : decode cX12_saddest 11 = .ok (.if_icmp .ge 35, 3) := by decide +kernel
theorem dX12_saddest_14 : decode cX12_saddest 14 = .ok (.aload_n 0, 1) := by decide +kernel
theorem dX12_saddest_15 : decode cX12_saddest 15 = .ok (.iload_n 2, 1) := by decide +kernel
theorem dX12_saddest_16 : decode cX12_saddest 16 = .ok (.iconst 2, 1) := by decide +kernel
theorem dX12_saddest_17 : decode cX12_saddest 17 = .ok (.invokevirtual 92, 3) := by decide +kernel
theorem dX12_saddest_20 : decode cX12_saddest 20 = .ok (.iload_n 1, 1) := by decide +kernel
theorem dX12_saddest_21 : decode cX12_saddest 21 = .ok (.iconst (-1), 1) := by decide +kernel
theorem dX12_saddest_22 : decode cX12_saddest 22 = .ok (.if_icmp .ne 7, 3) := by decide +kernel
theorem dX12_saddest_25 : decode cX12_saddest 25 = .ok (.iconst 0, 1) := by decide +kernel
theorem dX12_saddest_26 : decode cX12_saddest 26 = .ok (.goto 9, 3) := by decide +kernel
theorem dX12_saddest_29 : decode cX12_saddest 29 = .ok (.aload_n 0, 1) := by decide +kernel
theorem dX12_saddest_30 : decode cX12_saddest 30 = .ok (.iload_n 1, 1) := by decide +kernel
theorem dX12_saddest_31 : decode cX12_saddest 31 = .ok (.iconst 2, 1) := by decide +kernel
theorem dX12_saddest_32 : decode cX12_saddest 32 = .ok (.invokevirtual 92, 3) := by decide +kernel
theorem dX12_saddest_35 : decode cX12_saddest 35 = .ok (.if_icmp .le 5, 3) := by decide +kernel
theorem dX12_saddest_38 : decode cX12_saddest 38 = .ok (.iload_n 2, 1) := by decide +kernel
theorem dX12_saddest_39 : decode cX12_saddest 39 = .ok (.istore_n 1, 1) := by decide +kernel
theorem dX12_saddest_40 : decode cX12_saddest 40 = .ok (.iinc 2 1, 3) := by decide +kernel
theorem dX12_saddest_43 : decode cX12_saddest 43 = .ok (.goto (-39), 3) := by decide +kernel
theorem dX12_saddest_46 : decode cX12_saddest 46 = .ok (.iload_n 1, 1) := by decide +kernel
theorem dX12_saddest_47 : decode cX12_saddest 47 = .ok (.ireturn, 1) := by decide +kernel
theorem dX12_setAside_0 : decode cX12_setAside 0 = .ok (.iconst 5, 1) := by decide +kernel
theorem dX12_setAside_1 : decode cX12_setAside 1 = .ok (.istore_n 1, 1) := by decide +kernel
theorem dX12_setAside_2 : decode cX12_setAside 2 = .ok (.iload_n 1, 1) := by decide +kernel
theorem dX12_setAside_3 : decode cX12_setAside 3 = .ok (.bipush 49, 2) := by decide +kernel
theorem dX12_setAside_5 : decode cX12_setAside 5 = .ok (.if_icmp .ge 21, 3) := by decide +kernel
theorem dX12_setAside_8 : decode cX12_setAside 8 = .ok (.aload_n 0, 1) := by decide +kernel
theorem dX12_setAside_9 : decode cX12_setAside 9 = .ok (.getfield 53, 3) := by decide +kernel
theorem dX12_setAside_12 : decode cX12_setAside 12 = .ok (.iload_n 1, 1) := by decide +kernel
theorem dX12_setAside_13 : decode cX12_setAside 13 = .ok (.aload_n 0, 1) := by decide +kernel
theorem dX12_setAside_14 : decode cX12_setAside 14 = .ok (.getfield 7, 3) := by decide +kernel
theorem dX12_setAside_17 : decode cX12_setAside 17 = .ok (.iload_n 1, 1) := by decide +kernel
theorem dX12_setAside_18 : decode cX12_setAside 18 = .ok (.iaload, 1) := by decide +kernel
theorem dX12_setAside_19 : decode cX12_setAside 19 = .ok (.iastore, 1) := by decide +kernel
theorem dX12_setAside_20 : decode cX12_setAside 20 = .ok (.iinc 1 1, 3) := by decide +kernel
theorem dX12_setAside_23 : decode cX12_setAside 23 = .ok (.goto (-21), 3) := by decide +kernel
theorem dX12_setAside_26 : decode cX12_setAside 26 = .ok (.aload_n 0, 1) := by decide +kernel
theorem dX12_setAside_27 : decode cX12_setAside 27 = .ok (.iconst 0, 1) := by decide +kernel
theorem dX12_setAside_28 : decode cX12_setAside 28 = .ok (.putfield 49, 3) := by decide +kernel
theorem dX12_setAside_31 : decode cX12_setAside 31 = .ok (.return_, 1) := by decide +kernel
theorem dX12_putBack_0 : decode cX12_putBack 0 = .ok (.iconst 5, 1) := by decide +kernel
theorem dX12_putBack_1 : decode cX12_putBack 1 = .ok (.istore_n 1, 1) := by decide +kernel
theorem dX12_putBack_2 : decode cX12_putBack 2 = .ok (.iload_n 1, 1) := by decide +kernel
theorem dX12_putBack_3 : decode cX12_putBack 3 = .ok (.bipush 49, 2) := by decide +kernel
theorem dX12_putBack_5 : decode cX12_putBack 5 = .ok (.if_icmp .ge 21, 3) := by decide +kernel
theorem dX12_putBack_8 : decode cX12_putBack 8 = .ok (.aload_n 0, 1) := by decide +kernel
theorem dX12_putBack_9 : decode cX12_putBack 9 = .ok (.getfield 7, 3) := by decide +kernel
theorem dX12_putBack_12 : decode cX12_putBack 12 = .ok (.iload_n 1, 1) := by decide +kernel
theorem dX12_putBack_13 : decode cX12_putBack 13 = .ok (.aload_n 0, 1) := by decide +kernel
theorem dX12_putBack_14 : decode cX12_putBack 14 = .ok (.getfield 53, 3) := by decide +kernel
theorem dX12_putBack_17 : decode cX12_putBack 17 = .ok (.iload_n 1, 1) := by decide +kernel
theorem dX12_putBack_18 : decode cX12_putBack 18 = .ok (.iaload, 1) := by decide +kernel
theorem dX12_putBack_19 : decode cX12_putBack 19 = .ok (.iastore, 1) := by decide +kernel
theorem dX12_putBack_20 : decode cX12_putBack 20 = .ok (.iinc 1 1, 3) := by decide +kernel
theorem dX12_putBack_23 : decode cX12_putBack 23 = .ok (.goto (-21), 3) := by decide +kernel
theorem dX12_putBack_26 : decode cX12_putBack 26 = .ok (.aload_n 0, 1) := by decide +kernel
theorem dX12_putBack_27 : decode cX12_putBack 27 = .ok (.iconst 1, 1) := by decide +kernel
theorem dX12_putBack_28 : decode cX12_putBack 28 = .ok (.putfield 49, 3) := by decide +kernel
theorem dX12_putBack_31 : decode cX12_putBack 31 = .ok (.return_, 1) := by decide +kernel
theorem dX12_foretold_0 : decode cX12_foretold 0 = .ok (.iload_n 1, 1) := by decide +kernel
theorem dX12_foretold_1 : decode cX12_foretold 1 = .ok (.iconst 1, 1) := by decide +kernel
theorem dX12_foretold_2 : decode cX12_foretold 2 = .ok (.bipush 60, 2) := by decide +kernel
theorem dX12_foretold_4 : decode cX12_foretold 4 = .ok (.invokestatic 84, 3) := by decide +kernel
theorem dX12_foretold_7 : decode cX12_foretold 7 = .ok (.ifCond .eq 20, 3) := by decide +kernel
theorem dX12_foretold_10 : decode cX12_foretold 10 = .ok (.aload_n 0, 1) := by decide +kernel
theorem dX12_foretold_11 : decode cX12_foretold 11 = .ok (.iload_n 2, 1) := by decide +kernel
theorem dX12_foretold_12 : decode cX12_foretold 12 = .ok (.invokevirtual 88, 3) := by decide +kernel
theorem dX12_foretold_15 : decode cX12_foretold 15 = .ok (.ifCond .eq 12, 3) := by decide +kernel
theorem dX12_foretold_18 : decode cX12_foretold 18 = .ok (.iload_n 3, 1) := by decide +kernel
theorem dX12_foretold_19 : decode cX12_foretold 19 = .ok (.iconst 0, 1) := by decide +kernel
theorem dX12_foretold_20 : decode cX12_foretold 20 = .ok (.iconst 2, 1) := by decide +kernel
theorem dX12_foretold_21 : decode cX12_foretold 21 = .ok (.invokestatic 84, 3) := by decide +kernel
theorem dX12_foretold_24 : decode cX12_foretold 24 = .ok (.ifCond .ne 5, 3) := by decide +kernel
theorem dX12_foretold_27 : decode cX12_foretold 27 = .ok (.iconst (-1), 1) := by decide +kernel
theorem dX12_foretold_28 : decode cX12_foretold 28 = .ok (.ireturn, 1) := by decide +kernel
theorem dX12_foretold_29 : decode cX12_foretold 29 = .ok (.aload_n 0, 1) := by decide +kernel
theorem dX12_foretold_30 : decode cX12_foretold 30 = .ok (.invokevirtual 405, 3) := by decide +kernel
theorem dX12_foretold_33 : decode cX12_foretold 33 = .ok (.iconst 0, 1) := by decide +kernel
theorem dX12_foretold_34 : decode cX12_foretold 34 = .ok (.istore 4, 2) := by decide +kernel
theorem dX12_foretold_36 : decode cX12_foretold 36 = .ok (.iload 4, 2) := by decide +kernel
theorem dX12_foretold_38 : decode cX12_foretold 38 = .ok (.iload_n 1, 1) := by decide +kernel
theorem dX12_foretold_39 : decode cX12_foretold 39 = .ok (.if_icmp .ge 25, 3) := by decide +kernel
theorem dX12_foretold_42 : decode cX12_foretold 42 = .ok (.aload_n 0, 1) := by decide +kernel
theorem dX12_foretold_43 : decode cX12_foretold 43 = .ok (.getfield 7, 3) := by decide +kernel
theorem dX12_foretold_46 : decode cX12_foretold 46 = .ok (.iconst 5, 1) := by decide +kernel
theorem dX12_foretold_47 : decode cX12_foretold 47 = .ok (.iaload, 1) := by decide +kernel
theorem dX12_foretold_48 : decode cX12_foretold 48 = .ok (.sipush 9999, 3) := by decide +kernel
theorem dX12_foretold_51 : decode cX12_foretold 51 = .ok (.if_icmp .ge 7, 3) := by decide +kernel
theorem dX12_foretold_54 : decode cX12_foretold 54 = .ok (.aload_n 0, 1) := by decide +kernel
theorem dX12_foretold_55 : decode cX12_foretold 55 = .ok (.invokevirtual 368, 3) := by decide +kernel
theorem dX12_foretold_58 : decode cX12_foretold 58 = .ok (.iinc 4 1, 3) := by decide +kernel
theorem dX12_foretold_61 : decode cX12_foretold 61 = .ok (.goto (-25), 3) := by decide +kernel
theorem dX12_foretold_64 : decode cX12_foretold 64 = .ok (.aload_n 0, 1) := by decide +kernel
theorem dX12_foretold_65 : decode cX12_foretold 65 = .ok (.iload_n 2, 1) := by decide +kernel
theorem dX12_foretold_66 : decode cX12_foretold 66 = .ok (.iload_n 3, 1) := by decide +kernel
theorem dX12_foretold_67 : decode cX12_foretold 67 = .ok (.invokevirtual 92, 3) := by decide +kernel
theorem dX12_foretold_70 : decode cX12_foretold 70 = .ok (.istore 4, 2) := by decide +kernel
theorem dX12_foretold_72 : decode cX12_foretold 72 = .ok (.aload_n 0, 1) := by decide +kernel
theorem dX12_foretold_73 : decode cX12_foretold 73 = .ok (.invokevirtual 408, 3) := by decide +kernel
theorem dX12_foretold_76 : decode cX12_foretold 76 = .ok (.iload 4, 2) := by decide +kernel
theorem dX12_foretold_78 : decode cX12_foretold 78 = .ok (.ireturn, 1) := by decide +kernel
theorem dX12_bottom_0 : decode cX12_bottom 0 = .ok (.aload_n 0, 1) := by decide +kernel
theorem dX12_bottom_1 : decode cX12_bottom 1 = .ok (.iload_n 1, 1) := by decide +kernel
theorem dX12_bottom_2 : decode cX12_bottom 2 = .ok (.invokevirtual 347, 3) := by decide +kernel
theorem dX12_bottom_5 : decode cX12_bottom 5 = .ok (.ifCond .ne 5, 3) := by decide +kernel
theorem dX12_bottom_8 : decode cX12_bottom 8 = .ok (.iconst (-1), 1) := by decide +kernel
theorem dX12_bottom_9 : decode cX12_bottom 9 = .ok (.ireturn, 1) := by decide +kernel
theorem dX12_bottom_10 : decode cX12_bottom 10 = .ok (.aload_n 0, 1) := by decide +kernel
theorem dX12_bottom_11 : decode cX12_bottom 11 = .ok (.invokevirtual 405, 3) := by decide +kernel
theorem dX12_bottom_14 : decode cX12_bottom 14 = .ok (.aload_n 0, 1) := by decide +kernel
theorem dX12_bottom_15 : decode cX12_bottom 15 = .ok (.iload_n 1, 1) := by decide +kernel
theorem dX12_bottom_16 : decode cX12_bottom 16 = .ok (.invokevirtual 347, 3) := by decide +kernel
theorem dX12_bottom_19 : decode cX12_bottom 19 = .ok (.ifCond .eq 11, 3) := by decide +kernel
theorem dX12_bottom_22 : decode cX12_bottom 22 = .ok (.aload_n 0, 1) := by decide +kernel
theorem dX12_bottom_23 : decode cX12_bottom 23 = .ok (.iload_n 1, 1) := by decide +kernel
theorem dX12_bottom_24 : decode cX12_bottom 24 = .ok (.invokevirtual 353, 3) := by decide +kernel
theorem dX12_bottom_27 : decode cX12_bottom 27 = .ok (.goto (-13), 3) := by decide +kernel
theorem dX12_bottom_30 : decode cX12_bottom 30 = .ok (.aload_n 0, 1) := by decide +kernel
theorem dX12_bottom_31 : decode cX12_bottom 31 = .ok (.iload_n 1, 1) := by decide +kernel
theorem dX12_bottom_32 : decode cX12_bottom 32 = .ok (.iconst 0, 1) := by decide +kernel
theorem dX12_bottom_33 : decode cX12_bottom 33 = .ok (.invokevirtual 92, 3) := by decide +kernel
theorem dX12_bottom_36 : decode cX12_bottom 36 = .ok (.istore_n 2, 1) := by decide +kernel
theorem dX12_bottom_37 : decode cX12_bottom 37 = .ok (.aload_n 0, 1) := by decide +kernel
theorem dX12_bottom_38 : decode cX12_bottom 38 = .ok (.invokevirtual 408, 3) := by decide +kernel
theorem dX12_bottom_41 : decode cX12_bottom 41 = .ok (.iload_n 2, 1) := by decide +kernel
theorem dX12_bottom_42 : decode cX12_bottom 42 = .ok (.ireturn, 1) := by decide +kernel
theorem dX12_layWays_0 : decode cX12_layWays 0 = .ok (.bipush 11, 2) := by decide +kernel
theorem dX12_layWays_2 : decode cX12_layWays 2 = .ok (.istore_n 3, 1) := by decide +kernel
theorem dX12_layWays_3 : decode cX12_layWays 3 = .ok (.iload_n 3, 1) := by decide +kernel
theorem dX12_layWays_4 : decode cX12_layWays 4 = .ok (.ifCond .lt 96, 3) := by decide +kernel
theorem dX12_layWays_7 : decode cX12_layWays 7 = .ok (.aload_n 0, 1) := by decide +kernel
theorem dX12_layWays_8 : decode cX12_layWays 8 = .ok (.getfield 56, 3) := by decide +kernel
theorem dX12_layWays_11 : decode cX12_layWays 11 = .ok (.iload_n 3, 1) := by decide +kernel
theorem dX12_layWays_12 : decode cX12_layWays 12 = .ok (.iload_n 3, 1) := by decide +kernel
theorem dX12_layWays_13 : decode cX12_layWays 13 = .ok (.iload_n 1, 1) := by decide +kernel
theorem dX12_layWays_14 : decode cX12_layWays 14 = .ok (.if_icmp .ne 7, 3) := by decide +kernel
theorem dX12_layWays_17 : decode cX12_layWays 17 = .ok (.lconst 1, 1) := by decide +kernel
theorem dX12_layWays_18 : decode cX12_layWays 18 = .ok (.goto 4, 3) := by decide +kernel
theorem dX12_layWays_21 : decode cX12_layWays 21 = .ok (.lconst 0, 1) := by decide +kernel
theorem dX12_layWays_22 : decode cX12_layWays 22 = .ok (.lastore, 1) := by decide +kernel
theorem dX12_layWays_23 : decode cX12_layWays 23 = .ok (.iload_n 3, 1) := by decide +kernel
theorem dX12_layWays_24 : decode cX12_layWays 24 = .ok (.iconst 1, 1) := by decide +kernel
theorem dX12_layWays_25 : decode cX12_layWays 25 = .ok (.iadd, 1) := by decide +kernel
theorem dX12_layWays_26 : decode cX12_layWays 26 = .ok (.istore 4, 2) := by decide +kernel
theorem dX12_layWays_28 : decode cX12_layWays 28 = .ok (.iload 4, 2) := by decide +kernel
theorem dX12_layWays_30 : decode cX12_layWays 30 = .ok (.bipush 12, 2) := by decide +kernel
theorem dX12_layWays_32 : decode cX12_layWays 32 = .ok (.if_icmp .ge 47, 3) := by decide +kernel
theorem dX12_layWays_35 : decode cX12_layWays 35 = .ok (.iload_n 3, 1) := by decide +kernel
theorem dX12_layWays_36 : decode cX12_layWays 36 = .ok (.iload_n 1, 1) := by decide +kernel
theorem dX12_layWays_37 : decode cX12_layWays 37 = .ok (.if_icmp .eq 42, 3) := by decide +kernel
theorem dX12_layWays_40 : decode cX12_layWays 40 = .ok (.aload_n 0, 1) := by decide +kernel
theorem dX12_layWays_41 : decode cX12_layWays 41 = .ok (.getfield 7, 3) := by decide +kernel
theorem dX12_layWays_44 : decode cX12_layWays 44 = .ok (.bipush 61, 2) := by decide +kernel
theorem dX12_layWays_46 : decode cX12_layWays 46 = .ok (.iload_n 3, 1) := by decide +kernel
theorem dX12_layWays_47 : decode cX12_layWays 47 = .ok (.iadd, 1) := by decide +kernel
theorem dX12_layWays_48 : decode cX12_layWays 48 = .ok (.iaload, 1) := by decide +kernel
theorem dX12_layWays_49 : decode cX12_layWays 49 = .ok (.iload 4, 2) := by decide +kernel
theorem dX12_layWays_51 : decode cX12_layWays 51 = .ok (.invokestatic 96, 3) := by decide +kernel
theorem dX12_layWays_54 : decode cX12_layWays 54 = .ok (.ifCond .eq 19, 3) := by decide +kernel
theorem dX12_layWays_57 : decode cX12_layWays 57 = .ok (.aload_n 0, 1) := by decide +kernel
theorem dX12_layWays_58 : decode cX12_layWays 58 = .ok (.getfield 56, 3) := by decide +kernel
theorem dX12_layWays_61 : decode cX12_layWays 61 = .ok (.iload_n 3, 1) := by decide +kernel
theorem dX12_layWays_62 : decode cX12_layWays 62 = .ok (.dup2, 1) := by decide +kernel
theorem dX12_layWays_63 : decode cX12_layWays 63 = .ok (.laload, 1) := by decide +kernel
theorem dX12_layWays_64 : decode cX12_layWays 64 = .ok (.aload_n 0, 1) := by decide +kernel
theorem dX12_layWays_65 : decode cX12_layWays 65 = .ok (.getfield 56, 3) := by decide +kernel
theorem dX12_layWays_68 : decode cX12_layWays 68 = .ok (.iload 4, 2) := by decide +kernel
theorem dX12_layWays_70 : decode cX12_layWays 70 = .ok (.laload, 1) := by decide +kernel
theorem dX12_layWays_71 : decode cX12_layWays 71 = .ok (.ladd, 1) := by decide +kernel
theorem dX12_layWays_72 : decode cX12_layWays 72 = .ok (.lastore, 1) := by decide +kernel
theorem dX12_layWays_73 : decode cX12_layWays 73 = .ok (.iinc 4 1, 3) := by decide +kernel
theorem dX12_layWays_76 : decode cX12_layWays 76 = .ok (.goto (-48), 3) := by decide +kernel
theorem dX12_layWays_79 : decode cX12_layWays 79 = .ok (.iload_n 2, 1) := by decide +kernel
theorem dX12_layWays_80 : decode cX12_layWays 80 = .ok (.iload_n 3, 1) := by decide +kernel
theorem dX12_layWays_81 : decode cX12_layWays 81 = .ok (.invokestatic 96, 3) := by decide +kernel
theorem dX12_layWays_84 : decode cX12_layWays 84 = .ok (.ifCond .eq 10, 3) := by decide +kernel
theorem dX12_layWays_87 : decode cX12_layWays 87 = .ok (.aload_n 0, 1) := by decide +kernel
theorem dX12_layWays_88 : decode cX12_layWays 88 = .ok (.getfield 56, 3) := by decide +kernel
theorem dX12_layWays_91 : decode cX12_layWays 91 = .ok (.iload_n 3, 1) := by decide +kernel
theorem dX12_layWays_92 : decode cX12_layWays 92 = .ok (.lconst 0, 1) := by decide +kernel
theorem dX12_layWays_93 : decode cX12_layWays 93 = .ok (.lastore, 1) := by decide +kernel
theorem dX12_layWays_94 : decode cX12_layWays 94 = .ok (.iinc 3 (-1), 3) := by decide +kernel
theorem dX12_layWays_97 : decode cX12_layWays 97 = .ok (.goto (-94), 3) := by decide +kernel
theorem dX12_layWays_100 : decode cX12_layWays 100 = .ok (.return_, 1) := by decide +kernel
theorem dX12_ways_0 : decode cX12_ways 0 = .ok (.iload_n 1, 1) := by decide +kernel
theorem dX12_ways_1 : decode cX12_ways 1 = .ok (.invokestatic 100, 3) := by decide +kernel
theorem dX12_ways_4 : decode cX12_ways 4 = .ok (.ifCond .eq 10, 3) := by decide +kernel
theorem dX12_ways_7 : decode cX12_ways 7 = .ok (.iload_n 2, 1) := by decide +kernel
theorem dX12_ways_8 : decode cX12_ways 8 = .ok (.invokestatic 100, 3) := by decide +kernel
theorem dX12_ways_11 : decode cX12_ways 11 = .ok (.ifCond .ne 7, 3) := by decide +kernel
theorem dX12_ways_14 : decode cX12_ways 14 = .ok (.ldc2_w 411, 3) := by decide +kernel
theorem dX12_ways_17 : decode cX12_ways 17 = .ok (.lreturn, 1) := by decide +kernel
theorem dX12_ways_18 : decode cX12_ways 18 = .ok (.aload_n 0, 1) := by decide +kernel
theorem dX12_ways_19 : decode cX12_ways 19 = .ok (.iload_n 2, 1) := by decide +kernel
theorem dX12_ways_20 : decode cX12_ways 20 = .ok (.iconst 0, 1) := by decide +kernel
theorem dX12_ways_21 : decode cX12_ways 21 = .ok (.invokevirtual 413, 3) := by decide +kernel
theorem dX12_ways_24 : decode cX12_ways 24 = .ok (.aload_n 0, 1) := by decide +kernel
theorem dX12_ways_25 : decode cX12_ways 25 = .ok (.getfield 56, 3) := by decide +kernel
theorem dX12_ways_28 : decode cX12_ways 28 = .ok (.iload_n 1, 1) := by decide +kernel
theorem dX12_ways_29 : decode cX12_ways 29 = .ok (.laload, 1) := by decide +kernel
theorem dX12_ways_30 : decode cX12_ways 30 = .ok (.lreturn, 1) := by decide +kernel
theorem dX12_isLeading_0 : decode cX12_isLeading 0 = .ok (.aload_n 0, 1) := by decide +kernel
theorem dX12_isLeading_1 : decode cX12_isLeading 1 = .ok (.iload_n 2, 1) := by decide +kernel
theorem dX12_isLeading_2 : decode cX12_isLeading 2 = .ok (.iload_n 3, 1) := by decide +kernel
theorem dX12_isLeading_3 : decode cX12_isLeading 3 = .ok (.invokevirtual 413, 3) := by decide +kernel
theorem dX12_isLeading_6 : decode cX12_isLeading 6 = .ok (.aload_n 0, 1) := by decide +kernel
theorem dX12_isLeading_7 : decode cX12_isLeading 7 = .ok (.getfield 56, 3) := by decide +kernel
theorem dX12_isLeading_10 : decode cX12_isLeading 10 = .ok (.iload_n 1, 1) := by decide +kernel
theorem dX12_isLeading_11 : decode cX12_isLeading 11 = .ok (.laload, 1) := by decide +kernel
theorem dX12_isLeading_12 : decode cX12_isLeading 12 = .ok (.lconst 0, 1) := by decide +kernel
theorem dX12_isLeading_13 : decode cX12_isLeading 13 = .ok (.lcmp, 1) := by decide +kernel
theorem dX12_isLeading_14 : decode cX12_isLeading 14 = .ok (.ifCond .le 7, 3) := by decide +kernel
theorem dX12_isLeading_17 : decode cX12_isLeading 17 = .ok (.iconst 1, 1) := by decide +kernel
theorem dX12_isLeading_18 : decode cX12_isLeading 18 = .ok (.goto 4, 3) := by decide +kernel
theorem dX12_isLeading_21 : decode cX12_isLeading 21 = .ok (.iconst 0, 1) := by decide +kernel
theorem dX12_isLeading_22 : decode cX12_isLeading 22 = .ok (.ireturn, 1) := by decide +kernel
theorem dX12_must_0 : decode cX12_must 0 = .ok (.iload_n 1, 1) := by decide +kernel
theorem dX12_must_1 : decode cX12_must 1 = .ok (.invokestatic 100, 3) := by decide +kernel
theorem dX12_must_4 : decode cX12_must 4 = .ok (.ifCond .eq 20, 3) := by decide +kernel
theorem dX12_must_7 : decode cX12_must 7 = .ok (.iload_n 2, 1) := by decide +kernel
theorem dX12_must_8 : decode cX12_must 8 = .ok (.invokestatic 100, 3) := by decide +kernel
theorem dX12_must_11 : decode cX12_must 11 = .ok (.ifCond .eq 13, 3) := by decide +kernel
theorem dX12_must_14 : decode cX12_must 14 = .ok (.aload_n 0, 1) := by decide +kernel
theorem dX12_must_15 : decode cX12_must 15 = .ok (.iload_n 1, 1) := by decide +kernel
theorem dX12_must_16 : decode cX12_must 16 = .ok (.iload_n 2, 1) := by decide +kernel
theorem dX12_must_17 : decode cX12_must 17 = .ok (.iconst 0, 1) := by decide +kernel
theorem dX12_must_18 : decode cX12_must 18 = .ok (.invokevirtual 416, 3) := by decide +kernel
theorem dX12_must_21 : decode cX12_must 21 = .ok (.ifCond .ne 5, 3) := by decide +kernel
theorem dX12_must_24 : decode cX12_must 24 = .ok (.iconst (-1), 1) := by decide +kernel
theorem dX12_must_25 : decode cX12_must 25 = .ok (.ireturn, 1) := by decide +kernel
theorem dX12_must_26 : decode cX12_must 26 = .ok (.iconst 0, 1) := by decide +kernel
theorem dX12_must_27 : decode cX12_must 27 = .ok (.istore_n 3, 1) := by decide +kernel
theorem dX12_must_28 : decode cX12_must 28 = .ok (.iconst 0, 1) := by decide +kernel
theorem dX12_must_29 : decode cX12_must 29 = .ok (.istore 4, 2) := by decide +kernel
theorem dX12_must_31 : decode cX12_must 31 = .ok (.iload 4, 2) := by decide +kernel
theorem dX12_must_33 : decode cX12_must 33 = .ok (.bipush 12, 2) := by decide +kernel
theorem dX12_must_35 : decode cX12_must 35 = .ok (.if_icmp .ge 33, 3) := by decide +kernel
theorem dX12_must_38 : decode cX12_must 38 = .ok (.iload_n 3, 1) := by decide +kernel
theorem dX12_must_39 : decode cX12_must 39 = .ok (.aload_n 0, 1) := by decide +kernel
theorem dX12_must_40 : decode cX12_must 40 = .ok (.iload_n 1, 1) := by decide +kernel
theorem dX12_must_41 : decode cX12_must 41 = .ok (.iload_n 2, 1) := by decide +kernel
theorem dX12_must_42 : decode cX12_must 42 = .ok (.iconst 1, 1) := by decide +kernel
theorem dX12_must_43 : decode cX12_must 43 = .ok (.iload 4, 2) := by decide +kernel
theorem dX12_must_45 : decode cX12_must 45 = .ok (.ishl, 1) := by decide +kernel
theorem dX12_must_46 : decode cX12_must 46 = .ok (.invokevirtual 416, 3) := by decide +kernel
theorem dX12_must_49 : decode cX12_must 49 = .ok (.ifCond .eq 7, 3) := by decide +kernel
theorem dX12_must_52 : decode cX12_must 52 = .ok (.iconst 0, 1) := by decide +kernel
theorem dX12_must_53 : decode cX12_must 53 = .ok (.goto 7, 3) := by decide +kernel
theorem dX12_must_56 : decode cX12_must 56 = .ok (.iconst 1, 1) := by decide +kernel
theorem dX12_must_57 : decode cX12_must 57 = .ok (.iload 4, 2) := by decide +kernel
theorem dX12_must_59 : decode cX12_must 59 = .ok (.ishl, 1) := by decide +kernel
theorem dX12_must_60 : decode cX12_must 60 = .ok (.ior, 1) := by decide +kernel
theorem dX12_must_61 : decode cX12_must 61 = .ok (.istore_n 3, 1) := by decide +kernel
theorem dX12_must_62 : decode cX12_must 62 = .ok (.iinc 4 1, 3) := by decide +kernel
theorem dX12_must_65 : decode cX12_must 65 = .ok (.goto (-34), 3) := by decide +kernel
theorem dX12_must_68 : decode cX12_must 68 = .ok (.iload_n 3, 1) := by decide +kernel
theorem dX12_must_69 : decode cX12_must 69 = .ok (.ireturn, 1) := by decide +kernel
theorem dX12_between_0 : decode cX12_between 0 = .ok (.iload_n 1, 1) := by decide +kernel
theorem dX12_between_1 : decode cX12_between 1 = .ok (.invokestatic 100, 3) := by decide +kernel
theorem dX12_between_4 : decode cX12_between 4 = .ok (.ifCond .eq 10, 3) := by decide +kernel
theorem dX12_between_7 : decode cX12_between 7 = .ok (.iload_n 2, 1) := by decide +kernel
theorem dX12_between_8 : decode cX12_between 8 = .ok (.invokestatic 100, 3) := by decide +kernel
theorem dX12_between_11 : decode cX12_between 11 = .ok (.ifCond .ne 5, 3) := by decide +kernel
theorem dX12_between_14 : decode cX12_between 14 = .ok (.iconst (-1), 1) := by decide +kernel
theorem dX12_between_15 : decode cX12_between 15 = .ok (.ireturn, 1) := by decide +kernel
theorem dX12_between_16 : decode cX12_between 16 = .ok (.iconst 0, 1) := by decide +kernel
theorem dX12_between_17 : decode cX12_between 17 = .ok (.istore_n 3, 1) := by decide +kernel
theorem dX12_between_18 : decode cX12_between 18 = .ok (.iconst 0, 1) := by decide +kernel
theorem dX12_between_19 : decode cX12_between 19 = .ok (.istore 4, 2) := by decide +kernel
theorem dX12_between_21 : decode cX12_between 21 = .ok (.iload 4, 2) := by decide +kernel
theorem dX12_between_23 : decode cX12_between 23 = .ok (.bipush 12, 2) := by decide +kernel
theorem dX12_between_25 : decode cX12_between 25 = .ok (.if_icmp .ge 42, 3) := by decide +kernel
theorem dX12_between_28 : decode cX12_between 28 = .ok (.iload_n 3, 1) := by decide +kernel
theorem dX12_between_29 : decode cX12_between 29 = .ok (.aload_n 0, 1) := by decide +kernel
theorem dX12_between_30 : decode cX12_between 30 = .ok (.iload_n 1, 1) := by decide +kernel
theorem dX12_between_31 : decode cX12_between 31 = .ok (.iload 4, 2) := by decide +kernel
theorem dX12_between_33 : decode cX12_between 33 = .ok (.iconst 0, 1) := by decide +kernel
theorem dX12_between_34 : decode cX12_between 34 = .ok (.invokevirtual 416, 3) := by decide +kernel
theorem dX12_between_37 : decode cX12_between 37 = .ok (.ifCond .eq 21, 3) := by decide +kernel
theorem dX12_between_40 : decode cX12_between 40 = .ok (.aload_n 0, 1) := by decide +kernel
theorem dX12_between_41 : decode cX12_between 41 = .ok (.iload 4, 2) := by decide +kernel
theorem dX12_between_43 : decode cX12_between 43 = .ok (.iload_n 2, 1) := by decide +kernel
theorem dX12_between_44 : decode cX12_between 44 = .ok (.iconst 0, 1) := by decide +kernel
theorem dX12_between_45 : decode cX12_between 45 = .ok (.invokevirtual 416, 3) := by decide +kernel
theorem dX12_between_48 : decode cX12_between 48 = .ok (.ifCond .eq 10, 3) := by decide +kernel
theorem dX12_between_51 : decode cX12_between 51 = .ok (.iconst 1, 1) := by decide +kernel
theorem dX12_between_52 : decode cX12_between 52 = .ok (.iload 4, 2) := by decide +kernel
theorem dX12_between_54 : decode cX12_between 54 = .ok (.ishl, 1) := by decide +kernel
theorem dX12_between_55 : decode cX12_between 55 = .ok (.goto 4, 3) := by decide +kernel
theorem dX12_between_58 : decode cX12_between 58 = .ok (.iconst 0, 1) := by decide +kernel
theorem dX12_between_59 : decode cX12_between 59 = .ok (.ior, 1) := by decide +kernel
theorem dX12_between_60 : decode cX12_between 60 = .ok (.istore_n 3, 1) := by decide +kernel
theorem dX12_between_61 : decode cX12_between 61 = .ok (.iinc 4 1, 3) := by decide +kernel
theorem dX12_between_64 : decode cX12_between 64 = .ok (.goto (-43), 3) := by decide +kernel
theorem dX12_between_67 : decode cX12_between 67 = .ok (.iload_n 3, 1) := by decide +kernel
theorem dX12_between_68 : decode cX12_between 68 = .ok (.ireturn, 1) := by decide +kernel
theorem dX12_heaviest_0 : decode cX12_heaviest 0 = .ok (.iload_n 1, 1) := by decide +kernel
theorem dX12_heaviest_1 : decode cX12_heaviest 1 = .ok (.invokestatic 100, 3) := by decide +kernel
theorem dX12_heaviest_4 : decode cX12_heaviest 4 = .ok (.ifCond .eq 10, 3) := by decide +kernel
theorem dX12_heaviest_7 : decode cX12_heaviest 7 = .ok (.iload_n 2, 1) := by decide +kernel
theorem dX12_heaviest_8 : decode cX12_heaviest 8 = .ok (.invokestatic 100, 3) := by decide +kernel
theorem dX12_heaviest_11 : decode cX12_heaviest 11 = .ok (.ifCond .ne 5, 3) := by decide +kernel
theorem dX12_heaviest_14 : decode cX12_heaviest 14 = .ok (.iconst (-1), 1) := by decide +kernel
theorem dX12_heaviest_15 : decode cX12_heaviest 15 = .ok (.ireturn, 1) := by decide +kernel
theorem dX12_heaviest_16 : decode cX12_heaviest 16 = .ok (.bipush 11, 2) := by decide +kernel
theorem dX12_heaviest_18 : decode cX12_heaviest 18 = .ok (.istore_n 3, 1) := by decide +kernel
theorem dX12_heaviest_19 : decode cX12_heaviest 19 = .ok (.iload_n 3, 1) := by decide +kernel
theorem dX12_heaviest_20 : decode cX12_heaviest 20 = .ok (.ifCond .lt 127, 3) := by decide +kernel
theorem dX12_heaviest_23 : decode cX12_heaviest 23 = .ok (.aload_n 0, 1) := by decide +kernel
theorem dX12_heaviest_24 : decode cX12_heaviest 24 = .ok (.getfield 59, 3) := by decide +kernel
theorem dX12_heaviest_27 : decode cX12_heaviest 27 = .ok (.iload_n 3, 1) := by decide +kernel
theorem dX12_heaviest_28 : decode cX12_heaviest 28 = .ok (.iload_n 3, 1) := by decide +kernel
theorem dX12_heaviest_29 : decode cX12_heaviest 29 = .ok (.iload_n 2, 1) := by decide +kernel
theorem dX12_heaviest_30 : decode cX12_heaviest 30 = .ok (.if_icmp .ne 7, 3) := by decide +kernel
theorem dX12_heaviest_33 : decode cX12_heaviest 33 = .ok (.iconst 0, 1) := by decide +kernel
theorem dX12_heaviest_34 : decode cX12_heaviest 34 = .ok (.goto 4, 3) := by decide +kernel
theorem dX12_heaviest_37 : decode cX12_heaviest 37 = .ok (.iconst (-1), 1) := by decide +kernel
theorem dX12_heaviest_38 : decode cX12_heaviest 38 = .ok (.iastore, 1) := by decide +kernel
theorem dX12_heaviest_39 : decode cX12_heaviest 39 = .ok (.iload_n 3, 1) := by decide +kernel
theorem dX12_heaviest_40 : decode cX12_heaviest 40 = .ok (.iconst 1, 1) := by decide +kernel
theorem dX12_heaviest_41 : decode cX12_heaviest 41 = .ok (.iadd, 1) := by decide +kernel
theorem dX12_heaviest_42 : decode cX12_heaviest 42 = .ok (.istore 4, 2) := by decide +kernel
theorem dX12_heaviest_44 : decode cX12_heaviest 44 = .ok (.iload 4, 2) := by decide +kernel
theorem dX12_heaviest_46 : decode cX12_heaviest 46 = .ok (.bipush 12, 2) := by decide +kernel
theorem dX12_heaviest_48 : decode cX12_heaviest 48 = .ok (.if_icmp .ge 93, 3) := by decide +kernel
theorem dX12_heaviest_51 : decode cX12_heaviest 51 = .ok (.iload_n 3, 1) := by decide +kernel
theorem dX12_heaviest_52 : decode cX12_heaviest 52 = .ok (.iload_n 2, 1) := by decide +kernel
theorem dX12_heaviest_53 : decode cX12_heaviest 53 = .ok (.if_icmp .eq 88, 3) := by decide +kernel
theorem dX12_heaviest_56 : decode cX12_heaviest 56 = .ok (.aload_n 0, 1) := by decide +kernel
theorem dX12_heaviest_57 : decode cX12_heaviest 57 = .ok (.getfield 7, 3) := by decide +kernel
theorem dX12_heaviest_60 : decode cX12_heaviest 60 = .ok (.bipush 61, 2) := by decide +kernel
theorem dX12_heaviest_62 : decode cX12_heaviest 62 = .ok (.iload_n 3, 1) := by decide +kernel
theorem dX12_heaviest_63 : decode cX12_heaviest 63 = .ok (.iadd, 1) := by decide +kernel
theorem dX12_heaviest_64 : decode cX12_heaviest 64 = .ok (.iaload, 1) := by decide +kernel
theorem dX12_heaviest_65 : decode cX12_heaviest 65 = .ok (.iload 4, 2) := by decide +kernel
theorem dX12_heaviest_67 : decode cX12_heaviest 67 = .ok (.invokestatic 96, 3) := by decide +kernel
theorem dX12_heaviest_70 : decode cX12_heaviest 70 = .ok (.ifCond .eq 65, 3) := by decide +kernel
theorem dX12_heaviest_73 : decode cX12_heaviest 73 = .ok (.aload_n 0, 1) := by decide +kernel
theorem dX12_heaviest_74 : decode cX12_heaviest 74 = .ok (.getfield 59, 3) := by decide +kernel
theorem dX12_heaviest_77 : decode cX12_heaviest 77 = .ok (.iload 4, 2) := by decide +kernel
theorem dX12_heaviest_79 : decode cX12_heaviest 79 = .ok (.iaload, 1) := by decide +kernel
theorem dX12_heaviest_80 : decode cX12_heaviest 80 = .ok (.iconst (-1), 1) := by decide +kernel
theorem dX12_heaviest_81 : decode cX12_heaviest 81 = .ok (.if_icmp .eq 54, 3) := by decide +kernel
theorem dX12_heaviest_84 : decode cX12_heaviest 84 = .ok (.aload_n 0, 1) := by decide +kernel
theorem dX12_heaviest_85 : decode cX12_heaviest 85 = .ok (.getfield 59, 3) := by decide +kernel
theorem dX12_heaviest_88 : decode cX12_heaviest 88 = .ok (.iload 4, 2) := by decide +kernel
theorem dX12_heaviest_90 : decode cX12_heaviest 90 = .ok (.iaload, 1) := by decide +kernel
theorem dX12_heaviest_91 : decode cX12_heaviest 91 = .ok (.aload_n 0, 1) := by decide +kernel
theorem dX12_heaviest_92 : decode cX12_heaviest 92 = .ok (.getfield 7, 3) := by decide +kernel
theorem dX12_heaviest_95 : decode cX12_heaviest 95 = .ok (.bipush 49, 2) := by decide +kernel
theorem dX12_heaviest_97 : decode cX12_heaviest 97 = .ok (.iload 4, 2) := by decide +kernel
theorem dX12_heaviest_99 : decode cX12_heaviest 99 = .ok (.iadd, 1) := by decide +kernel
theorem dX12_heaviest_100 : decode cX12_heaviest 100 = .ok (.iaload, 1) := by decide +kernel
theorem dX12_heaviest_101 : decode cX12_heaviest 101 = .ok (.iadd, 1) := by decide +kernel
theorem dX12_heaviest_102 : decode cX12_heaviest 102 = .ok (.aload_n 0, 1) := by decide +kernel
theorem dX12_heaviest_103 : decode cX12_heaviest 103 = .ok (.getfield 59, 3) := by decide +kernel
theorem dX12_heaviest_106 : decode cX12_heaviest 106 = .ok (.iload_n 3, 1) := by decide +kernel
theorem dX12_heaviest_107 : decode cX12_heaviest 107 = .ok (.iaload, 1) := by decide +kernel
theorem dX12_heaviest_108 : decode cX12_heaviest 108 = .ok (.if_icmp .le 27, 3) := by decide +kernel
theorem dX12_heaviest_111 : decode cX12_heaviest 111 = .ok (.aload_n 0, 1) := by decide +kernel
theorem dX12_heaviest_112 : decode cX12_heaviest 112 = .ok (.getfield 59, 3) := by decide +kernel
theorem dX12_heaviest_115 : decode cX12_heaviest 115 = .ok (.iload_n 3, 1) := by decide +kernel
theorem dX12_heaviest_116 : decode cX12_heaviest 116 = .ok (.aload_n 0, 1) := by decide +kernel
theorem dX12_heaviest_117 : decode cX12_heaviest 117 = .ok (.getfield 59, 3) := by decide +kernel
theorem dX12_heaviest_120 : decode cX12_heaviest 120 = .ok (.iload 4, 2) := by decide +kernel
theorem dX12_heaviest_122 : decode cX12_heaviest 122 = .ok (.iaload, 1) := by decide +kernel
theorem dX12_heaviest_123 : decode cX12_heaviest 123 = .ok (.aload_n 0, 1) := by decide +kernel
theorem dX12_heaviest_124 : decode cX12_heaviest 124 = .ok (.getfield 7, 3) := by decide +kernel
theorem dX12_heaviest_127 : decode cX12_heaviest 127 = .ok (.bipush 49, 2) := by decide +kernel
theorem dX12_heaviest_129 : decode cX12_heaviest 129 = .ok (.iload 4, 2) := by decide +kernel
theorem dX12_heaviest_131 : decode cX12_heaviest 131 = .ok (.iadd, 1) := by decide +kernel
theorem dX12_heaviest_132 : decode cX12_heaviest 132 = .ok (.iaload, 1) := by decide +kernel
theorem dX12_heaviest_133 : decode cX12_heaviest 133 = .ok (.iadd, 1) := by decide +kernel
theorem dX12_heaviest_134 : decode cX12_heaviest 134 = .ok (.iastore, 1) := by decide +kernel
theorem dX12_heaviest_135 : decode cX12_heaviest 135 = .ok (.iinc 4 1, 3) := by decide +kernel
theorem dX12_heaviest_138 : decode cX12_heaviest 138 = .ok (.goto (-94), 3) := by decide +kernel
theorem dX12_heaviest_141 : decode cX12_heaviest 141 = .ok (.iinc 3 (-1), 3) := by decide +kernel
theorem dX12_heaviest_144 : decode cX12_heaviest 144 = .ok (.goto (-125), 3) := by decide +kernel
theorem dX12_heaviest_147 : decode cX12_heaviest 147 = .ok (.aload_n 0, 1) := by decide +kernel
theorem dX12_heaviest_148 : decode cX12_heaviest 148 = .ok (.getfield 59, 3) := by decide +kernel
theorem dX12_heaviest_151 : decode cX12_heaviest 151 = .ok (.iload_n 1, 1) := by decide +kernel
theorem dX12_heaviest_152 : decode cX12_heaviest 152 = .ok (.iaload, 1) := by decide +kernel
theorem dX12_heaviest_153 : decode cX12_heaviest 153 = .ok (.ireturn, 1) := by decide +kernel
theorem dX12_under_0 : decode cX12_under 0 = .ok (.iload_n 1, 1) := by decide +kernel
theorem dX12_under_1 : decode cX12_under 1 = .ok (.invokestatic 100, 3) := by decide +kernel
theorem dX12_under_4 : decode cX12_under 4 = .ok (.ifCond .eq 10, 3) := by decide +kernel
theorem dX12_under_7 : decode cX12_under 7 = .ok (.iload_n 2, 1) := by decide +kernel
theorem dX12_under_8 : decode cX12_under 8 = .ok (.invokestatic 100, 3) := by decide +kernel
theorem dX12_under_11 : decode cX12_under 11 = .ok (.ifCond .ne 5, 3) := by decide +kernel
theorem dX12_under_14 : decode cX12_under 14 = .ok (.iconst (-1), 1) := by decide +kernel
theorem dX12_under_15 : decode cX12_under 15 = .ok (.ireturn, 1) := by decide +kernel
theorem dX12_under_16 : decode cX12_under 16 = .ok (.aload_n 0, 1) := by decide +kernel
theorem dX12_under_17 : decode cX12_under 17 = .ok (.invokevirtual 313, 3) := by decide +kernel
theorem dX12_under_20 : decode cX12_under 20 = .ok (.iconst 0, 1) := by decide +kernel
theorem dX12_under_21 : decode cX12_under 21 = .ok (.istore_n 3, 1) := by decide +kernel
theorem dX12_under_22 : decode cX12_under 22 = .ok (.iconst 0, 1) := by decide +kernel
theorem dX12_under_23 : decode cX12_under 23 = .ok (.istore 4, 2) := by decide +kernel
theorem dX12_under_25 : decode cX12_under 25 = .ok (.iload 4, 2) := by decide +kernel
theorem dX12_under_27 : decode cX12_under 27 = .ok (.bipush 12, 2) := by decide +kernel
theorem dX12_under_29 : decode cX12_under 29 = .ok (.if_icmp .ge 47, 3) := by decide +kernel
theorem dX12_under_32 : decode cX12_under 32 = .ok (.iload_n 3, 1) := by decide +kernel
theorem dX12_under_33 : decode cX12_under 33 = .ok (.aload_n 0, 1) := by decide +kernel
theorem dX12_under_34 : decode cX12_under 34 = .ok (.getfield 19, 3) := by decide +kernel
theorem dX12_under_37 : decode cX12_under 37 = .ok (.iload_n 1, 1) := by decide +kernel
theorem dX12_under_38 : decode cX12_under 38 = .ok (.iaload, 1) := by decide +kernel
theorem dX12_under_39 : decode cX12_under 39 = .ok (.iload 4, 2) := by decide +kernel
theorem dX12_under_41 : decode cX12_under 41 = .ok (.invokestatic 96, 3) := by decide +kernel
theorem dX12_under_44 : decode cX12_under 44 = .ok (.ifCond .eq 23, 3) := by decide +kernel
theorem dX12_under_47 : decode cX12_under 47 = .ok (.aload_n 0, 1) := by decide +kernel
theorem dX12_under_48 : decode cX12_under 48 = .ok (.iload_n 1, 1) := by decide +kernel
theorem dX12_under_49 : decode cX12_under 49 = .ok (.iload 4, 2) := by decide +kernel
theorem dX12_under_51 : decode cX12_under 51 = .ok (.iconst 1, 1) := by decide +kernel
theorem dX12_under_52 : decode cX12_under 52 = .ok (.iload_n 2, 1) := by decide +kernel
theorem dX12_under_53 : decode cX12_under 53 = .ok (.ishl, 1) := by decide +kernel
theorem dX12_under_54 : decode cX12_under 54 = .ok (.invokevirtual 416, 3) := by decide +kernel
theorem dX12_under_57 : decode cX12_under 57 = .ok (.ifCond .ne 10, 3) := by decide +kernel
theorem dX12_under_60 : decode cX12_under 60 = .ok (.iconst 1, 1) := by decide +kernel
theorem dX12_under_61 : decode cX12_under 61 = .ok (.iload 4, 2) := by decide +kernel
theorem dX12_under_63 : decode cX12_under 63 = .ok (.ishl, 1) := by decide +kernel
theorem dX12_under_64 : decode cX12_under 64 = .ok (.goto 4, 3) := by decide +kernel
theorem dX12_under_67 : decode cX12_under 67 = .ok (.iconst 0, 1) := by decide +kernel
theorem dX12_under_68 : decode cX12_under 68 = .ok (.ior, 1) := by decide +kernel
theorem dX12_under_69 : decode cX12_under 69 = .ok (.istore_n 3, 1) := by decide +kernel
theorem dX12_under_70 : decode cX12_under 70 = .ok (.iinc 4 1, 3) := by decide +kernel
theorem dX12_under_73 : decode cX12_under 73 = .ok (.goto (-48), 3) := by decide +kernel
theorem dX12_under_76 : decode cX12_under 76 = .ok (.iload_n 3, 1) := by decide +kernel
theorem dX12_under_77 : decode cX12_under 77 = .ok (.ireturn, 1) := by decide +kernel
theorem dX12_needless_0 : decode cX12_needless 0 = .ok (.iload_n 1, 1) := by decide +kernel
theorem dX12_needless_1 : decode cX12_needless 1 = .ok (.invokestatic 100, 3) := by decide +kernel
theorem dX12_needless_4 : decode cX12_needless 4 = .ok (.ifCond .ne 5, 3) := by decide +kernel
theorem dX12_needless_7 : decode cX12_needless 7 = .ok (.iconst (-1), 1) := by decide +kernel
theorem dX12_needless_8 : decode cX12_needless 8 = .ok (.ireturn, 1) := by decide +kernel
theorem dX12_needless_9 : decode cX12_needless 9 = .ok (.aload_n 0, 1) := by decide +kernel
theorem dX12_needless_10 : decode cX12_needless 10 = .ok (.invokevirtual 313, 3) := by decide +kernel
theorem dX12_needless_13 : decode cX12_needless 13 = .ok (.iconst 0, 1) := by decide +kernel
theorem dX12_needless_14 : decode cX12_needless 14 = .ok (.istore_n 2, 1) := by decide +kernel
theorem dX12_needless_15 : decode cX12_needless 15 = .ok (.iconst 0, 1) := by decide +kernel
theorem dX12_needless_16 : decode cX12_needless 16 = .ok (.istore_n 3, 1) := by decide +kernel
theorem dX12_needless_17 : decode cX12_needless 17 = .ok (.iload_n 3, 1) := by decide +kernel
theorem dX12_needless_18 : decode cX12_needless 18 = .ok (.bipush 12, 2) := by decide +kernel
theorem dX12_needless_20 : decode cX12_needless 20 = .ok (.if_icmp .ge 44, 3) := by decide +kernel
theorem dX12_needless_23 : decode cX12_needless 23 = .ok (.aload_n 0, 1) := by decide +kernel
theorem dX12_needless_24 : decode cX12_needless 24 = .ok (.getfield 7, 3) := by decide +kernel
theorem dX12_needless_27 : decode cX12_needless 27 = .ok (.bipush 61, 2) := by decide +kernel
theorem dX12_needless_29 : decode cX12_needless 29 = .ok (.iload_n 1, 1) := by decide +kernel
theorem dX12_needless_30 : decode cX12_needless 30 = .ok (.iadd, 1) := by decide +kernel
theorem dX12_needless_31 : decode cX12_needless 31 = .ok (.iaload, 1) := by decide +kernel
theorem dX12_needless_32 : decode cX12_needless 32 = .ok (.iload_n 3, 1) := by decide +kernel
theorem dX12_needless_33 : decode cX12_needless 33 = .ok (.invokestatic 96, 3) := by decide +kernel
theorem dX12_needless_36 : decode cX12_needless 36 = .ok (.ifCond .eq 22, 3) := by decide +kernel
theorem dX12_needless_39 : decode cX12_needless 39 = .ok (.iload_n 2, 1) := by decide +kernel
theorem dX12_needless_40 : decode cX12_needless 40 = .ok (.aload_n 0, 1) := by decide +kernel
theorem dX12_needless_41 : decode cX12_needless 41 = .ok (.getfield 7, 3) := by decide +kernel
theorem dX12_needless_44 : decode cX12_needless 44 = .ok (.bipush 61, 2) := by decide +kernel
theorem dX12_needless_46 : decode cX12_needless 46 = .ok (.iload_n 1, 1) := by decide +kernel
theorem dX12_needless_47 : decode cX12_needless 47 = .ok (.iadd, 1) := by decide +kernel
theorem dX12_needless_48 : decode cX12_needless 48 = .ok (.iaload, 1) := by decide +kernel
theorem dX12_needless_49 : decode cX12_needless 49 = .ok (.aload_n 0, 1) := by decide +kernel
theorem dX12_needless_50 : decode cX12_needless 50 = .ok (.getfield 19, 3) := by decide +kernel
theorem dX12_needless_53 : decode cX12_needless 53 = .ok (.iload_n 3, 1) := by decide +kernel
theorem dX12_needless_54 : decode cX12_needless 54 = .ok (.iaload, 1) := by decide +kernel
theorem dX12_needless_55 : decode cX12_needless 55 = .ok (.iand, 1) := by decide +kernel
theorem dX12_needless_56 : decode cX12_needless 56 = .ok (.ior, 1) := by decide +kernel
theorem dX12_needless_57 : decode cX12_needless 57 = .ok (.istore_n 2, 1) := by decide +kernel
theorem dX12_needless_58 : decode cX12_needless 58 = .ok (.iinc 3 1, 3) := by decide +kernel
theorem dX12_needless_61 : decode cX12_needless 61 = .ok (.goto (-44), 3) := by decide +kernel
theorem dX12_needless_64 : decode cX12_needless 64 = .ok (.iload_n 2, 1) := by decide +kernel
theorem dX12_needless_65 : decode cX12_needless 65 = .ok (.ireturn, 1) := by decide +kernel
theorem dX12_shared_0 : decode cX12_shared 0 = .ok (.iload_n 1, 1) := by decide +kernel
theorem dX12_shared_1 : decode cX12_shared 1 = .ok (.invokestatic 100, 3) := by decide +kernel
theorem dX12_shared_4 : decode cX12_shared 4 = .ok (.ifCond .eq 10, 3) := by decide +kernel
theorem dX12_shared_7 : decode cX12_shared 7 = .ok (.iload_n 2, 1) := by decide +kernel
theorem dX12_shared_8 : decode cX12_shared 8 = .ok (.invokestatic 100, 3) := by decide +kernel
theorem dX12_shared_11 : decode cX12_shared 11 = .ok (.ifCond .ne 5, 3) := by decide +kernel
theorem dX12_shared_14 : decode cX12_shared 14 = .ok (.iconst (-1), 1) := by decide +kernel
theorem dX12_shared_15 : decode cX12_shared 15 = .ok (.ireturn, 1) := by decide +kernel
theorem dX12_shared_16 : decode cX12_shared 16 = .ok (.aload_n 0, 1) := by decide +kernel
theorem dX12_shared_17 : decode cX12_shared 17 = .ok (.invokevirtual 313, 3) := by decide +kernel
theorem dX12_shared_20 : decode cX12_shared 20 = .ok (.aload_n 0, 1) := by decide +kernel
theorem dX12_shared_21 : decode cX12_shared 21 = .ok (.getfield 19, 3) := by decide +kernel
theorem dX12_shared_24 : decode cX12_shared 24 = .ok (.iload_n 1, 1) := by decide +kernel
theorem dX12_shared_25 : decode cX12_shared 25 = .ok (.iaload, 1) := by decide +kernel
theorem dX12_shared_26 : decode cX12_shared 26 = .ok (.iconst 1, 1) := by decide +kernel
theorem dX12_shared_27 : decode cX12_shared 27 = .ok (.iload_n 1, 1) := by decide +kernel
theorem dX12_shared_28 : decode cX12_shared 28 = .ok (.ishl, 1) := by decide +kernel
theorem dX12_shared_29 : decode cX12_shared 29 = .ok (.ior, 1) := by decide +kernel
theorem dX12_shared_30 : decode cX12_shared 30 = .ok (.aload_n 0, 1) := by decide +kernel
theorem dX12_shared_31 : decode cX12_shared 31 = .ok (.getfield 19, 3) := by decide +kernel
theorem dX12_shared_34 : decode cX12_shared 34 = .ok (.iload_n 2, 1) := by decide +kernel
theorem dX12_shared_35 : decode cX12_shared 35 = .ok (.iaload, 1) := by decide +kernel
theorem dX12_shared_36 : decode cX12_shared 36 = .ok (.iconst 1, 1) := by decide +kernel
theorem dX12_shared_37 : decode cX12_shared 37 = .ok (.iload_n 2, 1) := by decide +kernel
theorem dX12_shared_38 : decode cX12_shared 38 = .ok (.ishl, 1) := by decide +kernel
theorem dX12_shared_39 : decode cX12_shared 39 = .ok (.ior, 1) := by decide +kernel
theorem dX12_shared_40 : decode cX12_shared 40 = .ok (.iand, 1) := by decide +kernel
theorem dX12_shared_41 : decode cX12_shared 41 = .ok (.istore_n 3, 1) := by decide +kernel
theorem dX12_shared_42 : decode cX12_shared 42 = .ok (.iload_n 3, 1) := by decide +kernel
theorem dX12_shared_43 : decode cX12_shared 43 = .ok (.istore 4, 2) := by decide +kernel
theorem dX12_shared_45 : decode cX12_shared 45 = .ok (.iconst 0, 1) := by decide +kernel
theorem dX12_shared_46 : decode cX12_shared 46 = .ok (.istore 5, 2) := by decide +kernel
theorem dX12_shared_48 : decode cX12_shared 48 = .ok (.iload 5, 2) := by decide +kernel
theorem dX12_shared_50 : decode cX12_shared 50 = .ok (.bipush 12, 2) := by decide +kernel
theorem dX12_shared_52 : decode cX12_shared 52 = .ok (.if_icmp .ge 32, 3) := by decide +kernel
theorem dX12_shared_55 : decode cX12_shared 55 = .ok (.iload_n 3, 1) := by decide +kernel
theorem dX12_shared_56 : decode cX12_shared 56 = .ok (.iload 5, 2) := by decide +kernel
theorem dX12_shared_58 : decode cX12_shared 58 = .ok (.invokestatic 96, 3) := by decide +kernel
theorem dX12_shared_61 : decode cX12_shared 61 = .ok (.ifCond .eq 17, 3) := by decide +kernel
theorem dX12_shared_64 : decode cX12_shared 64 = .ok (.iload 4, 2) := by decide +kernel
theorem dX12_shared_66 : decode cX12_shared 66 = .ok (.aload_n 0, 1) := by decide +kernel
theorem dX12_shared_67 : decode cX12_shared 67 = .ok (.getfield 19, 3) := by decide +kernel
theorem dX12_shared_70 : decode cX12_shared 70 = .ok (.iload 5, 2) := by decide +kernel
theorem dX12_shared_72 : decode cX12_shared 72 = .ok (.iaload, 1) := by decide +kernel
theorem dX12_shared_73 : decode cX12_shared 73 = .ok (.iconst (-1), 1) := by decide +kernel
theorem dX12_shared_74 : decode cX12_shared 74 = .ok (.ixor, 1) := by decide +kernel
theorem dX12_shared_75 : decode cX12_shared 75 = .ok (.iand, 1) := by decide +kernel
theorem dX12_shared_76 : decode cX12_shared 76 = .ok (.istore 4, 2) := by decide +kernel
theorem dX12_shared_78 : decode cX12_shared 78 = .ok (.iinc 5 1, 3) := by decide +kernel
theorem dX12_shared_81 : decode cX12_shared 81 = .ok (.goto (-33), 3) := by decide +kernel
theorem dX12_shared_84 : decode cX12_shared 84 = .ok (.iload 4, 2) := by decide +kernel
theorem dX12_shared_86 : decode cX12_shared 86 = .ok (.ireturn, 1) := by decide +kernel
theorem dX12_above_0 : decode cX12_above 0 = .ok (.iload_n 1, 1) := by decide +kernel
theorem dX12_above_1 : decode cX12_above 1 = .ok (.invokestatic 100, 3) := by decide +kernel
theorem dX12_above_4 : decode cX12_above 4 = .ok (.ifCond .ne 5, 3) := by decide +kernel
theorem dX12_above_7 : decode cX12_above 7 = .ok (.iconst (-1), 1) := by decide +kernel
theorem dX12_above_8 : decode cX12_above 8 = .ok (.ireturn, 1) := by decide +kernel
theorem dX12_above_9 : decode cX12_above 9 = .ok (.aload_n 0, 1) := by decide +kernel
theorem dX12_above_10 : decode cX12_above 10 = .ok (.invokevirtual 313, 3) := by decide +kernel
theorem dX12_above_13 : decode cX12_above 13 = .ok (.iconst 0, 1) := by decide +kernel
theorem dX12_above_14 : decode cX12_above 14 = .ok (.istore_n 2, 1) := by decide +kernel
theorem dX12_above_15 : decode cX12_above 15 = .ok (.iconst 0, 1) := by decide +kernel
theorem dX12_above_16 : decode cX12_above 16 = .ok (.istore_n 3, 1) := by decide +kernel
theorem dX12_above_17 : decode cX12_above 17 = .ok (.iload_n 3, 1) := by decide +kernel
theorem dX12_above_18 : decode cX12_above 18 = .ok (.bipush 12, 2) := by decide +kernel
theorem dX12_above_20 : decode cX12_above 20 = .ok (.if_icmp .ge 32, 3) := by decide +kernel
theorem dX12_above_23 : decode cX12_above 23 = .ok (.iload_n 2, 1) := by decide +kernel
theorem dX12_above_24 : decode cX12_above 24 = .ok (.aload_n 0, 1) := by decide +kernel
theorem dX12_above_25 : decode cX12_above 25 = .ok (.getfield 19, 3) := by decide +kernel
theorem dX12_above_28 : decode cX12_above 28 = .ok (.iload_n 3, 1) := by decide +kernel
theorem dX12_above_29 : decode cX12_above 29 = .ok (.iaload, 1) := by decide +kernel
theorem dX12_above_30 : decode cX12_above 30 = .ok (.iload_n 1, 1) := by decide +kernel
theorem dX12_above_31 : decode cX12_above 31 = .ok (.invokestatic 96, 3) := by decide +kernel
theorem dX12_above_34 : decode cX12_above 34 = .ok (.ifCond .eq 9, 3) := by decide +kernel
theorem dX12_above_37 : decode cX12_above 37 = .ok (.iconst 1, 1) := by decide +kernel
theorem dX12_above_38 : decode cX12_above 38 = .ok (.iload_n 3, 1) := by decide +kernel
theorem dX12_above_39 : decode cX12_above 39 = .ok (.ishl, 1) := by decide +kernel
theorem dX12_above_40 : decode cX12_above 40 = .ok (.goto 4, 3) := by decide +kernel
theorem dX12_above_43 : decode cX12_above 43 = .ok (.iconst 0, 1) := by decide +kernel
theorem dX12_above_44 : decode cX12_above 44 = .ok (.ior, 1) := by decide +kernel
theorem dX12_above_45 : decode cX12_above 45 = .ok (.istore_n 2, 1) := by decide +kernel
theorem dX12_above_46 : decode cX12_above 46 = .ok (.iinc 3 1, 3) := by decide +kernel
theorem dX12_above_49 : decode cX12_above 49 = .ok (.goto (-32), 3) := by decide +kernel
theorem dX12_above_52 : decode cX12_above 52 = .ok (.iload_n 2, 1) := by decide +kernel
theorem dX12_above_53 : decode cX12_above 53 = .ok (.ireturn, 1) := by decide +kernel
theorem dX12_plain_0 : decode cX12_plain 0 = .ok (.iconst 0, 1) := by decide +kernel
theorem dX12_plain_1 : decode cX12_plain 1 = .ok (.istore_n 1, 1) := by decide +kernel
theorem dX12_plain_2 : decode cX12_plain 2 = .ok (.iconst 0, 1) := by decide +kernel
theorem dX12_plain_3 : decode cX12_plain 3 = .ok (.istore_n 2, 1) := by decide +kernel
theorem dX12_plain_4 : decode cX12_plain 4 = .ok (.iload_n 2, 1) := by decide +kernel
theorem dX12_plain_5 : decode cX12_plain 5 = .ok (.bipush 12, 2) := by decide +kernel
theorem dX12_plain_7 : decode cX12_plain 7 = .ok (.if_icmp .ge 31, 3) := by decide +kernel
theorem dX12_plain_10 : decode cX12_plain 10 = .ok (.iload_n 1, 1) := by decide +kernel
theorem dX12_plain_11 : decode cX12_plain 11 = .ok (.aload_n 0, 1) := by decide +kernel
theorem dX12_plain_12 : decode cX12_plain 12 = .ok (.getfield 7, 3) := by decide +kernel
theorem dX12_plain_15 : decode cX12_plain 15 = .ok (.bipush 61, 2) := by decide +kernel
theorem dX12_plain_17 : decode cX12_plain 17 = .ok (.iload_n 2, 1) := by decide +kernel
theorem dX12_plain_18 : decode cX12_plain 18 = .ok (.iadd, 1) := by decide +kernel
theorem dX12_plain_19 : decode cX12_plain 19 = .ok (.iaload, 1) := by decide +kernel
theorem dX12_plain_20 : decode cX12_plain 20 = .ok (.ifCond .ne 9, 3) := by decide +kernel
theorem dX12_plain_23 : decode cX12_plain 23 = .ok (.iconst 1, 1) := by decide +kernel
theorem dX12_plain_24 : decode cX12_plain 24 = .ok (.iload_n 2, 1) := by decide +kernel
theorem dX12_plain_25 : decode cX12_plain 25 = .ok (.ishl, 1) := by decide +kernel
theorem dX12_plain_26 : decode cX12_plain 26 = .ok (.goto 4, 3) := by decide +kernel
theorem dX12_plain_29 : decode cX12_plain 29 = .ok (.iconst 0, 1) := by decide +kernel
theorem dX12_plain_30 : decode cX12_plain 30 = .ok (.ior, 1) := by decide +kernel
theorem dX12_plain_31 : decode cX12_plain 31 = .ok (.istore_n 1, 1) := by decide +kernel
theorem dX12_plain_32 : decode cX12_plain 32 = .ok (.iinc 2 1, 3) := by decide +kernel
theorem dX12_plain_35 : decode cX12_plain 35 = .ok (.goto (-31), 3) := by decide +kernel
theorem dX12_plain_38 : decode cX12_plain 38 = .ok (.iload_n 1, 1) := by decide +kernel
theorem dX12_plain_39 : decode cX12_plain 39 = .ok (.ireturn, 1) := by decide +kernel
theorem dX12_loose_0 : decode cX12_loose 0 = .ok (.sipush 4095, 3) := by decide +kernel
theorem dX12_loose_3 : decode cX12_loose 3 = .ok (.istore_n 1, 1) := by decide +kernel
theorem dX12_loose_4 : decode cX12_loose 4 = .ok (.iconst 0, 1) := by decide +kernel
theorem dX12_loose_5 : decode cX12_loose 5 = .ok (.istore_n 2, 1) := by decide +kernel
theorem dX12_loose_6 : decode cX12_loose 6 = .ok (.iload_n 2, 1) := by decide +kernel
theorem dX12_loose_7 : decode cX12_loose 7 = .ok (.bipush 12, 2) := by decide +kernel
theorem dX12_loose_9 : decode cX12_loose 9 = .ok (.if_icmp .ge 23, 3) := by decide +kernel
theorem dX12_loose_12 : decode cX12_loose 12 = .ok (.iload_n 1, 1) := by decide +kernel
theorem dX12_loose_13 : decode cX12_loose 13 = .ok (.aload_n 0, 1) := by decide +kernel
theorem dX12_loose_14 : decode cX12_loose 14 = .ok (.getfield 7, 3) := by decide +kernel
theorem dX12_loose_17 : decode cX12_loose 17 = .ok (.bipush 61, 2) := by decide +kernel
theorem dX12_loose_19 : decode cX12_loose 19 = .ok (.iload_n 2, 1) := by decide +kernel
theorem dX12_loose_20 : decode cX12_loose 20 = .ok (.iadd, 1) := by decide +kernel
theorem dX12_loose_21 : decode cX12_loose 21 = .ok (.iaload, 1) := by decide +kernel
theorem dX12_loose_22 : decode cX12_loose 22 = .ok (.iconst (-1), 1) := by decide +kernel
theorem dX12_loose_23 : decode cX12_loose 23 = .ok (.ixor, 1) := by decide +kernel
theorem dX12_loose_24 : decode cX12_loose 24 = .ok (.iand, 1) := by decide +kernel
theorem dX12_loose_25 : decode cX12_loose 25 = .ok (.istore_n 1, 1) := by decide +kernel
theorem dX12_loose_26 : decode cX12_loose 26 = .ok (.iinc 2 1, 3) := by decide +kernel
theorem dX12_loose_29 : decode cX12_loose 29 = .ok (.goto (-23), 3) := by decide +kernel
theorem dX12_loose_32 : decode cX12_loose 32 = .ok (.iload_n 1, 1) := by decide +kernel
theorem dX12_loose_33 : decode cX12_loose 33 = .ok (.ireturn, 1) := by decide +kernel
theorem dX12_areApart_0 : decode cX12_areApart 0 = .ok (.iconst 0, 1) := by decide +kernel
theorem dX12_areApart_1 : decode cX12_areApart 1 = .ok (.istore_n 2, 1) := by decide +kernel
theorem dX12_areApart_2 : decode cX12_areApart 2 = .ok (.iload_n 2, 1) := by decide +kernel
theorem dX12_areApart_3 : decode cX12_areApart 3 = .ok (.bipush 12, 2) := by decide +kernel
theorem dX12_areApart_5 : decode cX12_areApart 5 = .ok (.if_icmp .ge 30, 3) := by decide +kernel
theorem dX12_areApart_8 : decode cX12_areApart 8 = .ok (.iload_n 1, 1) := by decide +kernel
theorem dX12_areApart_9 : decode cX12_areApart 9 = .ok (.iload_n 2, 1) := by decide +kernel
theorem dX12_areApart_10 : decode cX12_areApart 10 = .ok (.invokestatic 96, 3) := by decide +kernel
theorem dX12_areApart_13 : decode cX12_areApart 13 = .ok (.ifCond .eq 16, 3) := by decide +kernel
theorem dX12_areApart_16 : decode cX12_areApart 16 = .ok (.aload_n 0, 1) := by decide +kernel
theorem dX12_areApart_17 : decode cX12_areApart 17 = .ok (.getfield 19, 3) := by decide +kernel
theorem dX12_areApart_20 : decode cX12_areApart 20 = .ok (.iload_n 2, 1) := by decide +kernel
theorem dX12_areApart_21 : decode cX12_areApart 21 = .ok (.iaload, 1) := by decide +kernel
theorem dX12_areApart_22 : decode cX12_areApart 22 = .ok (.iload_n 1, 1) := by decide +kernel
theorem dX12_areApart_23 : decode cX12_areApart 23 = .ok (.iand, 1) := by decide +kernel
theorem dX12_areApart_24 : decode cX12_areApart 24 = .ok (.ifCond .eq 5, 3) := by decide +kernel
theorem dX12_areApart_27 : decode cX12_areApart 27 = .ok (.iconst 0, 1) := by decide +kernel
theorem dX12_areApart_28 : decode cX12_areApart 28 = .ok (.ireturn, 1) := by decide +kernel
theorem dX12_areApart_29 : decode cX12_areApart 29 = .ok (.iinc 2 1, 3) := by decide +kernel
theorem dX12_areApart_32 : decode cX12_areApart 32 = .ok (.goto (-30), 3) := by decide +kernel
theorem dX12_areApart_35 : decode cX12_areApart 35 = .ok (.iconst 1, 1) := by decide +kernel
theorem dX12_areApart_36 : decode cX12_areApart 36 = .ok (.ireturn, 1) := by decide +kernel
theorem dX12_apart_0 : decode cX12_apart 0 = .ok (.aload_n 0, 1) := by decide +kernel
theorem dX12_apart_1 : decode cX12_apart 1 = .ok (.invokevirtual 313, 3) := by decide +kernel
theorem dX12_apart_4 : decode cX12_apart 4 = .ok (.iconst 0, 1) := by decide +kernel
theorem dX12_apart_5 : decode cX12_apart 5 = .ok (.istore_n 2, 1) := by decide +kernel
theorem dX12_apart_6 : decode cX12_apart 6 = .ok (.iconst 1, 1) := by decide +kernel
theorem dX12_apart_7 : decode cX12_apart 7 = .ok (.istore_n 3, 1) := by decide +kernel
theorem dX12_apart_8 : decode cX12_apart 8 = .ok (.iload_n 3, 1) := by decide +kernel
theorem dX12_apart_9 : decode cX12_apart 9 = .ok (.sipush 4096, 3) := by decide +kernel
theorem dX12_apart_12 : decode cX12_apart 12 = .ok (.if_icmp .ge 30, 3) := by decide +kernel
theorem dX12_apart_15 : decode cX12_apart 15 = .ok (.iload_n 3, 1) := by decide +kernel
theorem dX12_apart_16 : decode cX12_apart 16 = .ok (.invokestatic 284, 3) := by decide +kernel
theorem dX12_apart_19 : decode cX12_apart 19 = .ok (.iload_n 2, 1) := by decide +kernel
theorem dX12_apart_20 : decode cX12_apart 20 = .ok (.invokestatic 284, 3) := by decide +kernel
theorem dX12_apart_23 : decode cX12_apart 23 = .ok (.if_icmp .le 13, 3) := by decide +kernel
theorem dX12_apart_26 : decode cX12_apart 26 = .ok (.aload_n 0, 1) := by decide +kernel
theorem dX12_apart_27 : decode cX12_apart 27 = .ok (.iload_n 3, 1) := by decide +kernel
theorem dX12_apart_28 : decode cX12_apart 28 = .ok (.invokevirtual 419, 3) := by decide +kernel
theorem dX12_apart_31 : decode cX12_apart 31 = .ok (.ifCond .eq 5, 3) := by decide +kernel
theorem dX12_apart_34 : decode cX12_apart 34 = .ok (.iload_n 3, 1) := by decide +kernel
theorem dX12_apart_35 : decode cX12_apart 35 = .ok (.istore_n 2, 1) := by decide +kernel
theorem dX12_apart_36 : decode cX12_apart 36 = .ok (.iinc 3 1, 3) := by decide +kernel
theorem dX12_apart_39 : decode cX12_apart 39 = .ok (.goto (-31), 3) := by decide +kernel
theorem dX12_apart_42 : decode cX12_apart 42 = .ok (.iload_n 1, 1) := by decide +kernel
theorem dX12_apart_43 : decode cX12_apart 43 = .ok (.ifCond .eq 10, 3) := by decide +kernel
theorem dX12_apart_46 : decode cX12_apart 46 = .ok (.iload_n 2, 1) := by decide +kernel
theorem dX12_apart_47 : decode cX12_apart 47 = .ok (.invokestatic 284, 3) := by decide +kernel
theorem dX12_apart_50 : decode cX12_apart 50 = .ok (.goto 4, 3) := by decide +kernel
theorem dX12_apart_53 : decode cX12_apart 53 = .ok (.iload_n 2, 1) := by decide +kernel
theorem dX12_apart_54 : decode cX12_apart 54 = .ok (.ireturn, 1) := by decide +kernel
theorem dX12_levels_0 : decode cX12_levels 0 = .ok (.aload_n 0, 1) := by decide +kernel
theorem dX12_levels_1 : decode cX12_levels 1 = .ok (.invokevirtual 313, 3) := by decide +kernel
theorem dX12_levels_4 : decode cX12_levels 4 = .ok (.iconst 0, 1) := by decide +kernel
theorem dX12_levels_5 : decode cX12_levels 5 = .ok (.istore_n 1, 1) := by decide +kernel
theorem dX12_levels_6 : decode cX12_levels 6 = .ok (.iconst 0, 1) := by decide +kernel
theorem dX12_levels_7 : decode cX12_levels 7 = .ok (.istore_n 2, 1) := by decide +kernel
theorem dX12_levels_8 : decode cX12_levels 8 = .ok (.iload_n 2, 1) := by decide +kernel
theorem dX12_levels_9 : decode cX12_levels 9 = .ok (.bipush 12, 2) := by decide +kernel
theorem dX12_levels_11 : decode cX12_levels 11 = .ok (.if_icmp .ge 32, 3) := by decide +kernel
theorem dX12_levels_14 : decode cX12_levels 14 = .ok (.aload_n 0, 1) := by decide +kernel
theorem dX12_levels_15 : decode cX12_levels 15 = .ok (.getfield 22, 3) := by decide +kernel
theorem dX12_levels_18 : decode cX12_levels 18 = .ok (.iload_n 2, 1) := by decide +kernel
theorem dX12_levels_19 : decode cX12_levels 19 = .ok (.iaload, 1) := by decide +kernel
theorem dX12_levels_20 : decode cX12_levels 20 = .ok (.iload_n 1, 1) := by decide +kernel
theorem dX12_levels_21 : decode cX12_levels 21 = .ok (.if_icmp .lt 14, 3) := by decide +kernel
theorem dX12_levels_24 : decode cX12_levels 24 = .ok (.aload_n 0, 1) := by decide +kernel
theorem dX12_levels_25 : decode cX12_levels 25 = .ok (.getfield 22, 3) := by decide +kernel
theorem dX12_levels_28 : decode cX12_levels 28 = .ok (.iload_n 2, 1) := by decide +kernel
theorem dX12_levels_29 : decode cX12_levels 29 = .ok (.iaload, 1) := by decide +kernel
theorem dX12_levels_30 : decode cX12_levels 30 = .ok (.iconst 1, 1) := by decide +kernel
theorem dX12_levels_31 : decode cX12_levels 31 = .ok (.iadd, 1) := by decide +kernel
theorem dX12_levels_32 : decode cX12_levels 32 = .ok (.goto 4, 3) := by decide +kernel
theorem dX12_levels_35 : decode cX12_levels 35 = .ok (.iload_n 1, 1) := by decide +kernel
theorem dX12_levels_36 : decode cX12_levels 36 = .ok (.istore_n 1, 1) := by decide +kernel
theorem dX12_levels_37 : decode cX12_levels 37 = .ok (.iinc 2 1, 3) := by decide +kernel
theorem dX12_levels_40 : decode cX12_levels 40 = .ok (.goto (-32), 3) := by decide +kernel
theorem dX12_levels_43 : decode cX12_levels 43 = .ok (.iload_n 1, 1) := by decide +kernel
theorem dX12_levels_44 : decode cX12_levels 44 = .ok (.ireturn, 1) := by decide +kernel
theorem dX12_isOneMore_0 : decode cX12_isOneMore 0 = .ok (.iconst 1, 1) := by decide +kernel
theorem dX12_isOneMore_1 : decode cX12_isOneMore 1 = .ok (.istore_n 2, 1) := by decide +kernel
theorem dX12_isOneMore_2 : decode cX12_isOneMore 2 = .ok (.aload_n 0, 1) := by decide +kernel
theorem dX12_isOneMore_3 : decode cX12_isOneMore 3 = .ok (.getfield 68, 3) := by decide +kernel
theorem dX12_isOneMore_6 : decode cX12_isOneMore 6 = .ok (.iconst 0, 1) := by decide +kernel
theorem dX12_isOneMore_7 : decode cX12_isOneMore 7 = .ok (.iload_n 1, 1) := by decide +kernel
theorem dX12_isOneMore_8 : decode cX12_isOneMore 8 = .ok (.iastore, 1) := by decide +kernel
theorem dX12_isOneMore_9 : decode cX12_isOneMore 9 = .ok (.iconst 0, 1) := by decide +kernel
theorem dX12_isOneMore_10 : decode cX12_isOneMore 10 = .ok (.istore_n 3, 1) := by decide +kernel
theorem dX12_isOneMore_11 : decode cX12_isOneMore 11 = .ok (.iload_n 3, 1) := by decide +kernel
theorem dX12_isOneMore_12 : decode cX12_isOneMore 12 = .ok (.bipush 12, 2) := by decide +kernel
theorem dX12_isOneMore_14 : decode cX12_isOneMore 14 = .ok (.if_icmp .ge 16, 3) := by decide +kernel
theorem dX12_isOneMore_17 : decode cX12_isOneMore 17 = .ok (.aload_n 0, 1) := by decide +kernel
theorem dX12_isOneMore_18 : decode cX12_isOneMore 18 = .ok (.getfield 65, 3) := by decide +kernel
theorem dX12_isOneMore_21 : decode cX12_isOneMore 21 = .ok (.iload_n 3, 1) := by decide +kernel
theorem dX12_isOneMore_22 : decode cX12_isOneMore 22 = .ok (.iconst (-1), 1) := by decide +kernel
theorem dX12_isOneMore_23 : decode cX12_isOneMore 23 = .ok (.iastore, 1) := by decide +kernel
theorem dX12_isOneMore_24 : decode cX12_isOneMore 24 = .ok (.iinc 3 1, 3) := by decide +kernel
theorem dX12_isOneMore_27 : decode cX12_isOneMore 27 = .ok (.goto (-16), 3) := by decide +kernel
theorem dX12_isOneMore_30 : decode cX12_isOneMore 30 = .ok (.iconst 0, 1) := by decide +kernel
theorem dX12_isOneMore_31 : decode cX12_isOneMore 31 = .ok (.istore_n 3, 1) := by decide +kernel
theorem dX12_isOneMore_32 : decode cX12_isOneMore 32 = .ok (.iload_n 3, 1) := by decide +kernel
theorem dX12_isOneMore_33 : decode cX12_isOneMore 33 = .ok (.iload_n 2, 1) := by decide +kernel
theorem dX12_isOneMore_34 : decode cX12_isOneMore 34 = .ok (.if_icmp .ge 110, 3) := by decide +kernel
theorem dX12_isOneMore_37 : decode cX12_isOneMore 37 = .ok (.aload_n 0, 1) := by decide +kernel
theorem dX12_isOneMore_38 : decode cX12_isOneMore 38 = .ok (.getfield 68, 3) := by decide +kernel
theorem dX12_isOneMore_41 : decode cX12_isOneMore 41 = .ok (.iload_n 3, 1) := by decide +kernel
theorem dX12_isOneMore_42 : decode cX12_isOneMore 42 = .ok (.iaload, 1) := by decide +kernel
theorem dX12_isOneMore_43 : decode cX12_isOneMore 43 = .ok (.istore 4, 2) := by decide +kernel
theorem dX12_isOneMore_45 : decode cX12_isOneMore 45 = .ok (.iconst 0, 1) := by decide +kernel
theorem dX12_isOneMore_46 : decode cX12_isOneMore 46 = .ok (.istore 5, 2) := by decide +kernel
theorem dX12_isOneMore_48 : decode cX12_isOneMore 48 = .ok (.iload 5, 2) := by decide +kernel
theorem dX12_isOneMore_50 : decode cX12_isOneMore 50 = .ok (.bipush 12, 2) := by decide +kernel
theorem dX12_isOneMore_52 : decode cX12_isOneMore 52 = .ok (.if_icmp .ge 86, 3) := by decide +kernel
theorem dX12_isOneMore_55 : decode cX12_isOneMore 55 = .ok (.aload_n 0, 1) := by decide +kernel
theorem dX12_isOneMore_56 : decode cX12_isOneMore 56 = .ok (.getfield 7, 3) := by decide +kernel
theorem dX12_isOneMore_59 : decode cX12_isOneMore 59 = .ok (.bipush 61, 2) := by decide +kernel
theorem dX12_isOneMore_61 : decode cX12_isOneMore 61 = .ok (.iload 4, 2) := by decide +kernel
theorem dX12_isOneMore_63 : decode cX12_isOneMore 63 = .ok (.iadd, 1) := by decide +kernel
theorem dX12_isOneMore_64 : decode cX12_isOneMore 64 = .ok (.iaload, 1) := by decide +kernel
theorem dX12_isOneMore_65 : decode cX12_isOneMore 65 = .ok (.iload 5, 2) := by decide +kernel
theorem dX12_isOneMore_67 : decode cX12_isOneMore 67 = .ok (.invokestatic 96, 3) := by decide +kernel
theorem dX12_isOneMore_70 : decode cX12_isOneMore 70 = .ok (.ifCond .eq 62, 3) := by decide +kernel
theorem dX12_isOneMore_73 : decode cX12_isOneMore 73 = .ok (.aload_n 0, 1) := by decide +kernel
theorem dX12_isOneMore_74 : decode cX12_isOneMore 74 = .ok (.getfield 65, 3) := by decide +kernel
theorem dX12_isOneMore_77 : decode cX12_isOneMore 77 = .ok (.iload 5, 2) := by decide +kernel
theorem dX12_isOneMore_79 : decode cX12_isOneMore 79 = .ok (.iaload, 1) := by decide +kernel
theorem dX12_isOneMore_80 : decode cX12_isOneMore 80 = .ok (.iconst (-1), 1) := by decide +kernel
theorem dX12_isOneMore_81 : decode cX12_isOneMore 81 = .ok (.if_icmp .eq 6, 3) := by decide +kernel
theorem dX12_isOneMore_84 : decode cX12_isOneMore 84 = .ok (.goto 48, 3) := by decide +kernel
theorem dX12_isOneMore_87 : decode cX12_isOneMore 87 = .ok (.aload_n 0, 1) := by decide +kernel
theorem dX12_isOneMore_88 : decode cX12_isOneMore 88 = .ok (.getfield 65, 3) := by decide +kernel
theorem dX12_isOneMore_91 : decode cX12_isOneMore 91 = .ok (.iload 5, 2) := by decide +kernel
theorem dX12_isOneMore_93 : decode cX12_isOneMore 93 = .ok (.iload 4, 2) := by decide +kernel
theorem dX12_isOneMore_95 : decode cX12_isOneMore 95 = .ok (.iastore, 1) := by decide +kernel
theorem dX12_isOneMore_96 : decode cX12_isOneMore 96 = .ok (.aload_n 0, 1) := by decide +kernel
theorem dX12_isOneMore_97 : decode cX12_isOneMore 97 = .ok (.getfield 62, 3) := by decide +kernel
theorem dX12_isOneMore_100 : decode cX12_isOneMore 100 = .ok (.iload 5, 2) := by decide +kernel
theorem dX12_isOneMore_102 : decode cX12_isOneMore 102 = .ok (.iaload, 1) := by decide +kernel
theorem dX12_isOneMore_103 : decode cX12_isOneMore 103 = .ok (.iconst (-1), 1) := by decide +kernel
theorem dX12_isOneMore_104 : decode cX12_isOneMore 104 = .ok (.if_icmp .ne 12, 3) := by decide +kernel
theorem dX12_isOneMore_107 : decode cX12_isOneMore 107 = .ok (.aload_n 0, 1) := by decide +kernel
theorem dX12_isOneMore_108 : decode cX12_isOneMore 108 = .ok (.iload 5, 2) := by decide +kernel
theorem dX12_isOneMore_110 : decode cX12_isOneMore 110 = .ok (.iload_n 1, 1) := by decide +kernel
theorem dX12_isOneMore_111 : decode cX12_isOneMore 111 = .ok (.invokevirtual 422, 3) := by decide +kernel
theorem dX12_isOneMore_114 : decode cX12_isOneMore 114 = .ok (.iconst 1, 1) := by decide +kernel
theorem dX12_isOneMore_115 : decode cX12_isOneMore 115 = .ok (.ireturn, 1) := by decide +kernel
theorem dX12_isOneMore_116 : decode cX12_isOneMore 116 = .ok (.aload_n 0, 1) := by decide +kernel
theorem dX12_isOneMore_117 : decode cX12_isOneMore 117 = .ok (.getfield 68, 3) := by decide +kernel
theorem dX12_isOneMore_120 : decode cX12_isOneMore 120 = .ok (.iload_n 2, 1) := by decide +kernel
theorem dX12_isOneMore_121 : decode cX12_isOneMore 121 = .ok (.aload_n 0, 1) := by decide +kernel
theorem dX12_isOneMore_122 : decode cX12_isOneMore 122 = .ok (.getfield 62, 3) := by decide +kernel
theorem dX12_isOneMore_125 : decode cX12_isOneMore 125 = .ok (.iload 5, 2) := by decide +kernel
theorem dX12_isOneMore_127 : decode cX12_isOneMore 127 = .ok (.iaload, 1) := by decide +kernel
theorem dX12_isOneMore_128 : decode cX12_isOneMore 128 = .ok (.iastore, 1) := by decide +kernel
theorem dX12_isOneMore_129 : decode cX12_isOneMore 129 = .ok (.iinc 2 1, 3) := by decide +kernel
theorem dX12_isOneMore_132 : decode cX12_isOneMore 132 = .ok (.iinc 5 1, 3) := by decide +kernel
theorem dX12_isOneMore_135 : decode cX12_isOneMore 135 = .ok (.goto (-87), 3) := by decide +kernel
theorem dX12_isOneMore_138 : decode cX12_isOneMore 138 = .ok (.iinc 3 1, 3) := by decide +kernel
theorem dX12_isOneMore_141 : decode cX12_isOneMore 141 = .ok (.goto (-109), 3) := by decide +kernel
theorem dX12_isOneMore_144 : decode cX12_isOneMore 144 = .ok (.iconst 0, 1) := by decide +kernel
theorem dX12_isOneMore_145 : decode cX12_isOneMore 145 = .ok (.ireturn, 1) := by decide +kernel
theorem dX12_turn_0 : decode cX12_turn 0 = .ok (.iload_n 1, 1) := by decide +kernel
theorem dX12_turn_1 : decode cX12_turn 1 = .ok (.istore_n 3, 1) := by decide +kernel
theorem dX12_turn_2 : decode cX12_turn 2 = .ok (.iload_n 3, 1) := by decide +kernel
theorem dX12_turn_3 : decode cX12_turn 3 = .ok (.iconst (-1), 1) := by decide +kernel
theorem dX12_turn_4 : decode cX12_turn 4 = .ok (.if_icmp .eq 76, 3) := by decide +kernel
theorem dX12_turn_7 : decode cX12_turn 7 = .ok (.aload_n 0, 1) := by decide +kernel
theorem dX12_turn_8 : decode cX12_turn 8 = .ok (.getfield 65, 3) := by decide +kernel
theorem dX12_turn_11 : decode cX12_turn 11 = .ok (.iload_n 3, 1) := by decide +kernel
theorem dX12_turn_12 : decode cX12_turn 12 = .ok (.iaload, 1) := by decide +kernel
theorem dX12_turn_13 : decode cX12_turn 13 = .ok (.istore 4, 2) := by decide +kernel
theorem dX12_turn_15 : decode cX12_turn 15 = .ok (.iconst (-1), 1) := by decide +kernel
theorem dX12_turn_16 : decode cX12_turn 16 = .ok (.istore 5, 2) := by decide +kernel
theorem dX12_turn_18 : decode cX12_turn 18 = .ok (.iconst 0, 1) := by decide +kernel
theorem dX12_turn_19 : decode cX12_turn 19 = .ok (.istore 6, 2) := by decide +kernel
theorem dX12_turn_21 : decode cX12_turn 21 = .ok (.iload 6, 2) := by decide +kernel
theorem dX12_turn_23 : decode cX12_turn 23 = .ok (.bipush 12, 2) := by decide +kernel
theorem dX12_turn_25 : decode cX12_turn 25 = .ok (.if_icmp .ge 31, 3) := by decide +kernel
theorem dX12_turn_28 : decode cX12_turn 28 = .ok (.iload 6, 2) := by decide +kernel
theorem dX12_turn_30 : decode cX12_turn 30 = .ok (.iload_n 3, 1) := by decide +kernel
theorem dX12_turn_31 : decode cX12_turn 31 = .ok (.if_icmp .eq 19, 3) := by decide +kernel
theorem dX12_turn_34 : decode cX12_turn 34 = .ok (.aload_n 0, 1) := by decide +kernel
theorem dX12_turn_35 : decode cX12_turn 35 = .ok (.getfield 62, 3) := by decide +kernel
theorem dX12_turn_38 : decode cX12_turn 38 = .ok (.iload 6, 2) := by decide +kernel
theorem dX12_turn_40 : decode cX12_turn 40 = .ok (.iaload, 1) := by decide +kernel
theorem dX12_turn_41 : decode cX12_turn 41 = .ok (.iload 4, 2) := by decide +kernel
theorem dX12_turn_43 : decode cX12_turn 43 = .ok (.if_icmp .ne 7, 3) := by decide +kernel
theorem dX12_turn_46 : decode cX12_turn 46 = .ok (.iload 6, 2) := by decide +kernel
theorem dX12_turn_48 : decode cX12_turn 48 = .ok (.istore 5, 2) := by decide +kernel
theorem dX12_turn_50 : decode cX12_turn 50 = .ok (.iinc 6 1, 3) := by decide +kernel
theorem dX12_turn_53 : decode cX12_turn 53 = .ok (.goto (-32), 3) := by decide +kernel
theorem dX12_turn_56 : decode cX12_turn 56 = .ok (.aload_n 0, 1) := by decide +kernel
theorem dX12_turn_57 : decode cX12_turn 57 = .ok (.getfield 62, 3) := by decide +kernel
theorem dX12_turn_60 : decode cX12_turn 60 = .ok (.iload_n 3, 1) := by decide +kernel
theorem dX12_turn_61 : decode cX12_turn 61 = .ok (.iload 4, 2) := by decide +kernel
theorem dX12_turn_63 : decode cX12_turn 63 = .ok (.iastore, 1) := by decide +kernel
theorem dX12_turn_64 : decode cX12_turn 64 = .ok (.iload 4, 2) := by decide +kernel
theorem dX12_turn_66 : decode cX12_turn 66 = .ok (.iload_n 2, 1) := by decide +kernel
theorem dX12_turn_67 : decode cX12_turn 67 = .ok (.if_icmp .ne 7, 3) := by decide +kernel
theorem dX12_turn_70 : decode cX12_turn 70 = .ok (.iconst (-1), 1) := by decide +kernel
theorem dX12_turn_71 : decode cX12_turn 71 = .ok (.goto 5, 3) := by decide +kernel
theorem dX12_turn_74 : decode cX12_turn 74 = .ok (.iload 5, 2) := by decide +kernel
theorem dX12_turn_76 : decode cX12_turn 76 = .ok (.istore_n 3, 1) := by decide +kernel
theorem dX12_turn_77 : decode cX12_turn 77 = .ok (.goto (-75), 3) := by decide +kernel
theorem dX12_turn_80 : decode cX12_turn 80 = .ok (.return_, 1) := by decide +kernel
theorem dX12_chains_0 : decode cX12_chains 0 = .ok (.iconst 0, 1) := by decide +kernel
theorem dX12_chains_1 : decode cX12_chains 1 = .ok (.istore_n 1, 1) := by decide +kernel
theorem dX12_chains_2 : decode cX12_chains 2 = .ok (.iload_n 1, 1) := by decide +kernel
theorem dX12_chains_3 : decode cX12_chains 3 = .ok (.bipush 12, 2) := by decide +kernel
theorem dX12_chains_5 : decode cX12_chains 5 = .ok (.if_icmp .ge 16, 3) := by decide +kernel
theorem dX12_chains_8 : decode cX12_chains 8 = .ok (.aload_n 0, 1) := by decide +kernel
theorem dX12_chains_9 : decode cX12_chains 9 = .ok (.getfield 62, 3) := by decide +kernel
theorem dX12_chains_12 : decode cX12_chains 12 = .ok (.iload_n 1, 1) := by decide +kernel
theorem dX12_chains_13 : decode cX12_chains 13 = .ok (.iconst (-1), 1) := by decide +kernel
theorem dX12_chains_14 : decode cX12_chains 14 = .ok (.iastore, 1) := by decide +kernel
theorem dX12_chains_15 : decode cX12_chains 15 = .ok (.iinc 1 1, 3) := by decide +kernel
theorem dX12_chains_18 : decode cX12_chains 18 = .ok (.goto (-16), 3) := by decide +kernel
theorem dX12_chains_21 : decode cX12_chains 21 = .ok (.bipush 12, 2) := by decide +kernel
theorem dX12_chains_23 : decode cX12_chains 23 = .ok (.istore_n 1, 1) := by decide +kernel
theorem dX12_chains_24 : decode cX12_chains 24 = .ok (.iconst 0, 1) := by decide +kernel
theorem dX12_chains_25 : decode cX12_chains 25 = .ok (.istore_n 2, 1) := by decide +kernel
theorem dX12_chains_26 : decode cX12_chains 26 = .ok (.iload_n 2, 1) := by decide +kernel
theorem dX12_chains_27 : decode cX12_chains 27 = .ok (.bipush 12, 2) := by decide +kernel
theorem dX12_chains_29 : decode cX12_chains 29 = .ok (.if_icmp .ge 25, 3) := by decide +kernel
theorem dX12_chains_32 : decode cX12_chains 32 = .ok (.iload_n 1, 1) := by decide +kernel
theorem dX12_chains_33 : decode cX12_chains 33 = .ok (.aload_n 0, 1) := by decide +kernel
theorem dX12_chains_34 : decode cX12_chains 34 = .ok (.iload_n 2, 1) := by decide +kernel
theorem dX12_chains_35 : decode cX12_chains 35 = .ok (.invokevirtual 425, 3) := by decide +kernel
theorem dX12_chains_38 : decode cX12_chains 38 = .ok (.ifCond .eq 7, 3) := by decide +kernel
theorem dX12_chains_41 : decode cX12_chains 41 = .ok (.iconst 1, 1) := by decide +kernel
theorem dX12_chains_42 : decode cX12_chains 42 = .ok (.goto 4, 3) := by decide +kernel
theorem dX12_chains_45 : decode cX12_chains 45 = .ok (.iconst 0, 1) := by decide +kernel
theorem dX12_chains_46 : decode cX12_chains 46 = .ok (.isub, 1) := by decide +kernel
theorem dX12_chains_47 : decode cX12_chains 47 = .ok (.istore_n 1, 1) := by decide +kernel
theorem dX12_chains_48 : decode cX12_chains 48 = .ok (.iinc 2 1, 3) := by decide +kernel
theorem dX12_chains_51 : decode cX12_chains 51 = .ok (.goto (-25), 3) := by decide +kernel
theorem dX12_chains_54 : decode cX12_chains 54 = .ok (.iload_n 1, 1) := by decide +kernel
theorem dX12_chains_55 : decode cX12_chains 55 = .ok (.ireturn, 1) := by decide +kernel
theorem dX12_asksBy_0 : decode cX12_asksBy 0 = .ok (.iload_n 1, 1) := by decide +kernel
theorem dX12_asksBy_1 : decode cX12_asksBy 1 = .ok (.aload_n 0, 1) := by decide +kernel
theorem dX12_asksBy_2 : decode cX12_asksBy 2 = .ok (.getfield 19, 3) := by decide +kernel
theorem dX12_asksBy_5 : decode cX12_asksBy 5 = .ok (.iload_n 2, 1) := by decide +kernel
theorem dX12_asksBy_6 : decode cX12_asksBy 6 = .ok (.iaload, 1) := by decide +kernel
theorem dX12_asksBy_7 : decode cX12_asksBy 7 = .ok (.iconst 1, 1) := by decide +kernel
theorem dX12_asksBy_8 : decode cX12_asksBy 8 = .ok (.iload_n 2, 1) := by decide +kernel
theorem dX12_asksBy_9 : decode cX12_asksBy 9 = .ok (.ishl, 1) := by decide +kernel
theorem dX12_asksBy_10 : decode cX12_asksBy 10 = .ok (.ior, 1) := by decide +kernel
theorem dX12_asksBy_11 : decode cX12_asksBy 11 = .ok (.iand, 1) := by decide +kernel
theorem dX12_asksBy_12 : decode cX12_asksBy 12 = .ok (.istore_n 3, 1) := by decide +kernel
theorem dX12_asksBy_13 : decode cX12_asksBy 13 = .ok (.iload_n 3, 1) := by decide +kernel
theorem dX12_asksBy_14 : decode cX12_asksBy 14 = .ok (.ifCond .eq 8, 3) := by decide +kernel
theorem dX12_asksBy_17 : decode cX12_asksBy 17 = .ok (.iload_n 3, 1) := by decide +kernel
theorem dX12_asksBy_18 : decode cX12_asksBy 18 = .ok (.iload_n 1, 1) := by decide +kernel
theorem dX12_asksBy_19 : decode cX12_asksBy 19 = .ok (.if_icmp .ne 7, 3) := by decide +kernel
theorem dX12_asksBy_22 : decode cX12_asksBy 22 = .ok (.ldc_w 428, 3) := by decide +kernel
theorem dX12_asksBy_25 : decode cX12_asksBy 25 = .ok (.ireturn, 1) := by decide +kernel
theorem dX12_asksBy_26 : decode cX12_asksBy 26 = .ok (.iload_n 1, 1) := by decide +kernel
theorem dX12_asksBy_27 : decode cX12_asksBy 27 = .ok (.iload_n 3, 1) := by decide +kernel
theorem dX12_asksBy_28 : decode cX12_asksBy 28 = .ok (.iconst (-1), 1) := by decide +kernel
theorem dX12_asksBy_29 : decode cX12_asksBy 29 = .ok (.ixor, 1) := by decide +kernel
theorem dX12_asksBy_30 : decode cX12_asksBy 30 = .ok (.iand, 1) := by decide +kernel
theorem dX12_asksBy_31 : decode cX12_asksBy 31 = .ok (.istore 4, 2) := by decide +kernel
theorem dX12_asksBy_33 : decode cX12_asksBy 33 = .ok (.iconst 1, 1) := by decide +kernel
theorem dX12_asksBy_34 : decode cX12_asksBy 34 = .ok (.aload_n 0, 1) := by decide +kernel
theorem dX12_asksBy_35 : decode cX12_asksBy 35 = .ok (.getfield 71, 3) := by decide +kernel
theorem dX12_asksBy_38 : decode cX12_asksBy 38 = .ok (.iload_n 3, 1) := by decide +kernel
theorem dX12_asksBy_39 : decode cX12_asksBy 39 = .ok (.iaload, 1) := by decide +kernel
theorem dX12_asksBy_40 : decode cX12_asksBy 40 = .ok (.aload_n 0, 1) := by decide +kernel
theorem dX12_asksBy_41 : decode cX12_asksBy 41 = .ok (.getfield 71, 3) := by decide +kernel
theorem dX12_asksBy_44 : decode cX12_asksBy 44 = .ok (.iload 4, 2) := by decide +kernel
theorem dX12_asksBy_46 : decode cX12_asksBy 46 = .ok (.iaload, 1) := by decide +kernel
theorem dX12_asksBy_47 : decode cX12_asksBy 47 = .ok (.if_icmp .le 12, 3) := by decide +kernel
theorem dX12_asksBy_50 : decode cX12_asksBy 50 = .ok (.aload_n 0, 1) := by decide +kernel
theorem dX12_asksBy_51 : decode cX12_asksBy 51 = .ok (.getfield 71, 3) := by decide +kernel
theorem dX12_asksBy_54 : decode cX12_asksBy 54 = .ok (.iload_n 3, 1) := by decide +kernel
theorem dX12_asksBy_55 : decode cX12_asksBy 55 = .ok (.iaload, 1) := by decide +kernel
theorem dX12_asksBy_56 : decode cX12_asksBy 56 = .ok (.goto 10, 3) := by decide +kernel
theorem dX12_asksBy_59 : decode cX12_asksBy 59 = .ok (.aload_n 0, 1) := by decide +kernel
theorem dX12_asksBy_60 : decode cX12_asksBy 60 = .ok (.getfield 71, 3) := by decide +kernel
theorem dX12_asksBy_63 : decode cX12_asksBy 63 = .ok (.iload 4, 2) := by decide +kernel
theorem dX12_asksBy_65 : decode cX12_asksBy 65 = .ok (.iaload, 1) := by decide +kernel
theorem dX12_asksBy_66 : decode cX12_asksBy 66 = .ok (.iadd, 1) := by decide +kernel
theorem dX12_asksBy_67 : decode cX12_asksBy 67 = .ok (.ireturn, 1) := by decide +kernel
theorem dX12_asked_0 : decode cX12_asked 0 = .ok (.iload_n 1, 1) := by decide +kernel
