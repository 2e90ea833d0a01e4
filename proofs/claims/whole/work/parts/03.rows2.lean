theorem dX10_init_15 : decode cX10_init 15 = .ok (.newarray .int, 2) := by decide +kernel
theorem dX10_init_17 : decode cX10_init 17 = .ok (.putfield 15, 3) := by decide +kernel
theorem dX10_init_20 : decode cX10_init 20 = .ok (.aload_n 0, 1) := by decide +kernel
theorem dX10_init_21 : decode cX10_init 21 = .ok (.bipush 12, 2) := by decide +kernel
theorem dX10_init_23 : decode cX10_init 23 = .ok (.newarray .int, 2) := by decide +kernel
theorem dX10_init_25 : decode cX10_init 25 = .ok (.putfield 18, 3) := by decide +kernel
theorem dX10_init_28 : decode cX10_init 28 = .ok (.aload_n 0, 1) := by decide +kernel
theorem dX10_init_29 : decode cX10_init 29 = .ok (.bipush 12, 2) := by decide +kernel
theorem dX10_init_31 : decode cX10_init 31 = .ok (.newarray .int, 2) := by decide +kernel
theorem dX10_init_33 : decode cX10_init 33 = .ok (.putfield 21, 3) := by decide +kernel
theorem dX10_init_36 : decode cX10_init 36 = .ok (.aload_n 0, 1) := by decide +kernel
theorem dX10_init_37 : decode cX10_init 37 = .ok (.bipush 12, 2) := by decide +kernel
theorem dX10_init_39 : decode cX10_init 39 = .ok (.newarray .int, 2) := by decide +kernel
theorem dX10_init_41 : decode cX10_init 41 = .ok (.putfield 24, 3) := by decide +kernel
theorem dX10_init_44 : decode cX10_init 44 = .ok (.iconst 0, 1) := by decide +kernel
theorem dX10_init_45 : decode cX10_init 45 = .ok (.istore_n 1, 1) := by decide +kernel
theorem dX10_init_46 : decode cX10_init 46 = .ok (.iload_n 1, 1) := by decide +kernel
theorem dX10_init_47 : decode cX10_init 47 = .ok (.bipush 12, 2) := by decide +kernel
theorem dX10_init_49 : decode cX10_init 49 = .ok (.if_icmp .ge 17, 3) := by decide +kernel
theorem dX10_init_52 : decode cX10_init 52 = .ok (.aload_n 0, 1) := by decide +kernel
theorem dX10_init_53 : decode cX10_init 53 = .ok (.getfield 9, 3) := by decide +kernel
theorem dX10_init_56 : decode cX10_init 56 = .ok (.iload_n 1, 1) := by decide +kernel
theorem dX10_init_57 : decode cX10_init 57 = .ok (.bipush 10, 2) := by decide +kernel
theorem dX10_init_59 : decode cX10_init 59 = .ok (.iastore, 1) := by decide +kernel
theorem dX10_init_60 : decode cX10_init 60 = .ok (.iinc 1 1, 3) := by decide +kernel
theorem dX10_init_63 : decode cX10_init 63 = .ok (.goto (-17), 3) := by decide +kernel
theorem dX10_init_66 : decode cX10_init 66 = .ok (.return_, 1) := by decide +kernel
theorem dX10_copyFrom_0 : decode cX10_copyFrom 0 = .ok (.aload_n 1, 1) := by decide +kernel
theorem dX10_copyFrom_1 : decode cX10_copyFrom 1 = .ok (.getfield 9, 3) := by decide +kernel
theorem dX10_copyFrom_4 : decode cX10_copyFrom 4 = .ok (.iconst 0, 1) := by decide +kernel
theorem dX10_copyFrom_5 : decode cX10_copyFrom 5 = .ok (.aload_n 0, 1) := by decide +kernel
theorem dX10_copyFrom_6 : decode cX10_copyFrom 6 = .ok (.getfield 9, 3) := by decide +kernel
theorem dX10_copyFrom_9 : decode cX10_copyFrom 9 = .ok (.iconst 0, 1) := by decide +kernel
theorem dX10_copyFrom_10 : decode cX10_copyFrom 10 = .ok (.bipush 12, 2) := by decide +kernel
theorem dX10_copyFrom_12 : decode cX10_copyFrom 12 = .ok (.invokestatic 27, 3) := by decide +kernel
theorem dX10_copyFrom_15 : decode cX10_copyFrom 15 = .ok (.aload_n 1, 1) := by decide +kernel
theorem dX10_copyFrom_16 : decode cX10_copyFrom 16 = .ok (.getfield 15, 3) := by decide +kernel
theorem dX10_copyFrom_19 : decode cX10_copyFrom 19 = .ok (.iconst 0, 1) := by decide +kernel
theorem dX10_copyFrom_20 : decode cX10_copyFrom 20 = .ok (.aload_n 0, 1) := by decide +kernel
theorem dX10_copyFrom_21 : decode cX10_copyFrom 21 = .ok (.getfield 15, 3) := by decide +kernel
theorem dX10_copyFrom_24 : decode cX10_copyFrom 24 = .ok (.iconst 0, 1) := by decide +kernel
theorem dX10_copyFrom_25 : decode cX10_copyFrom 25 = .ok (.bipush 12, 2) := by decide +kernel
theorem dX10_copyFrom_27 : decode cX10_copyFrom 27 = .ok (.invokestatic 27, 3) := by decide +kernel
theorem dX10_copyFrom_30 : decode cX10_copyFrom 30 = .ok (.aload_n 1, 1) := by decide +kernel
theorem dX10_copyFrom_31 : decode cX10_copyFrom 31 = .ok (.getfield 18, 3) := by decide +kernel
theorem dX10_copyFrom_34 : decode cX10_copyFrom 34 = .ok (.iconst 0, 1) := by decide +kernel
theorem dX10_copyFrom_35 : decode cX10_copyFrom 35 = .ok (.aload_n 0, 1) := by decide +kernel
theorem dX10_copyFrom_36 : decode cX10_copyFrom 36 = .ok (.getfield 18, 3) := by decide +kernel
theorem dX10_copyFrom_39 : decode cX10_copyFrom 39 = .ok (.iconst 0, 1) := by decide +kernel
theorem dX10_copyFrom_40 : decode cX10_copyFrom 40 = .ok (.bipush 12, 2) := by decide +kernel
theorem dX10_copyFrom_42 : decode cX10_copyFrom 42 = .ok (.invokestatic 27, 3) := by decide +kernel
theorem dX10_copyFrom_45 : decode cX10_copyFrom 45 = .ok (.aload_n 1, 1) := by decide +kernel
theorem dX10_copyFrom_46 : decode cX10_copyFrom 46 = .ok (.getfield 21, 3) := by decide +kernel
theorem dX10_copyFrom_49 : decode cX10_copyFrom 49 = .ok (.iconst 0, 1) := by decide +kernel
theorem dX10_copyFrom_50 : decode cX10_copyFrom 50 = .ok (.aload_n 0, 1) := by decide +kernel
theorem dX10_copyFrom_51 : decode cX10_copyFrom 51 = .ok (.getfield 21, 3) := by decide +kernel
theorem dX10_copyFrom_54 : decode cX10_copyFrom 54 = .ok (.iconst 0, 1) := by decide +kernel
theorem dX10_copyFrom_55 : decode cX10_copyFrom 55 = .ok (.bipush 12, 2) := by decide +kernel
theorem dX10_copyFrom_57 : decode cX10_copyFrom 57 = .ok (.invokestatic 27, 3) := by decide +kernel
theorem dX10_copyFrom_60 : decode cX10_copyFrom 60 = .ok (.aload_n 1, 1) := by decide +kernel
theorem dX10_copyFrom_61 : decode cX10_copyFrom 61 = .ok (.getfield 24, 3) := by decide +kernel
theorem dX10_copyFrom_64 : decode cX10_copyFrom 64 = .ok (.iconst 0, 1) := by decide +kernel
theorem dX10_copyFrom_65 : decode cX10_copyFrom 65 = .ok (.aload_n 0, 1) := by decide +kernel
theorem dX10_copyFrom_66 : decode cX10_copyFrom 66 = .ok (.getfield 24, 3) := by decide +kernel
theorem dX10_copyFrom_69 : decode cX10_copyFrom 69 = .ok (.iconst 0, 1) := by decide +kernel
theorem dX10_copyFrom_70 : decode cX10_copyFrom 70 = .ok (.bipush 12, 2) := by decide +kernel
theorem dX10_copyFrom_72 : decode cX10_copyFrom 72 = .ok (.invokestatic 27, 3) := by decide +kernel
theorem dX10_copyFrom_75 : decode cX10_copyFrom 75 = .ok (.return_, 1) := by decide +kernel
theorem dX10_tellHanging_0 : decode cX10_tellHanging 0 = .ok (.iload_n 1, 1) := by decide +kernel
theorem dX10_tellHanging_1 : decode cX10_tellHanging 1 = .ok (.invokestatic 33, 3) := by decide +kernel
theorem dX10_tellHanging_4 : decode cX10_tellHanging 4 = .ok (.ifCond .eq 29, 3) := by decide +kernel
theorem dX10_tellHanging_7 : decode cX10_tellHanging 7 = .ok (.iload_n 2, 1) := by decide +kernel
theorem dX10_tellHanging_8 : decode cX10_tellHanging 8 = .ok (.invokestatic 33, 3) := by decide +kernel
theorem dX10_tellHanging_11 : decode cX10_tellHanging 11 = .ok (.ifCond .eq 22, 3) := by decide +kernel
theorem dX10_tellHanging_14 : decode cX10_tellHanging 14 = .ok (.iload_n 2, 1) := by decide +kernel
theorem dX10_tellHanging_15 : decode cX10_tellHanging 15 = .ok (.iload_n 1, 1) := by decide +kernel
theorem dX10_tellHanging_16 : decode cX10_tellHanging 16 = .ok (.if_icmp .le 17, 3) := by decide +kernel
theorem dX10_tellHanging_19 : decode cX10_tellHanging 19 = .ok (.aload_n 0, 1) := by decide +kernel
theorem dX10_tellHanging_20 : decode cX10_tellHanging 20 = .ok (.getfield 15, 3) := by decide +kernel
theorem dX10_tellHanging_23 : decode cX10_tellHanging 23 = .ok (.iload_n 1, 1) := by decide +kernel
theorem dX10_tellHanging_24 : decode cX10_tellHanging 24 = .ok (.iaload, 1) := by decide +kernel
theorem dX10_tellHanging_25 : decode cX10_tellHanging 25 = .ok (.iload_n 2, 1) := by decide +kernel
theorem dX10_tellHanging_26 : decode cX10_tellHanging 26 = .ok (.invokestatic 37, 3) := by decide +kernel
theorem dX10_tellHanging_29 : decode cX10_tellHanging 29 = .ok (.iload_n 3, 1) := by decide +kernel
theorem dX10_tellHanging_30 : decode cX10_tellHanging 30 = .ok (.if_icmp .ne 5, 3) := by decide +kernel
theorem dX10_tellHanging_33 : decode cX10_tellHanging 33 = .ok (.iconst 0, 1) := by decide +kernel
theorem dX10_tellHanging_34 : decode cX10_tellHanging 34 = .ok (.ireturn, 1) := by decide +kernel
theorem dX10_tellHanging_35 : decode cX10_tellHanging 35 = .ok (.aload_n 0, 1) := by decide +kernel
theorem dX10_tellHanging_36 : decode cX10_tellHanging 36 = .ok (.getfield 15, 3) := by decide +kernel
theorem dX10_tellHanging_39 : decode cX10_tellHanging 39 = .ok (.iload_n 1, 1) := by decide +kernel
theorem dX10_tellHanging_40 : decode cX10_tellHanging 40 = .ok (.dup2, 1) := by decide +kernel
theorem dX10_tellHanging_41 : decode cX10_tellHanging 41 = .ok (.iaload, 1) := by decide +kernel
theorem dX10_tellHanging_42 : decode cX10_tellHanging 42 = .ok (.iconst 1, 1) := by decide +kernel
theorem dX10_tellHanging_43 : decode cX10_tellHanging 43 = .ok (.iload_n 2, 1) := by decide +kernel
theorem dX10_tellHanging_44 : decode cX10_tellHanging 44 = .ok (.ishl, 1) := by decide +kernel
theorem dX10_tellHanging_45 : decode cX10_tellHanging 45 = .ok (.ixor, 1) := by decide +kernel
theorem dX10_tellHanging_46 : decode cX10_tellHanging 46 = .ok (.iastore, 1) := by decide +kernel
theorem dX10_tellHanging_47 : decode cX10_tellHanging 47 = .ok (.aload_n 0, 1) := by decide +kernel
theorem dX10_tellHanging_48 : decode cX10_tellHanging 48 = .ok (.invokevirtual 41, 3) := by decide +kernel
theorem dX10_tellHanging_51 : decode cX10_tellHanging 51 = .ok (.iconst 1, 1) := by decide +kernel
theorem dX10_tellHanging_52 : decode cX10_tellHanging 52 = .ok (.ireturn, 1) := by decide +kernel
theorem dX10_settle_0 : decode cX10_settle 0 = .ok (.bipush 11, 2) := by decide +kernel
theorem dX10_settle_2 : decode cX10_settle 2 = .ok (.istore_n 1, 1) := by decide +kernel
theorem dX10_settle_3 : decode cX10_settle 3 = .ok (.iload_n 1, 1) := by decide +kernel
theorem dX10_settle_4 : decode cX10_settle 4 = .ok (.ifCond .lt 98, 3) := by decide +kernel
theorem dX10_settle_7 : decode cX10_settle 7 = .ok (.aload_n 0, 1) := by decide +kernel
theorem dX10_settle_8 : decode cX10_settle 8 = .ok (.getfield 15, 3) := by decide +kernel
theorem dX10_settle_11 : decode cX10_settle 11 = .ok (.iload_n 1, 1) := by decide +kernel
theorem dX10_settle_12 : decode cX10_settle 12 = .ok (.iaload, 1) := by decide +kernel
theorem dX10_settle_13 : decode cX10_settle 13 = .ok (.istore_n 2, 1) := by decide +kernel
theorem dX10_settle_14 : decode cX10_settle 14 = .ok (.iconst 0, 1) := by decide +kernel
theorem dX10_settle_15 : decode cX10_settle 15 = .ok (.istore_n 3, 1) := by decide +kernel
theorem dX10_settle_16 : decode cX10_settle 16 = .ok (.iload_n 1, 1) := by decide +kernel
theorem dX10_settle_17 : decode cX10_settle 17 = .ok (.iconst 1, 1) := by decide +kernel
theorem dX10_settle_18 : decode cX10_settle 18 = .ok (.iadd, 1) := by decide +kernel
theorem dX10_settle_19 : decode cX10_settle 19 = .ok (.istore 4, 2) := by decide +kernel
theorem dX10_settle_21 : decode cX10_settle 21 = .ok (.iload 4, 2) := by decide +kernel
theorem dX10_settle_23 : decode cX10_settle 23 = .ok (.bipush 12, 2) := by decide +kernel
theorem dX10_settle_25 : decode cX10_settle 25 = .ok (.if_icmp .ge 47, 3) := by decide +kernel
theorem dX10_settle_28 : decode cX10_settle 28 = .ok (.aload_n 0, 1) := by decide +kernel
theorem dX10_settle_29 : decode cX10_settle 29 = .ok (.getfield 15, 3) := by decide +kernel
theorem dX10_settle_32 : decode cX10_settle 32 = .ok (.iload_n 1, 1) := by decide +kernel
theorem dX10_settle_33 : decode cX10_settle 33 = .ok (.iaload, 1) := by decide +kernel
theorem dX10_settle_34 : decode cX10_settle 34 = .ok (.iload 4, 2) := by decide +kernel
theorem dX10_settle_36 : decode cX10_settle 36 = .ok (.invokestatic 37, 3) := by decide +kernel
theorem dX10_settle_39 : decode cX10_settle 39 = .ok (.ifCond .eq 27, 3) := by decide +kernel
theorem dX10_settle_42 : decode cX10_settle 42 = .ok (.iload_n 2, 1) := by decide +kernel
theorem dX10_settle_43 : decode cX10_settle 43 = .ok (.aload_n 0, 1) := by decide +kernel
theorem dX10_settle_44 : decode cX10_settle 44 = .ok (.getfield 18, 3) := by decide +kernel
theorem dX10_settle_47 : decode cX10_settle 47 = .ok (.iload 4, 2) := by decide +kernel
theorem dX10_settle_49 : decode cX10_settle 49 = .ok (.iaload, 1) := by decide +kernel
theorem dX10_settle_50 : decode cX10_settle 50 = .ok (.ior, 1) := by decide +kernel
theorem dX10_settle_51 : decode cX10_settle 51 = .ok (.istore_n 2, 1) := by decide +kernel
theorem dX10_settle_52 : decode cX10_settle 52 = .ok (.iload_n 3, 1) := by decide +kernel
theorem dX10_settle_53 : decode cX10_settle 53 = .ok (.aload_n 0, 1) := by decide +kernel
theorem dX10_settle_54 : decode cX10_settle 54 = .ok (.getfield 24, 3) := by decide +kernel
theorem dX10_settle_57 : decode cX10_settle 57 = .ok (.iload 4, 2) := by decide +kernel
theorem dX10_settle_59 : decode cX10_settle 59 = .ok (.iaload, 1) := by decide +kernel
theorem dX10_settle_60 : decode cX10_settle 60 = .ok (.iconst 1, 1) := by decide +kernel
theorem dX10_settle_61 : decode cX10_settle 61 = .ok (.iadd, 1) := by decide +kernel
theorem dX10_settle_62 : decode cX10_settle 62 = .ok (.invokestatic 44, 3) := by decide +kernel
theorem dX10_settle_65 : decode cX10_settle 65 = .ok (.istore_n 3, 1) := by decide +kernel
theorem dX10_settle_66 : decode cX10_settle 66 = .ok (.iinc 4 1, 3) := by decide +kernel
theorem dX10_settle_69 : decode cX10_settle 69 = .ok (.goto (-48), 3) := by decide +kernel
theorem dX10_settle_72 : decode cX10_settle 72 = .ok (.aload_n 0, 1) := by decide +kernel
theorem dX10_settle_73 : decode cX10_settle 73 = .ok (.getfield 18, 3) := by decide +kernel
theorem dX10_settle_76 : decode cX10_settle 76 = .ok (.iload_n 1, 1) := by decide +kernel
theorem dX10_settle_77 : decode cX10_settle 77 = .ok (.iload_n 2, 1) := by decide +kernel
theorem dX10_settle_78 : decode cX10_settle 78 = .ok (.iastore, 1) := by decide +kernel
theorem dX10_settle_79 : decode cX10_settle 79 = .ok (.aload_n 0, 1) := by decide +kernel
theorem dX10_settle_80 : decode cX10_settle 80 = .ok (.getfield 21, 3) := by decide +kernel
theorem dX10_settle_83 : decode cX10_settle 83 = .ok (.iload_n 1, 1) := by decide +kernel
theorem dX10_settle_84 : decode cX10_settle 84 = .ok (.iload_n 2, 1) := by decide +kernel
theorem dX10_settle_85 : decode cX10_settle 85 = .ok (.invokestatic 50, 3) := by decide +kernel
theorem dX10_settle_88 : decode cX10_settle 88 = .ok (.iastore, 1) := by decide +kernel
theorem dX10_settle_89 : decode cX10_settle 89 = .ok (.aload_n 0, 1) := by decide +kernel
theorem dX10_settle_90 : decode cX10_settle 90 = .ok (.getfield 24, 3) := by decide +kernel
theorem dX10_settle_93 : decode cX10_settle 93 = .ok (.iload_n 1, 1) := by decide +kernel
theorem dX10_settle_94 : decode cX10_settle 94 = .ok (.iload_n 3, 1) := by decide +kernel
theorem dX10_settle_95 : decode cX10_settle 95 = .ok (.iastore, 1) := by decide +kernel
theorem dX10_settle_96 : decode cX10_settle 96 = .ok (.iinc 1 (-1), 3) := by decide +kernel
theorem dX10_settle_99 : decode cX10_settle 99 = .ok (.goto (-96), 3) := by decide +kernel
theorem dX10_settle_102 : decode cX10_settle 102 = .ok (.return_, 1) := by decide +kernel
theorem dX10_withLower_0 : decode cX10_withLower 0 = .ok (.iload_n 1, 1) := by decide +kernel
theorem dX10_withLower_1 : decode cX10_withLower 1 = .ok (.invokestatic 33, 3) := by decide +kernel
theorem dX10_withLower_4 : decode cX10_withLower 4 = .ok (.ifCond .eq 16, 3) := by decide +kernel
theorem dX10_withLower_7 : decode cX10_withLower 7 = .ok (.iconst 1, 1) := by decide +kernel
theorem dX10_withLower_8 : decode cX10_withLower 8 = .ok (.iload_n 1, 1) := by decide +kernel
theorem dX10_withLower_9 : decode cX10_withLower 9 = .ok (.ishl, 1) := by decide +kernel
theorem dX10_withLower_10 : decode cX10_withLower 10 = .ok (.aload_n 0, 1) := by decide +kernel
theorem dX10_withLower_11 : decode cX10_withLower 11 = .ok (.getfield 18, 3) := by decide +kernel
theorem dX10_withLower_14 : decode cX10_withLower 14 = .ok (.iload_n 1, 1) := by decide +kernel
theorem dX10_withLower_15 : decode cX10_withLower 15 = .ok (.iaload, 1) := by decide +kernel
theorem dX10_withLower_16 : decode cX10_withLower 16 = .ok (.ior, 1) := by decide +kernel
theorem dX10_withLower_17 : decode cX10_withLower 17 = .ok (.goto 4, 3) := by decide +kernel
theorem dX10_withLower_20 : decode cX10_withLower 20 = .ok (.iconst 0, 1) := by decide +kernel
theorem dX10_withLower_21 : decode cX10_withLower 21 = .ok (.ireturn, 1) := by decide +kernel
theorem dX10_painOf_0 : decode cX10_painOf 0 = .ok (.iconst 0, 1) := by decide +kernel
theorem dX10_painOf_1 : decode cX10_painOf 1 = .ok (.istore_n 2, 1) := by decide +kernel
theorem dX10_painOf_2 : decode cX10_painOf 2 = .ok (.iconst 0, 1) := by decide +kernel
theorem dX10_painOf_3 : decode cX10_painOf 3 = .ok (.istore_n 3, 1) := by decide +kernel
theorem dX10_painOf_4 : decode cX10_painOf 4 = .ok (.iload_n 3, 1) := by decide +kernel
theorem dX10_painOf_5 : decode cX10_painOf 5 = .ok (.bipush 12, 2) := by decide +kernel
theorem dX10_painOf_7 : decode cX10_painOf 7 = .ok (.if_icmp .ge 26, 3) := by decide +kernel
theorem dX10_painOf_10 : decode cX10_painOf 10 = .ok (.iload_n 1, 1) := by decide +kernel
theorem dX10_painOf_11 : decode cX10_painOf 11 = .ok (.iload_n 3, 1) := by decide +kernel
theorem dX10_painOf_12 : decode cX10_painOf 12 = .ok (.invokestatic 37, 3) := by decide +kernel
theorem dX10_painOf_15 : decode cX10_painOf 15 = .ok (.ifCond .eq 12, 3) := by decide +kernel
theorem dX10_painOf_18 : decode cX10_painOf 18 = .ok (.iload_n 2, 1) := by decide +kernel
theorem dX10_painOf_19 : decode cX10_painOf 19 = .ok (.aload_n 0, 1) := by decide +kernel
theorem dX10_painOf_20 : decode cX10_painOf 20 = .ok (.getfield 9, 3) := by decide +kernel
theorem dX10_painOf_23 : decode cX10_painOf 23 = .ok (.iload_n 3, 1) := by decide +kernel
theorem dX10_painOf_24 : decode cX10_painOf 24 = .ok (.iaload, 1) := by decide +kernel
theorem dX10_painOf_25 : decode cX10_painOf 25 = .ok (.iadd, 1) := by decide +kernel
theorem dX10_painOf_26 : decode cX10_painOf 26 = .ok (.istore_n 2, 1) := by decide +kernel
theorem dX10_painOf_27 : decode cX10_painOf 27 = .ok (.iinc 3 1, 3) := by decide +kernel
theorem dX10_painOf_30 : decode cX10_painOf 30 = .ok (.goto (-26), 3) := by decide +kernel
theorem dX10_painOf_33 : decode cX10_painOf 33 = .ok (.iload_n 2, 1) := by decide +kernel
theorem dX10_painOf_34 : decode cX10_painOf 34 = .ok (.ireturn, 1) := by decide +kernel
theorem dX11_init_0 : decode cX11_init 0 = .ok (.aload_n 0, 1) := by decide +kernel
theorem dX11_init_1 : decode cX11_init 1 = .ok (.invokespecial 3, 3) := by decide +kernel
theorem dX11_init_4 : decode cX11_init 4 = .ok (.aload_n 0, 1) := by decide +kernel
theorem dX11_init_5 : decode cX11_init 5 = .ok (.new 9, 3) := by decide +kernel
theorem dX11_init_8 : decode cX11_init 8 = .ok (.dup, 1) := by decide +kernel
theorem dX11_init_9 : decode cX11_init 9 = .ok (.invokespecial 11, 3) := by decide +kernel
theorem dX11_init_12 : decode cX11_init 12 = .ok (.putfield 12, 3) := by decide +kernel
theorem dX11_init_15 : decode cX11_init 15 = .ok (.aload_n 0, 1) := by decide +kernel
theorem dX11_init_16 : decode cX11_init 16 = .ok (.new 9, 3) := by decide +kernel
theorem dX11_init_19 : decode cX11_init 19 = .ok (.dup, 1) := by decide +kernel
theorem dX11_init_20 : decode cX11_init 20 = .ok (.invokespecial 11, 3) := by decide +kernel
theorem dX11_init_23 : decode cX11_init 23 = .ok (.putfield 16, 3) := by decide +kernel
theorem dX11_init_26 : decode cX11_init 26 = .ok (.aload_n 0, 1) := by decide +kernel
theorem dX11_init_27 : decode cX11_init 27 = .ok (.new 19, 3) := by decide +kernel
theorem dX11_init_30 : decode cX11_init 30 = .ok (.dup, 1) := by decide +kernel
theorem dX11_init_31 : decode cX11_init 31 = .ok (.invokespecial 21, 3) := by decide +kernel
theorem dX11_init_34 : decode cX11_init 34 = .ok (.putfield 22, 3) := by decide +kernel
theorem dX11_init_37 : decode cX11_init 37 = .ok (.aload_n 0, 1) := by decide +kernel
theorem dX11_init_38 : decode cX11_init 38 = .ok (.iconst 4, 1) := by decide +kernel
theorem dX11_init_39 : decode cX11_init 39 = .ok (.anewarray 26, 3) := by decide +kernel
theorem dX11_init_42 : decode cX11_init 42 = .ok (.putfield 28, 3) := by decide +kernel
theorem dX11_init_45 : decode cX11_init 45 = .ok (.iconst 0, 1) := by decide +kernel
theorem dX11_init_46 : decode cX11_init 46 = .ok (.istore_n 1, 1) := by decide +kernel
theorem dX11_init_47 : decode cX11_init 47 = .ok (.iload_n 1, 1) := by decide +kernel
theorem dX11_init_48 : decode cX11_init 48 = .ok (.iconst 4, 1) := by decide +kernel
theorem dX11_init_49 : decode cX11_init 49 = .ok (.if_icmp .ge 22, 3) := by decide +kernel
theorem dX11_init_52 : decode cX11_init 52 = .ok (.aload_n 0, 1) := by decide +kernel
theorem dX11_init_53 : decode cX11_init 53 = .ok (.getfield 28, 3) := by decide +kernel
theorem dX11_init_56 : decode cX11_init 56 = .ok (.iload_n 1, 1) := by decide +kernel
theorem dX11_init_57 : decode cX11_init 57 = .ok (.new 26, 3) := by decide +kernel
theorem dX11_init_60 : decode cX11_init 60 = .ok (.dup, 1) := by decide +kernel
theorem dX11_init_61 : decode cX11_init 61 = .ok (.invokespecial 32, 3) := by decide +kernel
theorem dX11_init_64 : decode cX11_init 64 = .ok (.aastore, 1) := by decide +kernel
theorem dX11_init_65 : decode cX11_init 65 = .ok (.iinc 1 1, 3) := by decide +kernel
theorem dX11_init_68 : decode cX11_init 68 = .ok (.goto (-21), 3) := by decide +kernel
theorem dX11_init_71 : decode cX11_init 71 = .ok (.aload_n 0, 1) := by decide +kernel
theorem dX11_init_72 : decode cX11_init 72 = .ok (.new 33, 3) := by decide +kernel
theorem dX11_init_75 : decode cX11_init 75 = .ok (.dup, 1) := by decide +kernel
theorem dX11_init_76 : decode cX11_init 76 = .ok (.aload_n 0, 1) := by decide +kernel
theorem dX11_init_77 : decode cX11_init 77 = .ok (.getfield 28, 3) := by decide +kernel
theorem dX11_init_80 : decode cX11_init 80 = .ok (.iconst 0, 1) := by decide +kernel
theorem dX11_init_81 : decode cX11_init 81 = .ok (.aaload, 1) := by decide +kernel
theorem dX11_init_82 : decode cX11_init 82 = .ok (.invokespecial 35, 3) := by decide +kernel
theorem dX11_init_85 : decode cX11_init 85 = .ok (.putfield 38, 3) := by decide +kernel
theorem dX11_init_88 : decode cX11_init 88 = .ok (.aload_n 0, 1) := by decide +kernel
theorem dX11_init_89 : decode cX11_init 89 = .ok (.new 42, 3) := by decide +kernel
theorem dX11_init_92 : decode cX11_init 92 = .ok (.dup, 1) := by decide +kernel
theorem dX11_init_93 : decode cX11_init 93 = .ok (.aload_n 0, 1) := by decide +kernel
theorem dX11_init_94 : decode cX11_init 94 = .ok (.getfield 12, 3) := by decide +kernel
theorem dX11_init_97 : decode cX11_init 97 = .ok (.getfield 44, 3) := by decide +kernel
theorem dX11_init_100 : decode cX11_init 100 = .ok (.invokespecial 48, 3) := by decide +kernel
theorem dX11_init_103 : decode cX11_init 103 = .ok (.putfield 51, 3) := by decide +kernel
theorem dX11_init_106 : decode cX11_init 106 = .ok (.aload_n 0, 1) := by decide +kernel
theorem dX11_init_107 : decode cX11_init 107 = .ok (.new 55, 3) := by decide +kernel
theorem dX11_init_110 : decode cX11_init 110 = .ok (.dup, 1) := by decide +kernel
theorem dX11_init_111 : decode cX11_init 111 = .ok (.aload_n 0, 1) := by decide +kernel
theorem dX11_init_112 : decode cX11_init 112 = .ok (.getfield 12, 3) := by decide +kernel
theorem dX11_init_115 : decode cX11_init 115 = .ok (.aload_n 0, 1) := by decide +kernel
theorem dX11_init_116 : decode cX11_init 116 = .ok (.getfield 28, 3) := by decide +kernel
theorem dX11_init_119 : decode cX11_init 119 = .ok (.aload_n 0, 1) := by decide +kernel
theorem dX11_init_120 : decode cX11_init 120 = .ok (.getfield 51, 3) := by decide +kernel
theorem dX11_init_123 : decode cX11_init 123 = .ok (.invokespecial 57, 3) := by decide +kernel
theorem dX11_init_126 : decode cX11_init 126 = .ok (.putfield 60, 3) := by decide +kernel
theorem dX11_init_129 : decode cX11_init 129 = .ok (.aload_n 0, 1) := by decide +kernel
theorem dX11_init_130 : decode cX11_init 130 = .ok (.new 64, 3) := by decide +kernel
theorem dX11_init_133 : decode cX11_init 133 = .ok (.dup, 1) := by decide +kernel
theorem dX11_init_134 : decode cX11_init 134 = .ok (.aload_n 0, 1) := by decide +kernel
theorem dX11_init_135 : decode cX11_init 135 = .ok (.getfield 12, 3) := by decide +kernel
theorem dX11_init_138 : decode cX11_init 138 = .ok (.getfield 44, 3) := by decide +kernel
theorem dX11_init_141 : decode cX11_init 141 = .ok (.invokespecial 66, 3) := by decide +kernel
theorem dX11_init_144 : decode cX11_init 144 = .ok (.putfield 67, 3) := by decide +kernel
theorem dX11_init_147 : decode cX11_init 147 = .ok (.aload_n 0, 1) := by decide +kernel
theorem dX11_init_148 : decode cX11_init 148 = .ok (.new 71, 3) := by decide +kernel
theorem dX11_init_151 : decode cX11_init 151 = .ok (.dup, 1) := by decide +kernel
theorem dX11_init_152 : decode cX11_init 152 = .ok (.aload_n 0, 1) := by decide +kernel
theorem dX11_init_153 : decode cX11_init 153 = .ok (.getfield 12, 3) := by decide +kernel
theorem dX11_init_156 : decode cX11_init 156 = .ok (.getfield 44, 3) := by decide +kernel
theorem dX11_init_159 : decode cX11_init 159 = .ok (.invokespecial 73, 3) := by decide +kernel
theorem dX11_init_162 : decode cX11_init 162 = .ok (.putfield 74, 3) := by decide +kernel
theorem dX11_init_165 : decode cX11_init 165 = .ok (.aload_n 0, 1) := by decide +kernel
theorem dX11_init_166 : decode cX11_init 166 = .ok (.new 78, 3) := by decide +kernel
theorem dX11_init_169 : decode cX11_init 169 = .ok (.dup, 1) := by decide +kernel
theorem dX11_init_170 : decode cX11_init 170 = .ok (.aload_n 0, 1) := by decide +kernel
theorem dX11_init_171 : decode cX11_init 171 = .ok (.getfield 12, 3) := by decide +kernel
theorem dX11_init_174 : decode cX11_init 174 = .ok (.invokespecial 80, 3) := by decide +kernel
theorem dX11_init_177 : decode cX11_init 177 = .ok (.putfield 83, 3) := by decide +kernel
theorem dX11_init_180 : decode cX11_init 180 = .ok (.aload_n 0, 1) := by decide +kernel
theorem dX11_init_181 : decode cX11_init 181 = .ok (.sipush 300, 3) := by decide +kernel
theorem dX11_init_184 : decode cX11_init 184 = .ok (.newarray .int, 2) := by decide +kernel
theorem dX11_init_186 : decode cX11_init 186 = .ok (.putfield 87, 3) := by decide +kernel
theorem dX11_init_189 : decode cX11_init 189 = .ok (.aload_n 0, 1) := by decide +kernel
theorem dX11_init_190 : decode cX11_init 190 = .ok (.iconst 0, 1) := by decide +kernel
theorem dX11_init_191 : decode cX11_init 191 = .ok (.putfield 91, 3) := by decide +kernel
theorem dX11_init_194 : decode cX11_init 194 = .ok (.return_, 1) := by decide +kernel
theorem dX11_pain_0 : decode cX11_pain 0 = .ok (.iload_n 1, 1) := by decide +kernel
theorem dX11_pain_1 : decode cX11_pain 1 = .ok (.invokestatic 95, 3) := by decide +kernel
theorem dX11_pain_4 : decode cX11_pain 4 = .ok (.ifCond .eq 13, 3) := by decide +kernel
theorem dX11_pain_7 : decode cX11_pain 7 = .ok (.iload_n 2, 1) := by decide +kernel
theorem dX11_pain_8 : decode cX11_pain 8 = .ok (.ifCond .lt 9, 3) := by decide +kernel
theorem dX11_pain_11 : decode cX11_pain 11 = .ok (.iload_n 2, 1) := by decide +kernel
theorem dX11_pain_12 : decode cX11_pain 12 = .ok (.bipush 99, 2) := by decide +kernel
theorem dX11_pain_14 : decode cX11_pain 14 = .ok (.if_icmp .le 5, 3) := by decide +kernel
theorem dX11_pain_17 : decode cX11_pain 17 = .ok (.iconst 0, 1) := by decide +kernel
theorem dX11_pain_18 : decode cX11_pain 18 = .ok (.ireturn, 1) := by decide +kernel
theorem dX11_pain_19 : decode cX11_pain 19 = .ok (.aload_n 0, 1) := by decide +kernel
theorem dX11_pain_20 : decode cX11_pain 20 = .ok (.getfield 12, 3) := by decide +kernel
theorem dX11_pain_23 : decode cX11_pain 23 = .ok (.getfield 44, 3) := by decide +kernel
theorem dX11_pain_26 : decode cX11_pain 26 = .ok (.getfield 99, 3) := by decide +kernel
theorem dX11_pain_29 : decode cX11_pain 29 = .ok (.iload_n 1, 1) := by decide +kernel
theorem dX11_pain_30 : decode cX11_pain 30 = .ok (.iload_n 2, 1) := by decide +kernel
theorem dX11_pain_31 : decode cX11_pain 31 = .ok (.iastore, 1) := by decide +kernel
theorem dX11_pain_32 : decode cX11_pain 32 = .ok (.iconst 1, 1) := by decide +kernel
theorem dX11_pain_33 : decode cX11_pain 33 = .ok (.ireturn, 1) := by decide +kernel
theorem dX11_hang_0 : decode cX11_hang 0 = .ok (.aload_n 0, 1) := by decide +kernel
theorem dX11_hang_1 : decode cX11_hang 1 = .ok (.getfield 12, 3) := by decide +kernel
theorem dX11_hang_4 : decode cX11_hang 4 = .ok (.getfield 44, 3) := by decide +kernel
theorem dX11_hang_7 : decode cX11_hang 7 = .ok (.iload_n 1, 1) := by decide +kernel
theorem dX11_hang_8 : decode cX11_hang 8 = .ok (.iload_n 2, 1) := by decide +kernel
theorem dX11_hang_9 : decode cX11_hang 9 = .ok (.iload_n 3, 1) := by decide +kernel
theorem dX11_hang_10 : decode cX11_hang 10 = .ok (.invokevirtual 104, 3) := by decide +kernel
theorem dX11_hang_13 : decode cX11_hang 13 = .ok (.ireturn, 1) := by decide +kernel
theorem dX11_person_0 : decode cX11_person 0 = .ok (.iload_n 1, 1) := by decide +kernel
theorem dX11_person_1 : decode cX11_person 1 = .ok (.invokestatic 95, 3) := by decide +kernel
theorem dX11_person_4 : decode cX11_person 4 = .ok (.ifCond .eq 13, 3) := by decide +kernel
theorem dX11_person_7 : decode cX11_person 7 = .ok (.iload_n 2, 1) := by decide +kernel
theorem dX11_person_8 : decode cX11_person 8 = .ok (.ifCond .lt 9, 3) := by decide +kernel
theorem dX11_person_11 : decode cX11_person 11 = .ok (.iload_n 2, 1) := by decide +kernel
theorem dX11_person_12 : decode cX11_person 12 = .ok (.bipush 99, 2) := by decide +kernel
theorem dX11_person_14 : decode cX11_person 14 = .ok (.if_icmp .le 5, 3) := by decide +kernel
theorem dX11_person_17 : decode cX11_person 17 = .ok (.iconst (-1), 1) := by decide +kernel
theorem dX11_person_18 : decode cX11_person 18 = .ok (.ireturn, 1) := by decide +kernel
theorem dX11_person_19 : decode cX11_person 19 = .ok (.aload_n 0, 1) := by decide +kernel
theorem dX11_person_20 : decode cX11_person 20 = .ok (.getfield 12, 3) := by decide +kernel
theorem dX11_person_23 : decode cX11_person 23 = .ok (.iload_n 1, 1) := by decide +kernel
theorem dX11_person_24 : decode cX11_person 24 = .ok (.iload_n 2, 1) := by decide +kernel
theorem dX11_person_25 : decode cX11_person 25 = .ok (.invokevirtual 108, 3) := by decide +kernel
theorem dX11_person_28 : decode cX11_person 28 = .ok (.ireturn, 1) := by decide +kernel
theorem dX11_feed_0 : decode cX11_feed 0 = .ok (.aload_n 0, 1) := by decide +kernel
theorem dX11_feed_1 : decode cX11_feed 1 = .ok (.getfield 91, 3) := by decide +kernel
theorem dX11_feed_4 : decode cX11_feed 4 = .ok (.bipush 20, 2) := by decide +kernel
theorem dX11_feed_6 : decode cX11_feed 6 = .ok (.iadd, 1) := by decide +kernel
theorem dX11_feed_7 : decode cX11_feed 7 = .ok (.sipush 300, 3) := by decide +kernel
theorem dX11_feed_10 : decode cX11_feed 10 = .ok (.if_icmp .le 5, 3) := by decide +kernel
theorem dX11_feed_13 : decode cX11_feed 13 = .ok (.iconst (-1), 1) := by decide +kernel
theorem dX11_feed_14 : decode cX11_feed 14 = .ok (.ireturn, 1) := by decide +kernel
theorem dX11_feed_15 : decode cX11_feed 15 = .ok (.aload_n 0, 1) := by decide +kernel
theorem dX11_feed_16 : decode cX11_feed 16 = .ok (.iload_n 1, 1) := by decide +kernel
theorem dX11_feed_17 : decode cX11_feed 17 = .ok (.invokevirtual 112, 3) := by decide +kernel
theorem dX11_feed_20 : decode cX11_feed 20 = .ok (.aload_n 0, 1) := by decide +kernel
theorem dX11_feed_21 : decode cX11_feed 21 = .ok (.iload_n 2, 1) := by decide +kernel
theorem dX11_feed_22 : decode cX11_feed 22 = .ok (.invokevirtual 112, 3) := by decide +kernel
theorem dX11_feed_25 : decode cX11_feed 25 = .ok (.aload_n 0, 1) := by decide +kernel
theorem dX11_feed_26 : decode cX11_feed 26 = .ok (.iload_n 3, 1) := by decide +kernel
theorem dX11_feed_27 : decode cX11_feed 27 = .ok (.invokevirtual 112, 3) := by decide +kernel
theorem dX11_feed_30 : decode cX11_feed 30 = .ok (.aload_n 0, 1) := by decide +kernel
theorem dX11_feed_31 : decode cX11_feed 31 = .ok (.iload 4, 2) := by decide +kernel
theorem dX11_feed_33 : decode cX11_feed 33 = .ok (.invokevirtual 112, 3) := by decide +kernel
theorem dX11_feed_36 : decode cX11_feed 36 = .ok (.aload_n 0, 1) := by decide +kernel
theorem dX11_feed_37 : decode cX11_feed 37 = .ok (.iload 5, 2) := by decide +kernel
theorem dX11_feed_39 : decode cX11_feed 39 = .ok (.invokevirtual 112, 3) := by decide +kernel
theorem dX11_feed_42 : decode cX11_feed 42 = .ok (.aload_n 0, 1) := by decide +kernel
theorem dX11_feed_43 : decode cX11_feed 43 = .ok (.getfield 91, 3) := by decide +kernel
theorem dX11_feed_46 : decode cX11_feed 46 = .ok (.ireturn, 1) := by decide +kernel
theorem dX11_putFour_0 : decode cX11_putFour 0 = .ok (.bipush 24, 2) := by decide +kernel
theorem dX11_putFour_2 : decode cX11_putFour 2 = .ok (.istore_n 2, 1) := by decide +kernel
theorem dX11_putFour_3 : decode cX11_putFour 3 = .ok (.iload_n 2, 1) := by decide +kernel
theorem dX11_putFour_4 : decode cX11_putFour 4 = .ok (.ifCond .lt 52, 3) := by decide +kernel
theorem dX11_putFour_7 : decode cX11_putFour 7 = .ok (.aload_n 0, 1) := by decide +kernel
theorem dX11_putFour_8 : decode cX11_putFour 8 = .ok (.getfield 91, 3) := by decide +kernel
theorem dX11_putFour_11 : decode cX11_putFour 11 = .ok (.ifCond .lt 39, 3) := by decide +kernel
theorem dX11_putFour_14 : decode cX11_putFour 14 = .ok (.aload_n 0, 1) := by decide +kernel
theorem dX11_putFour_15 : decode cX11_putFour 15 = .ok (.getfield 91, 3) := by decide +kernel
theorem dX11_putFour_18 : decode cX11_putFour 18 = .ok (.sipush 300, 3) := by decide +kernel
theorem dX11_putFour_21 : decode cX11_putFour 21 = .ok (.if_icmp .ge 29, 3) := by decide +kernel
theorem dX11_putFour_24 : decode cX11_putFour 24 = .ok (.aload_n 0, 1) := by decide +kernel
theorem dX11_putFour_25 : decode cX11_putFour 25 = .ok (.getfield 87, 3) := by decide +kernel
theorem dX11_putFour_28 : decode cX11_putFour 28 = .ok (.aload_n 0, 1) := by decide +kernel
theorem dX11_putFour_29 : decode cX11_putFour 29 = .ok (.getfield 91, 3) := by decide +kernel
theorem dX11_putFour_32 : decode cX11_putFour 32 = .ok (.iload_n 1, 1) := by decide +kernel
theorem dX11_putFour_33 : decode cX11_putFour 33 = .ok (.iload_n 2, 1) := by decide +kernel
theorem dX11_putFour_34 : decode cX11_putFour 34 = .ok (.ishr, 1) := by decide +kernel
theorem dX11_putFour_35 : decode cX11_putFour 35 = .ok (.sipush 255, 3) := by decide +kernel
theorem dX11_putFour_38 : decode cX11_putFour 38 = .ok (.iand, 1) := by decide +kernel
theorem dX11_putFour_39 : decode cX11_putFour 39 = .ok (.iastore, 1) := by decide +kernel
theorem dX11_putFour_40 : decode cX11_putFour 40 = .ok (.aload_n 0, 1) := by decide +kernel
theorem dX11_putFour_41 : decode cX11_putFour 41 = .ok (.dup, 1) := by decide +kernel
theorem dX11_putFour_42 : decode cX11_putFour 42 = .ok (.getfield 91, 3) := by decide +kernel
theorem dX11_putFour_45 : decode cX11_putFour 45 = .ok (.iconst 1, 1) := by decide +kernel
theorem dX11_putFour_46 : decode cX11_putFour 46 = .ok (.iadd, 1) := by decide +kernel
theorem dX11_putFour_47 : decode cX11_putFour 47 = .ok (.putfield 91, 3) := by decide +kernel
theorem dX11_putFour_50 : decode cX11_putFour 50 = .ok (.iinc 2 (-8), 3) := by decide +kernel
theorem dX11_putFour_53 : decode cX11_putFour 53 = .ok (.goto (-50), 3) := by decide +kernel
theorem dX11_putFour_56 : decode cX11_putFour 56 = .ok (.return_, 1) := by decide +kernel
theorem dX11_end_0 : decode cX11_end 0 = .ok (.iload_n 1, 1) := by decide +kernel
theorem dX11_end_1 : decode cX11_end 1 = .ok (.ifCond .lt 11, 3) := by decide +kernel
theorem dX11_end_4 : decode cX11_end 4 = .ok (.iload_n 1, 1) := by decide +kernel
theorem dX11_end_5 : decode cX11_end 5 = .ok (.aload_n 0, 1) := by decide +kernel
theorem dX11_end_6 : decode cX11_end 6 = .ok (.getfield 91, 3) := by decide +kernel
theorem dX11_end_9 : decode cX11_end 9 = .ok (.if_icmp .le 5, 3) := by decide +kernel
theorem dX11_end_12 : decode cX11_end 12 = .ok (.iconst (-1), 1) := by decide +kernel
theorem dX11_end_13 : decode cX11_end 13 = .ok (.ireturn, 1) := by decide +kernel
theorem dX11_end_14 : decode cX11_end 14 = .ok (.aload_n 0, 1) := by decide +kernel
theorem dX11_end_15 : decode cX11_end 15 = .ok (.iload_n 1, 1) := by decide +kernel
theorem dX11_end_16 : decode cX11_end 16 = .ok (.putfield 91, 3) := by decide +kernel
theorem dX11_end_19 : decode cX11_end 19 = .ok (.iload_n 1, 1) := by decide +kernel
theorem dX11_end_20 : decode cX11_end 20 = .ok (.ireturn, 1) := by decide +kernel
theorem dX11_text_0 : decode cX11_text 0 = .ok (.aload_n 0, 1) := by decide +kernel
theorem dX11_text_1 : decode cX11_text 1 = .ok (.getfield 12, 3) := by decide +kernel
theorem dX11_text_4 : decode cX11_text 4 = .ok (.getfield 116, 3) := by decide +kernel
theorem dX11_text_7 : decode cX11_text 7 = .ok (.istore_n 1, 1) := by decide +kernel
theorem dX11_text_8 : decode cX11_text 8 = .ok (.iload_n 1, 1) := by decide +kernel
theorem dX11_text_9 : decode cX11_text 9 = .ok (.ifCond .lt 8, 3) := by decide +kernel
theorem dX11_text_12 : decode cX11_text 12 = .ok (.iload_n 1, 1) := by decide +kernel
theorem dX11_text_13 : decode cX11_text 13 = .ok (.iconst 4, 1) := by decide +kernel
theorem dX11_text_14 : decode cX11_text 14 = .ok (.if_icmp .lt 5, 3) := by decide +kernel
theorem dX11_text_17 : decode cX11_text 17 = .ok (.iconst (-1), 1) := by decide +kernel
theorem dX11_text_18 : decode cX11_text 18 = .ok (.ireturn, 1) := by decide +kernel
theorem dX11_text_19 : decode cX11_text 19 = .ok (.aload_n 0, 1) := by decide +kernel
theorem dX11_text_20 : decode cX11_text 20 = .ok (.getfield 38, 3) := by decide +kernel
theorem dX11_text_23 : decode cX11_text 23 = .ok (.aload_n 0, 1) := by decide +kernel
theorem dX11_text_24 : decode cX11_text 24 = .ok (.getfield 87, 3) := by decide +kernel
theorem dX11_text_27 : decode cX11_text 27 = .ok (.aload_n 0, 1) := by decide +kernel
theorem dX11_text_28 : decode cX11_text 28 = .ok (.getfield 91, 3) := by decide +kernel
theorem dX11_text_31 : decode cX11_text 31 = .ok (.aload_n 0, 1) := by decide +kernel
theorem dX11_text_32 : decode cX11_text 32 = .ok (.getfield 28, 3) := by decide +kernel
theorem dX11_text_35 : decode cX11_text 35 = .ok (.iload_n 1, 1) := by decide +kernel
theorem dX11_text_36 : decode cX11_text 36 = .ok (.aaload, 1) := by decide +kernel
theorem dX11_text_37 : decode cX11_text 37 = .ok (.invokevirtual 119, 3) := by decide +kernel
theorem dX11_text_40 : decode cX11_text 40 = .ok (.aload_n 0, 1) := by decide +kernel
theorem dX11_text_41 : decode cX11_text 41 = .ok (.iconst 0, 1) := by decide +kernel
theorem dX11_text_42 : decode cX11_text 42 = .ok (.putfield 91, 3) := by decide +kernel
theorem dX11_text_45 : decode cX11_text 45 = .ok (.aload_n 0, 1) := by decide +kernel
theorem dX11_text_46 : decode cX11_text 46 = .ok (.getfield 38, 3) := by decide +kernel
theorem dX11_text_49 : decode cX11_text 49 = .ok (.getfield 123, 3) := by decide +kernel
theorem dX11_text_52 : decode cX11_text 52 = .ok (.ifCond .eq 5, 3) := by decide +kernel
theorem dX11_text_55 : decode cX11_text 55 = .ok (.iconst (-1), 1) := by decide +kernel
theorem dX11_text_56 : decode cX11_text 56 = .ok (.ireturn, 1) := by decide +kernel
theorem dX11_text_57 : decode cX11_text 57 = .ok (.aload_n 0, 1) := by decide +kernel
theorem dX11_text_58 : decode cX11_text 58 = .ok (.getfield 12, 3) := by decide +kernel
theorem dX11_text_61 : decode cX11_text 61 = .ok (.dup, 1) := by decide +kernel
theorem dX11_text_62 : decode cX11_text 62 = .ok (.getfield 116, 3) := by decide +kernel
theorem dX11_text_65 : decode cX11_text 65 = .ok (.iconst 1, 1) := by decide +kernel
theorem dX11_text_66 : decode cX11_text 66 = .ok (.iadd, 1) := by decide +kernel
theorem dX11_text_67 : decode cX11_text 67 = .ok (.putfield 116, 3) := by decide +kernel
theorem dX11_text_70 : decode cX11_text 70 = .ok (.iload_n 1, 1) := by decide +kernel
theorem dX11_text_71 : decode cX11_text 71 = .ok (.ireturn, 1) := by decide +kernel
theorem dX11_fault_0 : decode cX11_fault 0 = .ok (.aload_n 0, 1) := by decide +kernel
theorem dX11_fault_1 : decode cX11_fault 1 = .ok (.getfield 38, 3) := by decide +kernel
theorem dX11_fault_4 : decode cX11_fault 4 = .ok (.getfield 126, 3) := by decide +kernel
theorem dX11_fault_7 : decode cX11_fault 7 = .ok (.ifCond .ne 5, 3) := by decide +kernel
theorem dX11_fault_10 : decode cX11_fault 10 = .ok (.iconst (-1), 1) := by decide +kernel
theorem dX11_fault_11 : decode cX11_fault 11 = .ok (.ireturn, 1) := by decide +kernel
theorem dX11_fault_12 : decode cX11_fault 12 = .ok (.iload_n 1, 1) := by decide +kernel
theorem dX11_fault_13 : decode cX11_fault 13 = .ok (.ifCond .ne 11, 3) := by decide +kernel
theorem dX11_fault_16 : decode cX11_fault 16 = .ok (.aload_n 0, 1) := by decide +kernel
theorem dX11_fault_17 : decode cX11_fault 17 = .ok (.getfield 38, 3) := by decide +kernel
theorem dX11_fault_20 : decode cX11_fault 20 = .ok (.getfield 123, 3) := by decide +kernel
theorem dX11_fault_23 : decode cX11_fault 23 = .ok (.ireturn, 1) := by decide +kernel
theorem dX11_fault_24 : decode cX11_fault 24 = .ok (.iload_n 1, 1) := by decide +kernel
theorem dX11_fault_25 : decode cX11_fault 25 = .ok (.iconst 1, 1) := by decide +kernel
theorem dX11_fault_26 : decode cX11_fault 26 = .ok (.if_icmp .ne 13, 3) := by decide +kernel
theorem dX11_fault_29 : decode cX11_fault 29 = .ok (.aload_n 0, 1) := by decide +kernel
theorem dX11_fault_30 : decode cX11_fault 30 = .ok (.getfield 38, 3) := by decide +kernel
theorem dX11_fault_33 : decode cX11_fault 33 = .ok (.getfield 130, 3) := by decide +kernel
theorem dX11_fault_36 : decode cX11_fault 36 = .ok (.goto 4, 3) := by decide +kernel
theorem dX11_fault_39 : decode cX11_fault 39 = .ok (.iconst (-1), 1) := by decide +kernel
theorem dX11_fault_40 : decode cX11_fault 40 = .ok (.ireturn, 1) := by decide +kernel
theorem dX11_by_0 : decode cX11_by 0 = .ok (.iload_n 1, 1) := by decide +kernel
theorem dX11_by_1 : decode cX11_by 1 = .ok (.iconst (-1), 1) := by decide +kernel
theorem dX11_by_2 : decode cX11_by 2 = .ok (.if_icmp .eq 13, 3) := by decide +kernel
theorem dX11_by_5 : decode cX11_by 5 = .ok (.aload_n 0, 1) := by decide +kernel
theorem dX11_by_6 : decode cX11_by 6 = .ok (.iload_n 1, 1) := by decide +kernel
theorem dX11_by_7 : decode cX11_by 7 = .ok (.invokevirtual 133, 3) := by decide +kernel
theorem dX11_by_10 : decode cX11_by 10 = .ok (.ifCond .ne 5, 3) := by decide +kernel
theorem dX11_by_13 : decode cX11_by 13 = .ok (.iconst 0, 1) := by decide +kernel
theorem dX11_by_14 : decode cX11_by 14 = .ok (.ireturn, 1) := by decide +kernel
theorem dX11_by_15 : decode cX11_by 15 = .ok (.aload_n 0, 1) := by decide +kernel
theorem dX11_by_16 : decode cX11_by 16 = .ok (.getfield 12, 3) := by decide +kernel
theorem dX11_by_19 : decode cX11_by 19 = .ok (.iload_n 1, 1) := by decide +kernel
theorem dX11_by_20 : decode cX11_by 20 = .ok (.putfield 136, 3) := by decide +kernel
theorem dX11_by_23 : decode cX11_by 23 = .ok (.iconst 1, 1) := by decide +kernel
theorem dX11_by_24 : decode cX11_by 24 = .ok (.ireturn, 1) := by decide +kernel
theorem dX11_ask_0 : decode cX11_ask 0 = .ok (.aload_n 0, 1) := by decide +kernel
theorem dX11_ask_1 : decode cX11_ask 1 = .ok (.getfield 12, 3) := by decide +kernel
theorem dX11_ask_4 : decode cX11_ask 4 = .ok (.getfield 139, 3) := by decide +kernel
theorem dX11_ask_7 : decode cX11_ask 7 = .ok (.iload_n 1, 1) := by decide +kernel
theorem dX11_ask_8 : decode cX11_ask 8 = .ok (.invokevirtual 142, 3) := by decide +kernel
theorem dX11_ask_11 : decode cX11_ask 11 = .ok (.ifCond .ne 5, 3) := by decide +kernel
theorem dX11_ask_14 : decode cX11_ask 14 = .ok (.iconst (-1), 1) := by decide +kernel
theorem dX11_ask_15 : decode cX11_ask 15 = .ok (.ireturn, 1) := by decide +kernel
theorem dX11_ask_16 : decode cX11_ask 16 = .ok (.aload_n 0, 1) := by decide +kernel
theorem dX11_ask_17 : decode cX11_ask 17 = .ok (.getfield 12, 3) := by decide +kernel
theorem dX11_ask_20 : decode cX11_ask 20 = .ok (.invokevirtual 145, 3) := by decide +kernel
theorem dX11_ask_23 : decode cX11_ask 23 = .ok (.aload_n 0, 1) := by decide +kernel
theorem dX11_ask_24 : decode cX11_ask 24 = .ok (.getfield 60, 3) := by decide +kernel
theorem dX11_ask_27 : decode cX11_ask 27 = .ok (.aload_n 0, 1) := by decide +kernel
theorem dX11_ask_28 : decode cX11_ask 28 = .ok (.getfield 12, 3) := by decide +kernel
theorem dX11_ask_31 : decode cX11_ask 31 = .ok (.getfield 139, 3) := by decide +kernel
theorem dX11_ask_34 : decode cX11_ask 34 = .ok (.iload_n 1, 1) := by decide +kernel
theorem dX11_ask_35 : decode cX11_ask 35 = .ok (.invokevirtual 148, 3) := by decide +kernel
theorem dX11_ask_38 : decode cX11_ask 38 = .ok (.ireturn, 1) := by decide +kernel
theorem dX11_give_0 : decode cX11_give 0 = .ok (.aload_n 0, 1) := by decide +kernel
theorem dX11_give_1 : decode cX11_give 1 = .ok (.getfield 60, 3) := by decide +kernel
theorem dX11_give_4 : decode cX11_give 4 = .ok (.aload_n 0, 1) := by decide +kernel
theorem dX11_give_5 : decode cX11_give 5 = .ok (.getfield 12, 3) := by decide +kernel
theorem dX11_give_8 : decode cX11_give 8 = .ok (.getfield 139, 3) := by decide +kernel
theorem dX11_give_11 : decode cX11_give 11 = .ok (.iload_n 1, 1) := by decide +kernel
theorem dX11_give_12 : decode cX11_give 12 = .ok (.iload_n 2, 1) := by decide +kernel
theorem dX11_give_13 : decode cX11_give 13 = .ok (.invokevirtual 152, 3) := by decide +kernel
theorem dX11_give_16 : decode cX11_give 16 = .ok (.ifCond .ne 5, 3) := by decide +kernel
theorem dX11_give_19 : decode cX11_give 19 = .ok (.iconst 0, 1) := by decide +kernel
theorem dX11_give_20 : decode cX11_give 20 = .ok (.ireturn, 1) := by decide +kernel
theorem dX11_give_21 : decode cX11_give 21 = .ok (.aload_n 0, 1) := by decide +kernel
theorem dX11_give_22 : decode cX11_give 22 = .ok (.getfield 12, 3) := by decide +kernel
theorem dX11_give_25 : decode cX11_give 25 = .ok (.invokevirtual 145, 3) := by decide +kernel
theorem dX11_give_28 : decode cX11_give 28 = .ok (.aload_n 0, 1) := by decide +kernel
theorem dX11_give_29 : decode cX11_give 29 = .ok (.getfield 60, 3) := by decide +kernel
theorem dX11_give_32 : decode cX11_give 32 = .ok (.aload_n 0, 1) := by decide +kernel
theorem dX11_give_33 : decode cX11_give 33 = .ok (.getfield 12, 3) := by decide +kernel
theorem dX11_give_36 : decode cX11_give 36 = .ok (.getfield 139, 3) := by decide +kernel
theorem dX11_give_39 : decode cX11_give 39 = .ok (.iload_n 1, 1) := by decide +kernel
theorem dX11_give_40 : decode cX11_give 40 = .ok (.iload_n 2, 1) := by decide +kernel
theorem dX11_give_41 : decode cX11_give 41 = .ok (.invokevirtual 156, 3) := by decide +kernel
theorem dX11_give_44 : decode cX11_give 44 = .ok (.iconst 1, 1) := by decide +kernel
theorem dX11_give_45 : decode cX11_give 45 = .ok (.ireturn, 1) := by decide +kernel
theorem dX11_again_0 : decode cX11_again 0 = .ok (.aload_n 0, 1) := by decide +kernel
theorem dX11_again_1 : decode cX11_again 1 = .ok (.getfield 60, 3) := by decide +kernel
theorem dX11_again_4 : decode cX11_again 4 = .ok (.aload_n 0, 1) := by decide +kernel
theorem dX11_again_5 : decode cX11_again 5 = .ok (.getfield 12, 3) := by decide +kernel
theorem dX11_again_8 : decode cX11_again 8 = .ok (.getfield 139, 3) := by decide +kernel
theorem dX11_again_11 : decode cX11_again 11 = .ok (.iload_n 1, 1) := by decide +kernel
theorem dX11_again_12 : decode cX11_again 12 = .ok (.iload_n 2, 1) := by decide +kernel
theorem dX11_again_13 : decode cX11_again 13 = .ok (.invokevirtual 160, 3) := by decide +kernel
theorem dX11_again_16 : decode cX11_again 16 = .ok (.ifCond .ne 5, 3) := by decide +kernel
theorem dX11_again_19 : decode cX11_again 19 = .ok (.iconst 0, 1) := by decide +kernel
theorem dX11_again_20 : decode cX11_again 20 = .ok (.ireturn, 1) := by decide +kernel
theorem dX11_again_21 : decode cX11_again 21 = .ok (.aload_n 0, 1) := by decide +kernel
theorem dX11_again_22 : decode cX11_again 22 = .ok (.getfield 12, 3) := by decide +kernel
theorem dX11_again_25 : decode cX11_again 25 = .ok (.invokevirtual 145, 3) := by decide +kernel
theorem dX11_again_28 : decode cX11_again 28 = .ok (.aload_n 0, 1) := by decide +kernel
theorem dX11_again_29 : decode cX11_again 29 = .ok (.getfield 12, 3) := by decide +kernel
theorem dX11_again_32 : decode cX11_again 32 = .ok (.getfield 139, 3) := by decide +kernel
theorem dX11_again_35 : decode cX11_again 35 = .ok (.iload_n 1, 1) := by decide +kernel
theorem dX11_again_36 : decode cX11_again 36 = .ok (.iload_n 2, 1) := by decide +kernel
theorem dX11_again_37 : decode cX11_again 37 = .ok (.aload_n 0, 1) := by decide +kernel
theorem dX11_again_38 : decode cX11_again 38 = .ok (.getfield 12, 3) := by decide +kernel
theorem dX11_again_41 : decode cX11_again 41 = .ok (.getfield 139, 3) := by decide +kernel
theorem dX11_again_44 : decode cX11_again 44 = .ok (.getfield 163, 3) := by decide +kernel
theorem dX11_again_47 : decode cX11_again 47 = .ok (.iload_n 1, 1) := by decide +kernel
theorem dX11_again_48 : decode cX11_again 48 = .ok (.iaload, 1) := by decide +kernel
theorem dX11_again_49 : decode cX11_again 49 = .ok (.invokevirtual 166, 3) := by decide +kernel
theorem dX11_again_52 : decode cX11_again 52 = .ok (.iconst 1, 1) := by decide +kernel
theorem dX11_again_53 : decode cX11_again 53 = .ok (.ireturn, 1) := by decide +kernel
theorem dX11_day_0 : decode cX11_day 0 = .ok (.iload_n 1, 1) := by decide +kernel
theorem dX11_day_1 : decode cX11_day 1 = .ok (.iconst 1, 1) := by decide +kernel
theorem dX11_day_2 : decode cX11_day 2 = .ok (.if_icmp .lt 27, 3) := by decide +kernel
theorem dX11_day_5 : decode cX11_day 5 = .ok (.iload_n 1, 1) := by decide +kernel
theorem dX11_day_6 : decode cX11_day 6 = .ok (.bipush 60, 2) := by decide +kernel
theorem dX11_day_8 : decode cX11_day 8 = .ok (.if_icmp .gt 21, 3) := by decide +kernel
theorem dX11_day_11 : decode cX11_day 11 = .ok (.aload_n 0, 1) := by decide +kernel
theorem dX11_day_12 : decode cX11_day 12 = .ok (.getfield 12, 3) := by decide +kernel
theorem dX11_day_15 : decode cX11_day 15 = .ok (.getfield 139, 3) := by decide +kernel
theorem dX11_day_18 : decode cX11_day 18 = .ok (.getfield 170, 3) := by decide +kernel
theorem dX11_day_21 : decode cX11_day 21 = .ok (.iload_n 1, 1) := by decide +kernel
theorem dX11_day_22 : decode cX11_day 22 = .ok (.iadd, 1) := by decide +kernel
theorem dX11_day_23 : decode cX11_day 23 = .ok (.sipush 9999, 3) := by decide +kernel
theorem dX11_day_26 : decode cX11_day 26 = .ok (.if_icmp .le 5, 3) := by decide +kernel
theorem dX11_day_29 : decode cX11_day 29 = .ok (.iconst (-1), 1) := by decide +kernel
theorem dX11_day_30 : decode cX11_day 30 = .ok (.ireturn, 1) := by decide +kernel
theorem dX11_day_31 : decode cX11_day 31 = .ok (.iconst 0, 1) := by decide +kernel
theorem dX11_day_32 : decode cX11_day 32 = .ok (.istore_n 2, 1) := by decide +kernel
theorem dX11_day_33 : decode cX11_day 33 = .ok (.iconst 0, 1) := by decide +kernel
theorem dX11_day_34 : decode cX11_day 34 = .ok (.istore_n 3, 1) := by decide +kernel
theorem dX11_day_35 : decode cX11_day 35 = .ok (.iload_n 3, 1) := by decide +kernel
theorem dX11_day_36 : decode cX11_day 36 = .ok (.iload_n 1, 1) := by decide +kernel
theorem dX11_day_37 : decode cX11_day 37 = .ok (.if_icmp .ge 33, 3) := by decide +kernel
theorem dX11_day_40 : decode cX11_day 40 = .ok (.aload_n 0, 1) := by decide +kernel
theorem dX11_day_41 : decode cX11_day 41 = .ok (.getfield 12, 3) := by decide +kernel
theorem dX11_day_44 : decode cX11_day 44 = .ok (.invokevirtual 145, 3) := by decide +kernel
theorem dX11_day_47 : decode cX11_day 47 = .ok (.iload_n 2, 1) := by decide +kernel
theorem dX11_day_48 : decode cX11_day 48 = .ok (.aload_n 0, 1) := by decide +kernel
theorem dX11_day_49 : decode cX11_day 49 = .ok (.getfield 60, 3) := by decide +kernel
theorem dX11_day_52 : decode cX11_day 52 = .ok (.aload_n 0, 1) := by decide +kernel
theorem dX11_day_53 : decode cX11_day 53 = .ok (.getfield 12, 3) := by decide +kernel
theorem dX11_day_56 : decode cX11_day 56 = .ok (.getfield 139, 3) := by decide +kernel
theorem dX11_day_59 : decode cX11_day 59 = .ok (.invokevirtual 173, 3) := by decide +kernel
theorem dX11_day_62 : decode cX11_day 62 = .ok (.iadd, 1) := by decide +kernel
theorem dX11_day_63 : decode cX11_day 63 = .ok (.istore_n 2, 1) := by decide +kernel
theorem dX11_day_64 : decode cX11_day 64 = .ok (.iinc 3 1, 3) := by decide +kernel
theorem dX11_day_67 : decode cX11_day 67 = .ok (.goto (-32), 3) := by decide +kernel
theorem dX11_day_70 : decode cX11_day 70 = .ok (.iload_n 2, 1) := by decide +kernel
theorem dX11_day_71 : decode cX11_day 71 = .ok (.ireturn, 1) := by decide +kernel
theorem dX11_played_0 : decode cX11_played 0 = .ok (.aload_n 0, 1) := by decide +kernel
theorem dX11_played_1 : decode cX11_played 1 = .ok (.iload_n 1, 1) := by decide +kernel
theorem dX11_played_2 : decode cX11_played 2 = .ok (.invokevirtual 133, 3) := by decide +kernel
theorem dX11_played_5 : decode cX11_played 5 = .ok (.ifCond .ne 6, 3) := by decide +kernel
theorem dX11_played_8 : decode cX11_played 8 = .ok (.bipush (-2), 2) := by decide +kernel
theorem dX11_played_10 : decode cX11_played 10 = .ok (.ireturn, 1) := by decide +kernel
theorem dX11_played_11 : decode cX11_played 11 = .ok (.aload_n 0, 1) := by decide +kernel
theorem dX11_played_12 : decode cX11_played 12 = .ok (.getfield 28, 3) := by decide +kernel
theorem dX11_played_15 : decode cX11_played 15 = .ok (.iload_n 1, 1) := by decide +kernel
theorem dX11_played_16 : decode cX11_played 16 = .ok (.aaload, 1) := by decide +kernel
theorem dX11_played_17 : decode cX11_played 17 = .ok (.astore_n 2, 1) := by decide +kernel
theorem dX11_played_18 : decode cX11_played 18 = .ok (.iconst 0, 1) := by decide +kernel
theorem dX11_played_19 : decode cX11_played 19 = .ok (.istore_n 3, 1) := by decide +kernel
theorem dX11_played_20 : decode cX11_played 20 = .ok (.iload_n 3, 1) := by decide +kernel
theorem dX11_played_21 : decode cX11_played 21 = .ok (.bipush 24, 2) := by decide +kernel
theorem dX11_played_23 : decode cX11_played 23 = .ok (.if_icmp .ge 44, 3) := by decide +kernel
theorem dX11_played_26 : decode cX11_played 26 = .ok (.iload_n 3, 1) := by decide +kernel
theorem dX11_played_27 : decode cX11_played 27 = .ok (.aload_n 2, 1) := by decide +kernel
theorem dX11_played_28 : decode cX11_played 28 = .ok (.getfield 177, 3) := by decide +kernel
theorem dX11_played_31 : decode cX11_played 31 = .ok (.if_icmp .ge 36, 3) := by decide +kernel
theorem dX11_played_34 : decode cX11_played 34 = .ok (.aload_n 0, 1) := by decide +kernel
theorem dX11_played_35 : decode cX11_played 35 = .ok (.aload_n 2, 1) := by decide +kernel
theorem dX11_played_36 : decode cX11_played 36 = .ok (.getfield 180, 3) := by decide +kernel
theorem dX11_played_39 : decode cX11_played 39 = .ok (.iload_n 3, 1) := by decide +kernel
theorem dX11_played_40 : decode cX11_played 40 = .ok (.iaload, 1) := by decide +kernel
theorem dX11_played_41 : decode cX11_played 41 = .ok (.aload_n 2, 1) := by decide +kernel
theorem dX11_played_42 : decode cX11_played 42 = .ok (.getfield 183, 3) := by decide +kernel
theorem dX11_played_45 : decode cX11_played 45 = .ok (.iload_n 3, 1) := by decide +kernel
theorem dX11_played_46 : decode cX11_played 46 = .ok (.iaload, 1) := by decide +kernel
theorem dX11_played_47 : decode cX11_played 47 = .ok (.aload_n 2, 1) := by decide +kernel
theorem dX11_played_48 : decode cX11_played 48 = .ok (.getfield 186, 3) := by decide +kernel
theorem dX11_played_51 : decode cX11_played 51 = .ok (.iload_n 3, 1) := by decide +kernel
theorem dX11_played_52 : decode cX11_played 52 = .ok (.iaload, 1) := by decide +kernel
theorem dX11_played_53 : decode cX11_played 53 = .ok (.invokevirtual 189, 3) := by decide +kernel
theorem dX11_played_56 : decode cX11_played 56 = .ok (.ifCond .ne 5, 3) := by decide +kernel
theorem dX11_played_59 : decode cX11_played 59 = .ok (.iload_n 3, 1) := by decide +kernel
theorem dX11_played_60 : decode cX11_played 60 = .ok (.ireturn, 1) := by decide +kernel
theorem dX11_played_61 : decode cX11_played 61 = .ok (.iinc 3 1, 3) := by decide +kernel
theorem dX11_played_64 : decode cX11_played 64 = .ok (.goto (-44), 3) := by decide +kernel
theorem dX11_played_67 : decode cX11_played 67 = .ok (.iconst (-1), 1) := by decide +kernel
theorem dX11_played_68 : decode cX11_played 68 = .ok (.ireturn, 1) := by decide +kernel
theorem dX11_carryOut_0 : decode cX11_carryOut 0 = .ok (.iload_n 1, 1) := by decide +kernel
theorem dX11_carryOut_1 : decode cX11_carryOut 1 = .ok (.tableswitch 184 18 28 #[59, 184, 66, 184, 74, 184, 90, 105, 184, 112, 119], 59) := by decide +kernel
theorem dX11_carryOut_60 : decode cX11_carryOut 60 = .ok (.aload_n 0, 1) := by decide +kernel
theorem dX11_carryOut_61 : decode cX11_carryOut 61 = .ok (.iload_n 3, 1) := by decide +kernel
theorem dX11_carryOut_62 : decode cX11_carryOut 62 = .ok (.iload_n 2, 1) := by decide +kernel
theorem dX11_carryOut_63 : decode cX11_carryOut 63 = .ok (.invokevirtual 193, 3) := by decide +kernel
theorem dX11_carryOut_66 : decode cX11_carryOut 66 = .ok (.ireturn, 1) := by decide +kernel
theorem dX11_carryOut_67 : decode cX11_carryOut 67 = .ok (.aload_n 0, 1) := by decide +kernel
theorem dX11_carryOut_68 : decode cX11_carryOut 68 = .ok (.iload_n 2, 1) := by decide +kernel
theorem dX11_carryOut_69 : decode cX11_carryOut 69 = .ok (.iload_n 3, 1) := by decide +kernel
theorem dX11_carryOut_70 : decode cX11_carryOut 70 = .ok (.iconst 1, 1) := by decide +kernel
theorem dX11_carryOut_71 : decode cX11_carryOut 71 = .ok (.invokevirtual 197, 3) := by decide +kernel
theorem dX11_carryOut_74 : decode cX11_carryOut 74 = .ok (.ireturn, 1) := by decide +kernel
theorem dX11_carryOut_75 : decode cX11_carryOut 75 = .ok (.aload_n 0, 1) := by decide +kernel
theorem dX11_carryOut_76 : decode cX11_carryOut 76 = .ok (.iload_n 2, 1) := by decide +kernel
theorem dX11_carryOut_77 : decode cX11_carryOut 77 = .ok (.iload_n 3, 1) := by decide +kernel
theorem dX11_carryOut_78 : decode cX11_carryOut 78 = .ok (.invokevirtual 200, 3) := by decide +kernel
theorem dX11_carryOut_81 : decode cX11_carryOut 81 = .ok (.iconst (-1), 1) := by decide +kernel
theorem dX11_carryOut_82 : decode cX11_carryOut 82 = .ok (.if_icmp .eq 7, 3) := by decide +kernel
theorem dX11_carryOut_85 : decode cX11_carryOut 85 = .ok (.iconst 1, 1) := by decide +kernel
theorem dX11_carryOut_86 : decode cX11_carryOut 86 = .ok (.goto 4, 3) := by decide +kernel
theorem dX11_carryOut_89 : decode cX11_carryOut 89 = .ok (.iconst 0, 1) := by decide +kernel
theorem dX11_carryOut_90 : decode cX11_carryOut 90 = .ok (.ireturn, 1) := by decide +kernel
theorem dX11_carryOut_91 : decode cX11_carryOut 91 = .ok (.aload_n 0, 1) := by decide +kernel
theorem dX11_carryOut_92 : decode cX11_carryOut 92 = .ok (.iload_n 2, 1) := by decide +kernel
theorem dX11_carryOut_93 : decode cX11_carryOut 93 = .ok (.invokevirtual 203, 3) := by decide +kernel
theorem dX11_carryOut_96 : decode cX11_carryOut 96 = .ok (.iconst (-1), 1) := by decide +kernel
theorem dX11_carryOut_97 : decode cX11_carryOut 97 = .ok (.if_icmp .eq 7, 3) := by decide +kernel
theorem dX11_carryOut_100 : decode cX11_carryOut 100 = .ok (.iconst 1, 1) := by decide +kernel
theorem dX11_carryOut_101 : decode cX11_carryOut 101 = .ok (.goto 4, 3) := by decide +kernel
theorem dX11_carryOut_104 : decode cX11_carryOut 104 = .ok (.iconst 0, 1) := by decide +kernel
theorem dX11_carryOut_105 : decode cX11_carryOut 105 = .ok (.ireturn, 1) := by decide +kernel
theorem dX11_carryOut_106 : decode cX11_carryOut 106 = .ok (.aload_n 0, 1) := by decide +kernel
theorem dX11_carryOut_107 : decode cX11_carryOut 107 = .ok (.iload_n 3, 1) := by decide +kernel
theorem dX11_carryOut_108 : decode cX11_carryOut 108 = .ok (.iload_n 2, 1) := by decide +kernel
theorem dX11_carryOut_109 : decode cX11_carryOut 109 = .ok (.invokevirtual 207, 3) := by decide +kernel
theorem dX11_carryOut_112 : decode cX11_carryOut 112 = .ok (.ireturn, 1) := by decide +kernel
theorem dX11_carryOut_113 : decode cX11_carryOut 113 = .ok (.aload_n 0, 1) := by decide +kernel
theorem dX11_carryOut_114 : decode cX11_carryOut 114 = .ok (.iload_n 3, 1) := by decide +kernel
theorem dX11_carryOut_115 : decode cX11_carryOut 115 = .ok (.iload_n 2, 1) := by decide +kernel
theorem dX11_carryOut_116 : decode cX11_carryOut 116 = .ok (.invokevirtual 210, 3) := by decide +kernel
theorem dX11_carryOut_119 : decode cX11_carryOut 119 = .ok (.ireturn, 1) := by decide +kernel
theorem dX11_carryOut_120 : decode cX11_carryOut 120 = .ok (.iconst 0, 1) := by decide +kernel
theorem dX11_carryOut_121 : decode cX11_carryOut 121 = .ok (.istore 4, 2) := by decide +kernel
theorem dX11_carryOut_123 : decode cX11_carryOut 123 = .ok (.iload 4, 2) := by decide +kernel
theorem dX11_carryOut_125 : decode cX11_carryOut 125 = .ok (.iload_n 2, 1) := by decide +kernel
theorem dX11_carryOut_126 : decode cX11_carryOut 126 = .ok (.if_icmp .ge 47, 3) := by decide +kernel
theorem dX11_carryOut_129 : decode cX11_carryOut 129 = .ok (.aload_n 0, 1) := by decide +kernel
theorem dX11_carryOut_130 : decode cX11_carryOut 130 = .ok (.getfield 12, 3) := by decide +kernel
theorem dX11_carryOut_133 : decode cX11_carryOut 133 = .ok (.getfield 139, 3) := by decide +kernel
theorem dX11_carryOut_136 : decode cX11_carryOut 136 = .ok (.getfield 170, 3) := by decide +kernel
theorem dX11_carryOut_139 : decode cX11_carryOut 139 = .ok (.sipush 9999, 3) := by decide +kernel
theorem dX11_carryOut_142 : decode cX11_carryOut 142 = .ok (.if_icmp .ge 31, 3) := by decide +kernel
theorem dX11_carryOut_145 : decode cX11_carryOut 145 = .ok (.aload_n 0, 1) := by decide +kernel
theorem dX11_carryOut_146 : decode cX11_carryOut 146 = .ok (.getfield 12, 3) := by decide +kernel
theorem dX11_carryOut_149 : decode cX11_carryOut 149 = .ok (.invokevirtual 145, 3) := by decide +kernel
theorem dX11_carryOut_152 : decode cX11_carryOut 152 = .ok (.aload_n 0, 1) := by decide +kernel
theorem dX11_carryOut_153 : decode cX11_carryOut 153 = .ok (.getfield 60, 3) := by decide +kernel
theorem dX11_carryOut_156 : decode cX11_carryOut 156 = .ok (.aload_n 0, 1) := by decide +kernel
theorem dX11_carryOut_157 : decode cX11_carryOut 157 = .ok (.getfield 12, 3) := by decide +kernel
theorem dX11_carryOut_160 : decode cX11_carryOut 160 = .ok (.getfield 139, 3) := by decide +kernel
theorem dX11_carryOut_163 : decode cX11_carryOut 163 = .ok (.invokevirtual 173, 3) := by decide +kernel
theorem dX11_carryOut_166 : decode cX11_carryOut 166 = .ok (.pop, 1) := by decide +kernel
theorem dX11_carryOut_167 : decode cX11_carryOut 167 = .ok (.iinc 4 1, 3) := by decide +kernel
theorem dX11_carryOut_170 : decode cX11_carryOut 170 = .ok (.goto (-47), 3) := by decide +kernel
theorem dX11_carryOut_173 : decode cX11_carryOut 173 = .ok (.iload 4, 2) := by decide +kernel
theorem dX11_carryOut_175 : decode cX11_carryOut 175 = .ok (.iload_n 2, 1) := by decide +kernel
theorem dX11_carryOut_176 : decode cX11_carryOut 176 = .ok (.if_icmp .ne 7, 3) := by decide +kernel
theorem dX11_carryOut_179 : decode cX11_carryOut 179 = .ok (.iconst 1, 1) := by decide +kernel
theorem dX11_carryOut_180 : decode cX11_carryOut 180 = .ok (.goto 4, 3) := by decide +kernel
theorem dX11_carryOut_183 : decode cX11_carryOut 183 = .ok (.iconst 0, 1) := by decide +kernel
theorem dX11_carryOut_184 : decode cX11_carryOut 184 = .ok (.ireturn, 1) := by decide +kernel
theorem dX11_carryOut_185 : decode cX11_carryOut 185 = .ok (.iconst 1, 1) := by decide +kernel
theorem dX11_carryOut_186 : decode cX11_carryOut 186 = .ok (.ireturn, 1) := by decide +kernel
theorem dX11_years_0 : decode cX11_years 0 = .ok (.iload_n 1, 1) := by decide +kernel
theorem dX11_years_1 : decode cX11_years 1 = .ok (.ifCond .lt 21, 3) := by decide +kernel
theorem dX11_years_4 : decode cX11_years 4 = .ok (.iload_n 1, 1) := by decide +kernel
theorem dX11_years_5 : decode cX11_years 5 = .ok (.sipush 9999, 3) := by decide +kernel
theorem dX11_years_8 : decode cX11_years 8 = .ok (.if_icmp .gt 14, 3) := by decide +kernel
theorem dX11_years_11 : decode cX11_years 11 = .ok (.iload_n 2, 1) := by decide +kernel
theorem dX11_years_12 : decode cX11_years 12 = .ok (.iconst 1, 1) := by decide +kernel
theorem dX11_years_13 : decode cX11_years 13 = .ok (.if_icmp .lt 9, 3) := by decide +kernel
theorem dX11_years_16 : decode cX11_years 16 = .ok (.iload_n 2, 1) := by decide +kernel
theorem dX11_years_17 : decode cX11_years 17 = .ok (.bipush 40, 2) := by decide +kernel
theorem dX11_years_19 : decode cX11_years 19 = .ok (.if_icmp .le 5, 3) := by decide +kernel
theorem dX11_years_22 : decode cX11_years 22 = .ok (.iconst (-1), 1) := by decide +kernel
theorem dX11_years_23 : decode cX11_years 23 = .ok (.ireturn, 1) := by decide +kernel
theorem dX11_years_24 : decode cX11_years 24 = .ok (.aload_n 0, 1) := by decide +kernel
theorem dX11_years_25 : decode cX11_years 25 = .ok (.getfield 12, 3) := by decide +kernel
theorem dX11_years_28 : decode cX11_years 28 = .ok (.invokevirtual 145, 3) := by decide +kernel
theorem dX11_years_31 : decode cX11_years 31 = .ok (.aload_n 0, 1) := by decide +kernel
theorem dX11_years_32 : decode cX11_years 32 = .ok (.getfield 12, 3) := by decide +kernel
theorem dX11_years_35 : decode cX11_years 35 = .ok (.getfield 139, 3) := by decide +kernel
theorem dX11_years_38 : decode cX11_years 38 = .ok (.iload_n 1, 1) := by decide +kernel
theorem dX11_years_39 : decode cX11_years 39 = .ok (.iconst 2, 1) := by decide +kernel
theorem dX11_years_40 : decode cX11_years 40 = .ok (.imul, 1) := by decide +kernel
theorem dX11_years_41 : decode cX11_years 41 = .ok (.sipush 251, 3) := by decide +kernel
theorem dX11_years_44 : decode cX11_years 44 = .ok (.iadd, 1) := by decide +kernel
theorem dX11_years_45 : decode cX11_years 45 = .ok (.putfield 213, 3) := by decide +kernel
theorem dX11_years_48 : decode cX11_years 48 = .ok (.iconst 0, 1) := by decide +kernel
theorem dX11_years_49 : decode cX11_years 49 = .ok (.istore_n 3, 1) := by decide +kernel
theorem dX11_years_50 : decode cX11_years 50 = .ok (.iload_n 3, 1) := by decide +kernel
theorem dX11_years_51 : decode cX11_years 51 = .ok (.iload_n 2, 1) := by decide +kernel
theorem dX11_years_52 : decode cX11_years 52 = .ok (.if_icmp .ge 23, 3) := by decide +kernel
theorem dX11_years_55 : decode cX11_years 55 = .ok (.aload_n 0, 1) := by decide +kernel
theorem dX11_years_56 : decode cX11_years 56 = .ok (.getfield 60, 3) := by decide +kernel
theorem dX11_years_59 : decode cX11_years 59 = .ok (.aload_n 0, 1) := by decide +kernel
theorem dX11_years_60 : decode cX11_years 60 = .ok (.getfield 12, 3) := by decide +kernel
theorem dX11_years_63 : decode cX11_years 63 = .ok (.getfield 139, 3) := by decide +kernel
theorem dX11_years_66 : decode cX11_years 66 = .ok (.invokevirtual 216, 3) := by decide +kernel
theorem dX11_years_69 : decode cX11_years 69 = .ok (.iinc 3 1, 3) := by decide +kernel
theorem dX11_years_72 : decode cX11_years 72 = .ok (.goto (-22), 3) := by decide +kernel
theorem dX11_years_75 : decode cX11_years 75 = .ok (.aload_n 0, 1) := by decide +kernel
theorem dX11_years_76 : decode cX11_years 76 = .ok (.getfield 12, 3) := by decide +kernel
theorem dX11_years_79 : decode cX11_years 79 = .ok (.getfield 139, 3) := by decide +kernel
theorem dX11_years_82 : decode cX11_years 82 = .ok (.getfield 170, 3) := by decide +kernel
theorem dX11_years_85 : decode cX11_years 85 = .ok (.ireturn, 1) := by decide +kernel
theorem dX11_undo_0 : decode cX11_undo 0 = .ok (.aload_n 0, 1) := by decide +kernel
theorem dX11_undo_1 : decode cX11_undo 1 = .ok (.getfield 12, 3) := by decide +kernel
theorem dX11_undo_4 : decode cX11_undo 4 = .ok (.invokevirtual 220, 3) := by decide +kernel
theorem dX11_undo_7 : decode cX11_undo 7 = .ok (.ifCond .eq 13, 3) := by decide +kernel
theorem dX11_undo_10 : decode cX11_undo 10 = .ok (.aload_n 0, 1) := by decide +kernel
theorem dX11_undo_11 : decode cX11_undo 11 = .ok (.getfield 12, 3) := by decide +kernel
theorem dX11_undo_14 : decode cX11_undo 14 = .ok (.getfield 224, 3) := by decide +kernel
theorem dX11_undo_17 : decode cX11_undo 17 = .ok (.goto 4, 3) := by decide +kernel
theorem dX11_undo_20 : decode cX11_undo 20 = .ok (.iconst (-1), 1) := by decide +kernel
theorem dX11_undo_21 : decode cX11_undo 21 = .ok (.ireturn, 1) := by decide +kernel
theorem dX11_of_0 : decode cX11_of 0 = .ok (.aload_n 0, 1) := by decide +kernel
theorem dX11_of_1 : decode cX11_of 1 = .ok (.getfield 12, 3) := by decide +kernel
theorem dX11_of_4 : decode cX11_of 4 = .ok (.getfield 139, 3) := by decide +kernel
theorem dX11_of_7 : decode cX11_of 7 = .ok (.astore_n 3, 1) := by decide +kernel
theorem dX11_of_8 : decode cX11_of 8 = .ok (.aload_n 3, 1) := by decide +kernel
theorem dX11_of_9 : decode cX11_of 9 = .ok (.iload_n 1, 1) := by decide +kernel
theorem dX11_of_10 : decode cX11_of 10 = .ok (.invokevirtual 227, 3) := by decide +kernel
theorem dX11_of_13 : decode cX11_of 13 = .ok (.ifCond .ne 5, 3) := by decide +kernel
theorem dX11_of_16 : decode cX11_of 16 = .ok (.iconst (-1), 1) := by decide +kernel
theorem dX11_of_17 : decode cX11_of 17 = .ok (.ireturn, 1) := by decide +kernel
theorem dX11_of_18 : decode cX11_of 18 = .ok (.iload_n 2, 1) := by decide +kernel
theorem dX11_of_19 : decode cX11_of 19 = .ok (.tableswitch 114 0 7 #[45, 52, 59, 66, 73, 80, 87, 104], 45) := by decide +kernel
theorem dX11_of_64 : decode cX11_of 64 = .ok (.aload_n 3, 1) := by decide +kernel
theorem dX11_of_65 : decode cX11_of 65 = .ok (.getfield 230, 3) := by decide +kernel
theorem dX11_of_68 : decode cX11_of 68 = .ok (.iload_n 1, 1) := by decide +kernel
theorem dX11_of_69 : decode cX11_of 69 = .ok (.iaload, 1) := by decide +kernel
theorem dX11_of_70 : decode cX11_of 70 = .ok (.ireturn, 1) := by decide +kernel
theorem dX11_of_71 : decode cX11_of 71 = .ok (.aload_n 3, 1) := by decide +kernel
theorem dX11_of_72 : decode cX11_of 72 = .ok (.getfield 233, 3) := by decide +kernel
theorem dX11_of_75 : decode cX11_of 75 = .ok (.iload_n 1, 1) := by decide +kernel
theorem dX11_of_76 : decode cX11_of 76 = .ok (.iaload, 1) := by decide +kernel
theorem dX11_of_77 : decode cX11_of 77 = .ok (.ireturn, 1) := by decide +kernel
theorem dX11_of_78 : decode cX11_of 78 = .ok (.aload_n 3, 1) := by decide +kernel
theorem dX11_of_79 : decode cX11_of 79 = .ok (.getfield 236, 3) := by decide +kernel
theorem dX11_of_82 : decode cX11_of 82 = .ok (.iload_n 1, 1) := by decide +kernel
theorem dX11_of_83 : decode cX11_of 83 = .ok (.iaload, 1) := by decide +kernel
theorem dX11_of_84 : decode cX11_of 84 = .ok (.ireturn, 1) := by decide +kernel
theorem dX11_of_85 : decode cX11_of 85 = .ok (.aload_n 3, 1) := by decide +kernel
theorem dX11_of_86 : decode cX11_of 86 = .ok (.getfield 163, 3) := by decide +kernel
theorem dX11_of_89 : decode cX11_of 89 = .ok (.iload_n 1, 1) := by decide +kernel
theorem dX11_of_90 : decode cX11_of 90 = .ok (.iaload, 1) := by decide +kernel
theorem dX11_of_91 : decode cX11_of 91 = .ok (.ireturn, 1) := by decide +kernel
theorem dX11_of_92 : decode cX11_of 92 = .ok (.aload_n 3, 1) := by decide +kernel
theorem dX11_of_93 : decode cX11_of 93 = .ok (.getfield 239, 3) := by decide +kernel
theorem dX11_of_96 : decode cX11_of 96 = .ok (.iload_n 1, 1) := by decide +kernel
theorem dX11_of_97 : decode cX11_of 97 = .ok (.iaload, 1) := by decide +kernel
theorem dX11_of_98 : decode cX11_of 98 = .ok (.ireturn, 1) := by decide +kernel
theorem dX11_of_99 : decode cX11_of 99 = .ok (.aload_n 3, 1) := by decide +kernel
theorem dX11_of_100 : decode cX11_of 100 = .ok (.getfield 242, 3) := by decide +kernel
theorem dX11_of_103 : decode cX11_of 103 = .ok (.iload_n 1, 1) := by decide +kernel
theorem dX11_of_104 : decode cX11_of 104 = .ok (.iaload, 1) := by decide +kernel
theorem dX11_of_105 : decode cX11_of 105 = .ok (.ireturn, 1) := by decide +kernel
theorem dX11_of_106 : decode cX11_of 106 = .ok (.aload_n 0, 1) := by decide +kernel
theorem dX11_of_107 : decode cX11_of 107 = .ok (.getfield 51, 3) := by decide +kernel
theorem dX11_of_110 : decode cX11_of 110 = .ok (.aload_n 0, 1) := by decide +kernel
theorem dX11_of_111 : decode cX11_of 111 = .ok (.getfield 60, 3) := by decide +kernel
theorem dX11_of_114 : decode cX11_of 114 = .ok (.invokevirtual 245, 3) := by decide +kernel
theorem dX11_of_117 : decode cX11_of 117 = .ok (.aload_n 3, 1) := by decide +kernel
theorem dX11_of_118 : decode cX11_of 118 = .ok (.iload_n 1, 1) := by decide +kernel
theorem dX11_of_119 : decode cX11_of 119 = .ok (.invokevirtual 249, 3) := by decide +kernel
theorem dX11_of_122 : decode cX11_of 122 = .ok (.ireturn, 1) := by decide +kernel
theorem dX11_of_123 : decode cX11_of 123 = .ok (.aload_n 0, 1) := by decide +kernel
theorem dX11_of_124 : decode cX11_of 124 = .ok (.getfield 60, 3) := by decide +kernel
theorem dX11_of_127 : decode cX11_of 127 = .ok (.aload_n 3, 1) := by decide +kernel
theorem dX11_of_128 : decode cX11_of 128 = .ok (.iload_n 1, 1) := by decide +kernel
theorem dX11_of_129 : decode cX11_of 129 = .ok (.invokevirtual 253, 3) := by decide +kernel
theorem dX11_of_132 : decode cX11_of 132 = .ok (.ireturn, 1) := by decide +kernel
theorem dX11_of_133 : decode cX11_of 133 = .ok (.iconst (-1), 1) := by decide +kernel
theorem dX11_of_134 : decode cX11_of 134 = .ok (.ireturn, 1) := by decide +kernel
theorem dX11_ofWant_0 : decode cX11_ofWant 0 = .ok (.iload_n 1, 1) := by decide +kernel
theorem dX11_ofWant_1 : decode cX11_ofWant 1 = .ok (.invokestatic 95, 3) := by decide +kernel
theorem dX11_ofWant_4 : decode cX11_ofWant 4 = .ok (.ifCond .ne 5, 3) := by decide +kernel
theorem dX11_ofWant_7 : decode cX11_ofWant 7 = .ok (.iconst (-1), 1) := by decide +kernel
theorem dX11_ofWant_8 : decode cX11_ofWant 8 = .ok (.ireturn, 1) := by decide +kernel
theorem dX11_ofWant_9 : decode cX11_ofWant 9 = .ok (.iload_n 2, 1) := by decide +kernel
theorem dX11_ofWant_10 : decode cX11_ofWant 10 = .ok (.tableswitch 82 0 3 #[30, 43, 56, 69], 30) := by decide +kernel
theorem dX11_ofWant_40 : decode cX11_ofWant 40 = .ok (.aload_n 0, 1) := by decide +kernel
theorem dX11_ofWant_41 : decode cX11_ofWant 41 = .ok (.getfield 12, 3) := by decide +kernel
theorem dX11_ofWant_44 : decode cX11_ofWant 44 = .ok (.getfield 44, 3) := by decide +kernel
theorem dX11_ofWant_47 : decode cX11_ofWant 47 = .ok (.getfield 99, 3) := by decide +kernel
theorem dX11_ofWant_50 : decode cX11_ofWant 50 = .ok (.iload_n 1, 1) := by decide +kernel
theorem dX11_ofWant_51 : decode cX11_ofWant 51 = .ok (.iaload, 1) := by decide +kernel
theorem dX11_ofWant_52 : decode cX11_ofWant 52 = .ok (.ireturn, 1) := by decide +kernel
theorem dX11_ofWant_53 : decode cX11_ofWant 53 = .ok (.aload_n 0, 1) := by decide +kernel
theorem dX11_ofWant_54 : decode cX11_ofWant 54 = .ok (.getfield 12, 3) := by decide +kernel
theorem dX11_ofWant_57 : decode cX11_ofWant 57 = .ok (.getfield 44, 3) := by decide +kernel
theorem dX11_ofWant_60 : decode cX11_ofWant 60 = .ok (.getfield 256, 3) := by decide +kernel
theorem dX11_ofWant_63 : decode cX11_ofWant 63 = .ok (.iload_n 1, 1) := by decide +kernel
theorem dX11_ofWant_64 : decode cX11_ofWant 64 = .ok (.iaload, 1) := by decide +kernel
theorem dX11_ofWant_65 : decode cX11_ofWant 65 = .ok (.ireturn, 1) := by decide +kernel
theorem dX11_ofWant_66 : decode cX11_ofWant 66 = .ok (.aload_n 0, 1) := by decide +kernel
theorem dX11_ofWant_67 : decode cX11_ofWant 67 = .ok (.getfield 12, 3) := by decide +kernel
theorem dX11_ofWant_70 : decode cX11_ofWant 70 = .ok (.getfield 44, 3) := by decide +kernel
theorem dX11_ofWant_73 : decode cX11_ofWant 73 = .ok (.getfield 259, 3) := by decide +kernel
theorem dX11_ofWant_76 : decode cX11_ofWant 76 = .ok (.iload_n 1, 1) := by decide +kernel
theorem dX11_ofWant_77 : decode cX11_ofWant 77 = .ok (.iaload, 1) := by decide +kernel
theorem dX11_ofWant_78 : decode cX11_ofWant 78 = .ok (.ireturn, 1) := by decide +kernel
theorem dX11_ofWant_79 : decode cX11_ofWant 79 = .ok (.aload_n 0, 1) := by decide +kernel
theorem dX11_ofWant_80 : decode cX11_ofWant 80 = .ok (.getfield 12, 3) := by decide +kernel
theorem dX11_ofWant_83 : decode cX11_ofWant 83 = .ok (.getfield 44, 3) := by decide +kernel
theorem dX11_ofWant_86 : decode cX11_ofWant 86 = .ok (.getfield 262, 3) := by decide +kernel
theorem dX11_ofWant_89 : decode cX11_ofWant 89 = .ok (.iload_n 1, 1) := by decide +kernel
theorem dX11_ofWant_90 : decode cX11_ofWant 90 = .ok (.iaload, 1) := by decide +kernel
theorem dX11_ofWant_91 : decode cX11_ofWant 91 = .ok (.ireturn, 1) := by decide +kernel
theorem dX11_ofWant_92 : decode cX11_ofWant 92 = .ok (.iconst (-1), 1) := by decide +kernel
theorem dX11_ofWant_93 : decode cX11_ofWant 93 = .ok (.ireturn, 1) := by decide +kernel
theorem dX11_tells_0 : decode cX11_tells 0 = .ok (.aload_n 0, 1) := by decide +kernel
theorem dX11_tells_1 : decode cX11_tells 1 = .ok (.getfield 12, 3) := by decide +kernel
theorem dX11_tells_4 : decode cX11_tells 4 = .ok (.getfield 139, 3) := by decide +kernel
theorem dX11_tells_7 : decode cX11_tells 7 = .ok (.iload_n 1, 1) := by decide +kernel
theorem dX11_tells_8 : decode cX11_tells 8 = .ok (.invokevirtual 227, 3) := by decide +kernel
theorem dX11_tells_11 : decode cX11_tells 11 = .ok (.ifCond .eq 10, 3) := by decide +kernel
theorem dX11_tells_14 : decode cX11_tells 14 = .ok (.iload_n 2, 1) := by decide +kernel
theorem dX11_tells_15 : decode cX11_tells 15 = .ok (.invokestatic 95, 3) := by decide +kernel
theorem dX11_tells_18 : decode cX11_tells 18 = .ok (.ifCond .ne 7, 3) := by decide +kernel
theorem dX11_tells_21 : decode cX11_tells 21 = .ok (.sipush (-1000), 3) := by decide +kernel
theorem dX11_tells_24 : decode cX11_tells 24 = .ok (.ireturn, 1) := by decide +kernel
theorem dX11_tells_25 : decode cX11_tells 25 = .ok (.aload_n 0, 1) := by decide +kernel
theorem dX11_tells_26 : decode cX11_tells 26 = .ok (.getfield 51, 3) := by decide +kernel
theorem dX11_tells_29 : decode cX11_tells 29 = .ok (.aload_n 0, 1) := by decide +kernel
theorem dX11_tells_30 : decode cX11_tells 30 = .ok (.getfield 60, 3) := by decide +kernel
theorem dX11_tells_33 : decode cX11_tells 33 = .ok (.invokevirtual 245, 3) := by decide +kernel
theorem dX11_tells_36 : decode cX11_tells 36 = .ok (.aload_n 0, 1) := by decide +kernel
theorem dX11_tells_37 : decode cX11_tells 37 = .ok (.getfield 12, 3) := by decide +kernel
theorem dX11_tells_40 : decode cX11_tells 40 = .ok (.getfield 139, 3) := by decide +kernel
theorem dX11_tells_43 : decode cX11_tells 43 = .ok (.iload_n 1, 1) := by decide +kernel
theorem dX11_tells_44 : decode cX11_tells 44 = .ok (.iload_n 2, 1) := by decide +kernel
theorem dX11_tells_45 : decode cX11_tells 45 = .ok (.invokevirtual 265, 3) := by decide +kernel
theorem dX11_tells_48 : decode cX11_tells 48 = .ok (.ireturn, 1) := by decide +kernel
theorem dX11_is_0 : decode cX11_is 0 = .ok (.iload_n 1, 1) := by decide +kernel
theorem dX11_is_1 : decode cX11_is 1 = .ok (.tableswitch 75 0 3 #[31, 42, 53, 64], 31) := by decide +kernel
theorem dX11_is_32 : decode cX11_is 32 = .ok (.aload_n 0, 1) := by decide +kernel
theorem dX11_is_33 : decode cX11_is 33 = .ok (.getfield 12, 3) := by decide +kernel
theorem dX11_is_36 : decode cX11_is 36 = .ok (.getfield 139, 3) := by decide +kernel
theorem dX11_is_39 : decode cX11_is 39 = .ok (.getfield 170, 3) := by decide +kernel
theorem dX11_is_42 : decode cX11_is 42 = .ok (.ireturn, 1) := by decide +kernel
theorem dX11_is_43 : decode cX11_is 43 = .ok (.aload_n 0, 1) := by decide +kernel
theorem dX11_is_44 : decode cX11_is 44 = .ok (.getfield 12, 3) := by decide +kernel
theorem dX11_is_47 : decode cX11_is 47 = .ok (.getfield 139, 3) := by decide +kernel
theorem dX11_is_50 : decode cX11_is 50 = .ok (.getfield 213, 3) := by decide +kernel
theorem dX11_is_53 : decode cX11_is 53 = .ok (.ireturn, 1) := by decide +kernel
theorem dX11_is_54 : decode cX11_is 54 = .ok (.aload_n 0, 1) := by decide +kernel
theorem dX11_is_55 : decode cX11_is 55 = .ok (.getfield 12, 3) := by decide +kernel
theorem dX11_is_58 : decode cX11_is 58 = .ok (.getfield 139, 3) := by decide +kernel
theorem dX11_is_61 : decode cX11_is 61 = .ok (.invokevirtual 269, 3) := by decide +kernel
theorem dX11_is_64 : decode cX11_is 64 = .ok (.ireturn, 1) := by decide +kernel
theorem dX11_is_65 : decode cX11_is 65 = .ok (.aload_n 0, 1) := by decide +kernel
theorem dX11_is_66 : decode cX11_is 66 = .ok (.getfield 12, 3) := by decide +kernel
theorem dX11_is_69 : decode cX11_is 69 = .ok (.getfield 139, 3) := by decide +kernel
theorem dX11_is_72 : decode cX11_is 72 = .ok (.getfield 273, 3) := by decide +kernel
theorem dX11_is_75 : decode cX11_is 75 = .ok (.ireturn, 1) := by decide +kernel
theorem dX11_is_76 : decode cX11_is 76 = .ok (.bipush (-2), 2) := by decide +kernel
theorem dX11_is_78 : decode cX11_is 78 = .ok (.ireturn, 1) := by decide +kernel
theorem dX11_book_0 : decode cX11_book 0 = .ok (.iload_n 1, 1) := by decide +kernel
theorem dX11_book_1 : decode cX11_book 1 = .ok (.iconst (-1), 1) := by decide +kernel
theorem dX11_book_2 : decode cX11_book 2 = .ok (.if_icmp .ne 16, 3) := by decide +kernel
theorem dX11_book_5 : decode cX11_book 5 = .ok (.aload_n 0, 1) := by decide +kernel
theorem dX11_book_6 : decode cX11_book 6 = .ok (.getfield 12, 3) := by decide +kernel
theorem dX11_book_9 : decode cX11_book 9 = .ok (.getfield 139, 3) := by decide +kernel
theorem dX11_book_12 : decode cX11_book 12 = .ok (.getfield 276, 3) := by decide +kernel
theorem dX11_book_15 : decode cX11_book 15 = .ok (.goto 15, 3) := by decide +kernel
theorem dX11_book_18 : decode cX11_book 18 = .ok (.aload_n 0, 1) := by decide +kernel
theorem dX11_book_19 : decode cX11_book 19 = .ok (.getfield 12, 3) := by decide +kernel
theorem dX11_book_22 : decode cX11_book 22 = .ok (.getfield 139, 3) := by decide +kernel
theorem dX11_book_25 : decode cX11_book 25 = .ok (.iload_n 1, 1) := by decide +kernel
theorem dX11_book_26 : decode cX11_book 26 = .ok (.iload_n 2, 1) := by decide +kernel
theorem dX11_book_27 : decode cX11_book 27 = .ok (.invokevirtual 279, 3) := by decide +kernel
theorem dX11_book_30 : decode cX11_book 30 = .ok (.ireturn, 1) := by decide +kernel
theorem dX11_foretold_0 : decode cX11_foretold 0 = .ok (.iload_n 1, 1) := by decide +kernel
theorem dX11_foretold_1 : decode cX11_foretold 1 = .ok (.iconst 1, 1) := by decide +kernel
theorem dX11_foretold_2 : decode cX11_foretold 2 = .ok (.if_icmp .lt 23, 3) := by decide +kernel
theorem dX11_foretold_5 : decode cX11_foretold 5 = .ok (.iload_n 1, 1) := by decide +kernel
theorem dX11_foretold_6 : decode cX11_foretold 6 = .ok (.bipush 60, 2) := by decide +kernel
theorem dX11_foretold_8 : decode cX11_foretold 8 = .ok (.if_icmp .gt 17, 3) := by decide +kernel
theorem dX11_foretold_11 : decode cX11_foretold 11 = .ok (.aload_n 0, 1) := by decide +kernel
theorem dX11_foretold_12 : decode cX11_foretold 12 = .ok (.getfield 12, 3) := by decide +kernel
theorem dX11_foretold_15 : decode cX11_foretold 15 = .ok (.getfield 139, 3) := by decide +kernel
theorem dX11_foretold_18 : decode cX11_foretold 18 = .ok (.iload_n 2, 1) := by decide +kernel
theorem dX11_foretold_19 : decode cX11_foretold 19 = .ok (.invokevirtual 227, 3) := by decide +kernel
theorem dX11_foretold_22 : decode cX11_foretold 22 = .ok (.ifCond .ne 5, 3) := by decide +kernel
theorem dX11_foretold_25 : decode cX11_foretold 25 = .ok (.iconst (-1), 1) := by decide +kernel
theorem dX11_foretold_26 : decode cX11_foretold 26 = .ok (.ireturn, 1) := by decide +kernel
theorem dX11_foretold_27 : decode cX11_foretold 27 = .ok (.aload_n 0, 1) := by decide +kernel
theorem dX11_foretold_28 : decode cX11_foretold 28 = .ok (.getfield 22, 3) := by decide +kernel
theorem dX11_foretold_31 : decode cX11_foretold 31 = .ok (.aload_n 0, 1) := by decide +kernel
theorem dX11_foretold_32 : decode cX11_foretold 32 = .ok (.getfield 12, 3) := by decide +kernel
theorem dX11_foretold_35 : decode cX11_foretold 35 = .ok (.getfield 139, 3) := by decide +kernel
theorem dX11_foretold_38 : decode cX11_foretold 38 = .ok (.invokevirtual 282, 3) := by decide +kernel
theorem dX11_foretold_41 : decode cX11_foretold 41 = .ok (.iconst 0, 1) := by decide +kernel
theorem dX11_foretold_42 : decode cX11_foretold 42 = .ok (.istore 4, 2) := by decide +kernel
theorem dX11_foretold_44 : decode cX11_foretold 44 = .ok (.iload 4, 2) := by decide +kernel
theorem dX11_foretold_46 : decode cX11_foretold 46 = .ok (.iload_n 1, 1) := by decide +kernel
theorem dX11_foretold_47 : decode cX11_foretold 47 = .ok (.if_icmp .ge 34, 3) := by decide +kernel
theorem dX11_foretold_50 : decode cX11_foretold 50 = .ok (.aload_n 0, 1) := by decide +kernel
theorem dX11_foretold_51 : decode cX11_foretold 51 = .ok (.getfield 22, 3) := by decide +kernel
theorem dX11_foretold_54 : decode cX11_foretold 54 = .ok (.getfield 170, 3) := by decide +kernel
theorem dX11_foretold_57 : decode cX11_foretold 57 = .ok (.sipush 9999, 3) := by decide +kernel
theorem dX11_foretold_60 : decode cX11_foretold 60 = .ok (.if_icmp .ge 21, 3) := by decide +kernel
theorem dX11_foretold_63 : decode cX11_foretold 63 = .ok (.aload_n 0, 1) := by decide +kernel
theorem dX11_foretold_64 : decode cX11_foretold 64 = .ok (.getfield 60, 3) := by decide +kernel
theorem dX11_foretold_67 : decode cX11_foretold 67 = .ok (.aload_n 0, 1) := by decide +kernel
theorem dX11_foretold_68 : decode cX11_foretold 68 = .ok (.getfield 22, 3) := by decide +kernel
theorem dX11_foretold_71 : decode cX11_foretold 71 = .ok (.invokevirtual 173, 3) := by decide +kernel
theorem dX11_foretold_74 : decode cX11_foretold 74 = .ok (.pop, 1) := by decide +kernel
theorem dX11_foretold_75 : decode cX11_foretold 75 = .ok (.iinc 4 1, 3) := by decide +kernel
theorem dX11_foretold_78 : decode cX11_foretold 78 = .ok (.goto (-34), 3) := by decide +kernel
theorem dX11_foretold_81 : decode cX11_foretold 81 = .ok (.iload_n 3, 1) := by decide +kernel
theorem dX11_foretold_82 : decode cX11_foretold 82 = .ok (.tableswitch 56 0 2 #[26, 36, 46], 26) := by decide +kernel
theorem dX11_foretold_108 : decode cX11_foretold 108 = .ok (.aload_n 0, 1) := by decide +kernel
theorem dX11_foretold_109 : decode cX11_foretold 109 = .ok (.getfield 22, 3) := by decide +kernel
theorem dX11_foretold_112 : decode cX11_foretold 112 = .ok (.getfield 230, 3) := by decide +kernel
theorem dX11_foretold_115 : decode cX11_foretold 115 = .ok (.iload_n 2, 1) := by decide +kernel
theorem dX11_foretold_116 : decode cX11_foretold 116 = .ok (.iaload, 1) := by decide +kernel
theorem dX11_foretold_117 : decode cX11_foretold 117 = .ok (.ireturn, 1) := by decide +kernel
theorem dX11_foretold_118 : decode cX11_foretold 118 = .ok (.aload_n 0, 1) := by decide +kernel
theorem dX11_foretold_119 : decode cX11_foretold 119 = .ok (.getfield 22, 3) := by decide +kernel
theorem dX11_foretold_122 : decode cX11_foretold 122 = .ok (.getfield 233, 3) := by decide +kernel
theorem dX11_foretold_125 : decode cX11_foretold 125 = .ok (.iload_n 2, 1) := by decide +kernel
theorem dX11_foretold_126 : decode cX11_foretold 126 = .ok (.iaload, 1) := by decide +kernel
theorem dX11_foretold_127 : decode cX11_foretold 127 = .ok (.ireturn, 1) := by decide +kernel
theorem dX11_foretold_128 : decode cX11_foretold 128 = .ok (.aload_n 0, 1) := by decide +kernel
theorem dX11_foretold_129 : decode cX11_foretold 129 = .ok (.getfield 22, 3) := by decide +kernel
theorem dX11_foretold_132 : decode cX11_foretold 132 = .ok (.getfield 236, 3) := by decide +kernel
theorem dX11_foretold_135 : decode cX11_foretold 135 = .ok (.iload_n 2, 1) := by decide +kernel
theorem dX11_foretold_136 : decode cX11_foretold 136 = .ok (.iaload, 1) := by decide +kernel
theorem dX11_foretold_137 : decode cX11_foretold 137 = .ok (.ireturn, 1) := by decide +kernel
theorem dX11_foretold_138 : decode cX11_foretold 138 = .ok (.iconst (-1), 1) := by decide +kernel
theorem dX11_foretold_139 : decode cX11_foretold 139 = .ok (.ireturn, 1) := by decide +kernel
theorem dX11_bottom_0 : decode cX11_bottom 0 = .ok (.aload_n 0, 1) := by decide +kernel
theorem dX11_bottom_1 : decode cX11_bottom 1 = .ok (.getfield 12, 3) := by decide +kernel
theorem dX11_bottom_4 : decode cX11_bottom 4 = .ok (.getfield 139, 3) := by decide +kernel
theorem dX11_bottom_7 : decode cX11_bottom 7 = .ok (.iload_n 1, 1) := by decide +kernel
theorem dX11_bottom_8 : decode cX11_bottom 8 = .ok (.invokevirtual 142, 3) := by decide +kernel
theorem dX11_bottom_11 : decode cX11_bottom 11 = .ok (.ifCond .ne 5, 3) := by decide +kernel
theorem dX11_bottom_14 : decode cX11_bottom 14 = .ok (.iconst (-1), 1) := by decide +kernel
theorem dX11_bottom_15 : decode cX11_bottom 15 = .ok (.ireturn, 1) := by decide +kernel
theorem dX11_bottom_16 : decode cX11_bottom 16 = .ok (.aload_n 0, 1) := by decide +kernel
theorem dX11_bottom_17 : decode cX11_bottom 17 = .ok (.getfield 22, 3) := by decide +kernel
theorem dX11_bottom_20 : decode cX11_bottom 20 = .ok (.aload_n 0, 1) := by decide +kernel
theorem dX11_bottom_21 : decode cX11_bottom 21 = .ok (.getfield 12, 3) := by decide +kernel
theorem dX11_bottom_24 : decode cX11_bottom 24 = .ok (.getfield 139, 3) := by decide +kernel
theorem dX11_bottom_27 : decode cX11_bottom 27 = .ok (.invokevirtual 282, 3) := by decide +kernel
theorem dX11_bottom_30 : decode cX11_bottom 30 = .ok (.iconst 0, 1) := by decide +kernel
theorem dX11_bottom_31 : decode cX11_bottom 31 = .ok (.istore_n 2, 1) := by decide +kernel
theorem dX11_bottom_32 : decode cX11_bottom 32 = .ok (.iload_n 2, 1) := by decide +kernel
theorem dX11_bottom_33 : decode cX11_bottom 33 = .ok (.bipush 12, 2) := by decide +kernel
theorem dX11_bottom_35 : decode cX11_bottom 35 = .ok (.if_icmp .ge 33, 3) := by decide +kernel
theorem dX11_bottom_38 : decode cX11_bottom 38 = .ok (.aload_n 0, 1) := by decide +kernel
theorem dX11_bottom_39 : decode cX11_bottom 39 = .ok (.getfield 22, 3) := by decide +kernel
theorem dX11_bottom_42 : decode cX11_bottom 42 = .ok (.iload_n 1, 1) := by decide +kernel
theorem dX11_bottom_43 : decode cX11_bottom 43 = .ok (.invokevirtual 142, 3) := by decide +kernel
theorem dX11_bottom_46 : decode cX11_bottom 46 = .ok (.ifCond .eq 22, 3) := by decide +kernel
theorem dX11_bottom_49 : decode cX11_bottom 49 = .ok (.aload_n 0, 1) := by decide +kernel
theorem dX11_bottom_50 : decode cX11_bottom 50 = .ok (.getfield 60, 3) := by decide +kernel
theorem dX11_bottom_53 : decode cX11_bottom 53 = .ok (.aload_n 0, 1) := by decide +kernel
theorem dX11_bottom_54 : decode cX11_bottom 54 = .ok (.getfield 22, 3) := by decide +kernel
theorem dX11_bottom_57 : decode cX11_bottom 57 = .ok (.iload_n 1, 1) := by decide +kernel
theorem dX11_bottom_58 : decode cX11_bottom 58 = .ok (.invokevirtual 148, 3) := by decide +kernel
theorem dX11_bottom_61 : decode cX11_bottom 61 = .ok (.pop, 1) := by decide +kernel
theorem dX11_bottom_62 : decode cX11_bottom 62 = .ok (.iinc 2 1, 3) := by decide +kernel
theorem dX11_bottom_65 : decode cX11_bottom 65 = .ok (.goto (-33), 3) := by decide +kernel
theorem dX11_bottom_68 : decode cX11_bottom 68 = .ok (.aload_n 0, 1) := by decide +kernel
theorem dX11_bottom_69 : decode cX11_bottom 69 = .ok (.getfield 22, 3) := by decide +kernel
theorem dX11_bottom_72 : decode cX11_bottom 72 = .ok (.getfield 230, 3) := by decide +kernel
theorem dX11_bottom_75 : decode cX11_bottom 75 = .ok (.iload_n 1, 1) := by decide +kernel
theorem dX11_bottom_76 : decode cX11_bottom 76 = .ok (.iaload, 1) := by decide +kernel
theorem dX11_bottom_77 : decode cX11_bottom 77 = .ok (.ireturn, 1) := by decide +kernel
theorem dX11_ways_0 : decode cX11_ways 0 = .ok (.iload_n 1, 1) := by decide +kernel
theorem dX11_ways_1 : decode cX11_ways 1 = .ok (.iload_n 2, 1) := by decide +kernel
theorem dX11_ways_2 : decode cX11_ways 2 = .ok (.invokestatic 285, 3) := by decide +kernel
theorem dX11_ways_5 : decode cX11_ways 5 = .ok (.ifCond .eq 15, 3) := by decide +kernel
theorem dX11_ways_8 : decode cX11_ways 8 = .ok (.aload_n 0, 1) := by decide +kernel
theorem dX11_ways_9 : decode cX11_ways 9 = .ok (.getfield 67, 3) := by decide +kernel
theorem dX11_ways_12 : decode cX11_ways 12 = .ok (.iload_n 1, 1) := by decide +kernel
theorem dX11_ways_13 : decode cX11_ways 13 = .ok (.iload_n 2, 1) := by decide +kernel
theorem dX11_ways_14 : decode cX11_ways 14 = .ok (.invokevirtual 288, 3) := by decide +kernel
theorem dX11_ways_17 : decode cX11_ways 17 = .ok (.goto 6, 3) := by decide +kernel
theorem dX11_ways_20 : decode cX11_ways 20 = .ok (.ldc2_w 292, 3) := by decide +kernel
theorem dX11_ways_23 : decode cX11_ways 23 = .ok (.lreturn, 1) := by decide +kernel
theorem dX11_must_0 : decode cX11_must 0 = .ok (.iload_n 1, 1) := by decide +kernel
theorem dX11_must_1 : decode cX11_must 1 = .ok (.iload_n 2, 1) := by decide +kernel
theorem dX11_must_2 : decode cX11_must 2 = .ok (.invokestatic 285, 3) := by decide +kernel
theorem dX11_must_5 : decode cX11_must 5 = .ok (.ifCond .eq 15, 3) := by decide +kernel
theorem dX11_must_8 : decode cX11_must 8 = .ok (.aload_n 0, 1) := by decide +kernel
theorem dX11_must_9 : decode cX11_must 9 = .ok (.getfield 67, 3) := by decide +kernel
theorem dX11_must_12 : decode cX11_must 12 = .ok (.iload_n 1, 1) := by decide +kernel
theorem dX11_must_13 : decode cX11_must 13 = .ok (.iload_n 2, 1) := by decide +kernel
theorem dX11_must_14 : decode cX11_must 14 = .ok (.invokevirtual 294, 3) := by decide +kernel
theorem dX11_must_17 : decode cX11_must 17 = .ok (.goto 4, 3) := by decide +kernel
theorem dX11_must_20 : decode cX11_must 20 = .ok (.iconst (-1), 1) := by decide +kernel
theorem dX11_must_21 : decode cX11_must 21 = .ok (.ireturn, 1) := by decide +kernel
theorem dX11_between_0 : decode cX11_between 0 = .ok (.iload_n 1, 1) := by decide +kernel
theorem dX11_between_1 : decode cX11_between 1 = .ok (.iload_n 2, 1) := by decide +kernel
theorem dX11_between_2 : decode cX11_between 2 = .ok (.invokestatic 285, 3) := by decide +kernel
theorem dX11_between_5 : decode cX11_between 5 = .ok (.ifCond .eq 15, 3) := by decide +kernel
theorem dX11_between_8 : decode cX11_between 8 = .ok (.aload_n 0, 1) := by decide +kernel
theorem dX11_between_9 : decode cX11_between 9 = .ok (.getfield 67, 3) := by decide +kernel
theorem dX11_between_12 : decode cX11_between 12 = .ok (.iload_n 1, 1) := by decide +kernel
theorem dX11_between_13 : decode cX11_between 13 = .ok (.iload_n 2, 1) := by decide +kernel
theorem dX11_between_14 : decode cX11_between 14 = .ok (.invokevirtual 297, 3) := by decide +kernel
theorem dX11_between_17 : decode cX11_between 17 = .ok (.goto 4, 3) := by decide +kernel
theorem dX11_between_20 : decode cX11_between 20 = .ok (.iconst (-1), 1) := by decide +kernel
theorem dX11_between_21 : decode cX11_between 21 = .ok (.ireturn, 1) := by decide +kernel
theorem dX11_heaviest_0 : decode cX11_heaviest 0 = .ok (.iload_n 1, 1) := by decide +kernel
theorem dX11_heaviest_1 : decode cX11_heaviest 1 = .ok (.iload_n 2, 1) := by decide +kernel
theorem dX11_heaviest_2 : decode cX11_heaviest 2 = .ok (.invokestatic 285, 3) := by decide +kernel
theorem dX11_heaviest_5 : decode cX11_heaviest 5 = .ok (.ifCond .eq 15, 3) := by decide +kernel
theorem dX11_heaviest_8 : decode cX11_heaviest 8 = .ok (.aload_n 0, 1) := by decide +kernel
theorem dX11_heaviest_9 : decode cX11_heaviest 9 = .ok (.getfield 67, 3) := by decide +kernel
theorem dX11_heaviest_12 : decode cX11_heaviest 12 = .ok (.iload_n 1, 1) := by decide +kernel
theorem dX11_heaviest_13 : decode cX11_heaviest 13 = .ok (.iload_n 2, 1) := by decide +kernel
theorem dX11_heaviest_14 : decode cX11_heaviest 14 = .ok (.invokevirtual 300, 3) := by decide +kernel
theorem dX11_heaviest_17 : decode cX11_heaviest 17 = .ok (.goto 4, 3) := by decide +kernel
theorem dX11_heaviest_20 : decode cX11_heaviest 20 = .ok (.iconst (-1), 1) := by decide +kernel
theorem dX11_heaviest_21 : decode cX11_heaviest 21 = .ok (.ireturn, 1) := by decide +kernel
theorem dX11_under_0 : decode cX11_under 0 = .ok (.iload_n 1, 1) := by decide +kernel
theorem dX11_under_1 : decode cX11_under 1 = .ok (.iload_n 2, 1) := by decide +kernel
theorem dX11_under_2 : decode cX11_under 2 = .ok (.invokestatic 285, 3) := by decide +kernel
theorem dX11_under_5 : decode cX11_under 5 = .ok (.ifCond .eq 15, 3) := by decide +kernel
theorem dX11_under_8 : decode cX11_under 8 = .ok (.aload_n 0, 1) := by decide +kernel
theorem dX11_under_9 : decode cX11_under 9 = .ok (.getfield 67, 3) := by decide +kernel
theorem dX11_under_12 : decode cX11_under 12 = .ok (.iload_n 1, 1) := by decide +kernel
theorem dX11_under_13 : decode cX11_under 13 = .ok (.iload_n 2, 1) := by decide +kernel
theorem dX11_under_14 : decode cX11_under 14 = .ok (.invokevirtual 303, 3) := by decide +kernel
theorem dX11_under_17 : decode cX11_under 17 = .ok (.goto 4, 3) := by decide +kernel
theorem dX11_under_20 : decode cX11_under 20 = .ok (.iconst (-1), 1) := by decide +kernel
theorem dX11_under_21 : decode cX11_under 21 = .ok (.ireturn, 1) := by decide +kernel
theorem dX11_needless_0 : decode cX11_needless 0 = .ok (.iload_n 1, 1) := by decide +kernel
theorem dX11_needless_1 : decode cX11_needless 1 = .ok (.invokestatic 95, 3) := by decide +kernel
theorem dX11_needless_4 : decode cX11_needless 4 = .ok (.ifCond .eq 14, 3) := by decide +kernel
theorem dX11_needless_7 : decode cX11_needless 7 = .ok (.aload_n 0, 1) := by decide +kernel
theorem dX11_needless_8 : decode cX11_needless 8 = .ok (.getfield 67, 3) := by decide +kernel
theorem dX11_needless_11 : decode cX11_needless 11 = .ok (.iload_n 1, 1) := by decide +kernel
theorem dX11_needless_12 : decode cX11_needless 12 = .ok (.invokevirtual 306, 3) := by decide +kernel
theorem dX11_needless_15 : decode cX11_needless 15 = .ok (.goto 4, 3) := by decide +kernel
theorem dX11_needless_18 : decode cX11_needless 18 = .ok (.iconst (-1), 1) := by decide +kernel
theorem dX11_needless_19 : decode cX11_needless 19 = .ok (.ireturn, 1) := by decide +kernel
theorem dX11_shared_0 : decode cX11_shared 0 = .ok (.iload_n 1, 1) := by decide +kernel
theorem dX11_shared_1 : decode cX11_shared 1 = .ok (.iload_n 2, 1) := by decide +kernel
theorem dX11_shared_2 : decode cX11_shared 2 = .ok (.invokestatic 285, 3) := by decide +kernel
theorem dX11_shared_5 : decode cX11_shared 5 = .ok (.ifCond .eq 15, 3) := by decide +kernel
theorem dX11_shared_8 : decode cX11_shared 8 = .ok (.aload_n 0, 1) := by decide +kernel
theorem dX11_shared_9 : decode cX11_shared 9 = .ok (.getfield 67, 3) := by decide +kernel
theorem dX11_shared_12 : decode cX11_shared 12 = .ok (.iload_n 1, 1) := by decide +kernel
theorem dX11_shared_13 : decode cX11_shared 13 = .ok (.iload_n 2, 1) := by decide +kernel
theorem dX11_shared_14 : decode cX11_shared 14 = .ok (.invokevirtual 309, 3) := by decide +kernel
theorem dX11_shared_17 : decode cX11_shared 17 = .ok (.goto 4, 3) := by decide +kernel
theorem dX11_shared_20 : decode cX11_shared 20 = .ok (.iconst (-1), 1) := by decide +kernel
theorem dX11_shared_21 : decode cX11_shared 21 = .ok (.ireturn, 1) := by decide +kernel
theorem dX11_apart_0 : decode cX11_apart 0 = .ok (.aload_n 0, 1) := by decide +kernel
theorem dX11_apart_1 : decode cX11_apart 1 = .ok (.getfield 67, 3) := by decide +kernel
theorem dX11_apart_4 : decode cX11_apart 4 = .ok (.invokevirtual 312, 3) := by decide +kernel
theorem dX11_apart_7 : decode cX11_apart 7 = .ok (.istore_n 2, 1) := by decide +kernel
theorem dX11_apart_8 : decode cX11_apart 8 = .ok (.iload_n 1, 1) := by decide +kernel
theorem dX11_apart_9 : decode cX11_apart 9 = .ok (.ifCond .eq 10, 3) := by decide +kernel
theorem dX11_apart_12 : decode cX11_apart 12 = .ok (.iload_n 2, 1) := by decide +kernel
theorem dX11_apart_13 : decode cX11_apart 13 = .ok (.invokestatic 315, 3) := by decide +kernel
theorem dX11_apart_16 : decode cX11_apart 16 = .ok (.goto 4, 3) := by decide +kernel
theorem dX11_apart_19 : decode cX11_apart 19 = .ok (.iload_n 2, 1) := by decide +kernel
theorem dX11_apart_20 : decode cX11_apart 20 = .ok (.ireturn, 1) := by decide +kernel
theorem dX11_chains_0 : decode cX11_chains 0 = .ok (.aload_n 0, 1) := by decide +kernel
theorem dX11_chains_1 : decode cX11_chains 1 = .ok (.getfield 67, 3) := by decide +kernel
theorem dX11_chains_4 : decode cX11_chains 4 = .ok (.invokevirtual 320, 3) := by decide +kernel
theorem dX11_chains_7 : decode cX11_chains 7 = .ok (.ireturn, 1) := by decide +kernel
theorem dX11_levels_0 : decode cX11_levels 0 = .ok (.iconst 0, 1) := by decide +kernel
theorem dX11_levels_1 : decode cX11_levels 1 = .ok (.istore_n 1, 1) := by decide +kernel
theorem dX11_levels_2 : decode cX11_levels 2 = .ok (.iconst 0, 1) := by decide +kernel
theorem dX11_levels_3 : decode cX11_levels 3 = .ok (.istore_n 2, 1) := by decide +kernel
theorem dX11_levels_4 : decode cX11_levels 4 = .ok (.iload_n 2, 1) := by decide +kernel
theorem dX11_levels_5 : decode cX11_levels 5 = .ok (.bipush 12, 2) := by decide +kernel
theorem dX11_levels_7 : decode cX11_levels 7 = .ok (.if_icmp .ge 28, 3) := by decide +kernel
theorem dX11_levels_10 : decode cX11_levels 10 = .ok (.iload_n 1, 1) := by decide +kernel
theorem dX11_levels_11 : decode cX11_levels 11 = .ok (.aload_n 0, 1) := by decide +kernel
theorem dX11_levels_12 : decode cX11_levels 12 = .ok (.getfield 12, 3) := by decide +kernel
theorem dX11_levels_15 : decode cX11_levels 15 = .ok (.getfield 44, 3) := by decide +kernel
theorem dX11_levels_18 : decode cX11_levels 18 = .ok (.getfield 262, 3) := by decide +kernel
theorem dX11_levels_21 : decode cX11_levels 21 = .ok (.iload_n 2, 1) := by decide +kernel
theorem dX11_levels_22 : decode cX11_levels 22 = .ok (.iaload, 1) := by decide +kernel
theorem dX11_levels_23 : decode cX11_levels 23 = .ok (.iconst 1, 1) := by decide +kernel
theorem dX11_levels_24 : decode cX11_levels 24 = .ok (.iadd, 1) := by decide +kernel
theorem dX11_levels_25 : decode cX11_levels 25 = .ok (.invokestatic 323, 3) := by decide +kernel
theorem dX11_levels_28 : decode cX11_levels 28 = .ok (.istore_n 1, 1) := by decide +kernel
theorem dX11_levels_29 : decode cX11_levels 29 = .ok (.iinc 2 1, 3) := by decide +kernel
theorem dX11_levels_32 : decode cX11_levels 32 = .ok (.goto (-28), 3) := by decide +kernel
theorem dX11_levels_35 : decode cX11_levels 35 = .ok (.iload_n 1, 1) := by decide +kernel
theorem dX11_levels_36 : decode cX11_levels 36 = .ok (.ireturn, 1) := by decide +kernel
theorem dX11_asked_0 : decode cX11_asked 0 = .ok (.iload_n 1, 1) := by decide +kernel
theorem dX11_asked_1 : decode cX11_asked 1 = .ok (.iconst 1, 1) := by decide +kernel
theorem dX11_asked_2 : decode cX11_asked 2 = .ok (.if_icmp .lt 10, 3) := by decide +kernel
theorem dX11_asked_5 : decode cX11_asked 5 = .ok (.iload_n 1, 1) := by decide +kernel
theorem dX11_asked_6 : decode cX11_asked 6 = .ok (.sipush 4096, 3) := by decide +kernel
theorem dX11_asked_9 : decode cX11_asked 9 = .ok (.if_icmp .lt 5, 3) := by decide +kernel
theorem dX11_asked_12 : decode cX11_asked 12 = .ok (.iconst (-1), 1) := by decide +kernel
theorem dX11_asked_13 : decode cX11_asked 13 = .ok (.ireturn, 1) := by decide +kernel
theorem dX11_asked_14 : decode cX11_asked 14 = .ok (.iload_n 2, 1) := by decide +kernel
theorem dX11_asked_15 : decode cX11_asked 15 = .ok (.ifCond .eq 14, 3) := by decide +kernel
theorem dX11_asked_18 : decode cX11_asked 18 = .ok (.aload_n 0, 1) := by decide +kernel
theorem dX11_asked_19 : decode cX11_asked 19 = .ok (.getfield 74, 3) := by decide +kernel
theorem dX11_asked_22 : decode cX11_asked 22 = .ok (.iload_n 1, 1) := by decide +kernel
theorem dX11_asked_23 : decode cX11_asked 23 = .ok (.invokevirtual 328, 3) := by decide +kernel
theorem dX11_asked_26 : decode cX11_asked 26 = .ok (.goto 11, 3) := by decide +kernel
theorem dX11_asked_29 : decode cX11_asked 29 = .ok (.aload_n 0, 1) := by decide +kernel
theorem dX11_asked_30 : decode cX11_asked 30 = .ok (.getfield 74, 3) := by decide +kernel
theorem dX11_asked_33 : decode cX11_asked 33 = .ok (.iload_n 1, 1) := by decide +kernel
theorem dX11_asked_34 : decode cX11_asked 34 = .ok (.invokevirtual 331, 3) := by decide +kernel
theorem dX11_asked_37 : decode cX11_asked 37 = .ok (.ireturn, 1) := by decide +kernel
theorem dX11_cheap_0 : decode cX11_cheap 0 = .ok (.iload_n 1, 1) := by decide +kernel
theorem dX11_cheap_1 : decode cX11_cheap 1 = .ok (.iload_n 2, 1) := by decide +kernel
theorem dX11_cheap_2 : decode cX11_cheap 2 = .ok (.invokestatic 285, 3) := by decide +kernel
theorem dX11_cheap_5 : decode cX11_cheap 5 = .ok (.ifCond .eq 27, 3) := by decide +kernel
theorem dX11_cheap_8 : decode cX11_cheap 8 = .ok (.iload_n 1, 1) := by decide +kernel
theorem dX11_cheap_9 : decode cX11_cheap 9 = .ok (.iload_n 2, 1) := by decide +kernel
theorem dX11_cheap_10 : decode cX11_cheap 10 = .ok (.if_icmp .eq 22, 3) := by decide +kernel
theorem dX11_cheap_13 : decode cX11_cheap 13 = .ok (.aload_n 0, 1) := by decide +kernel
theorem dX11_cheap_14 : decode cX11_cheap 14 = .ok (.getfield 12, 3) := by decide +kernel
theorem dX11_cheap_17 : decode cX11_cheap 17 = .ok (.getfield 44, 3) := by decide +kernel
theorem dX11_cheap_20 : decode cX11_cheap 20 = .ok (.getfield 256, 3) := by decide +kernel
theorem dX11_cheap_23 : decode cX11_cheap 23 = .ok (.iload_n 1, 1) := by decide +kernel
theorem dX11_cheap_24 : decode cX11_cheap 24 = .ok (.iaload, 1) := by decide +kernel
theorem dX11_cheap_25 : decode cX11_cheap 25 = .ok (.iload_n 2, 1) := by decide +kernel
theorem dX11_cheap_26 : decode cX11_cheap 26 = .ok (.invokestatic 334, 3) := by decide +kernel
theorem dX11_cheap_29 : decode cX11_cheap 29 = .ok (.ifCond .eq 5, 3) := by decide +kernel
theorem dX11_cheap_32 : decode cX11_cheap 32 = .ok (.iconst (-1), 1) := by decide +kernel
theorem dX11_cheap_33 : decode cX11_cheap 33 = .ok (.ireturn, 1) := by decide +kernel
theorem dX11_cheap_34 : decode cX11_cheap 34 = .ok (.aload_n 0, 1) := by decide +kernel
theorem dX11_cheap_35 : decode cX11_cheap 35 = .ok (.getfield 67, 3) := by decide +kernel
theorem dX11_cheap_38 : decode cX11_cheap 38 = .ok (.iload_n 1, 1) := by decide +kernel
theorem dX11_cheap_39 : decode cX11_cheap 39 = .ok (.iload_n 2, 1) := by decide +kernel
theorem dX11_cheap_40 : decode cX11_cheap 40 = .ok (.invokevirtual 337, 3) := by decide +kernel
theorem dX11_cheap_43 : decode cX11_cheap 43 = .ok (.istore 4, 2) := by decide +kernel
theorem dX11_cheap_45 : decode cX11_cheap 45 = .ok (.iload_n 3, 1) := by decide +kernel
theorem dX11_cheap_46 : decode cX11_cheap 46 = .ok (.ifCond .eq 18, 3) := by decide +kernel
theorem dX11_cheap_49 : decode cX11_cheap 49 = .ok (.aload_n 0, 1) := by decide +kernel
theorem dX11_cheap_50 : decode cX11_cheap 50 = .ok (.getfield 12, 3) := by decide +kernel
theorem dX11_cheap_53 : decode cX11_cheap 53 = .ok (.getfield 44, 3) := by decide +kernel
theorem dX11_cheap_56 : decode cX11_cheap 56 = .ok (.iload 4, 2) := by decide +kernel
theorem dX11_cheap_58 : decode cX11_cheap 58 = .ok (.invokevirtual 340, 3) := by decide +kernel
theorem dX11_cheap_61 : decode cX11_cheap 61 = .ok (.goto 5, 3) := by decide +kernel
theorem dX11_cheap_64 : decode cX11_cheap 64 = .ok (.iload 4, 2) := by decide +kernel
theorem dX11_cheap_66 : decode cX11_cheap 66 = .ok (.ireturn, 1) := by decide +kernel
theorem dX11_offers_0 : decode cX11_offers 0 = .ok (.iload_n 1, 1) := by decide +kernel
theorem dX11_offers_1 : decode cX11_offers 1 = .ok (.invokestatic 343, 3) := by decide +kernel
theorem dX11_offers_4 : decode cX11_offers 4 = .ok (.ifCond .eq 32, 3) := by decide +kernel
theorem dX11_offers_7 : decode cX11_offers 7 = .ok (.iload_n 2, 1) := by decide +kernel
theorem dX11_offers_8 : decode cX11_offers 8 = .ok (.invokestatic 343, 3) := by decide +kernel
theorem dX11_offers_11 : decode cX11_offers 11 = .ok (.ifCond .eq 25, 3) := by decide +kernel
theorem dX11_offers_14 : decode cX11_offers 14 = .ok (.iload_n 1, 1) := by decide +kernel
theorem dX11_offers_15 : decode cX11_offers 15 = .ok (.iload_n 2, 1) := by decide +kernel
theorem dX11_offers_16 : decode cX11_offers 16 = .ok (.if_icmp .eq 20, 3) := by decide +kernel
theorem dX11_offers_19 : decode cX11_offers 19 = .ok (.aload_n 0, 1) := by decide +kernel
theorem dX11_offers_20 : decode cX11_offers 20 = .ok (.getfield 12, 3) := by decide +kernel
theorem dX11_offers_23 : decode cX11_offers 23 = .ok (.getfield 346, 3) := by decide +kernel
theorem dX11_offers_26 : decode cX11_offers 26 = .ok (.iload_n 1, 1) := by decide +kernel
theorem dX11_offers_27 : decode cX11_offers 27 = .ok (.iaload, 1) := by decide +kernel
theorem dX11_offers_28 : decode cX11_offers 28 = .ok (.iload_n 2, 1) := by decide +kernel
theorem dX11_offers_29 : decode cX11_offers 29 = .ok (.invokestatic 334, 3) := by decide +kernel
theorem dX11_offers_32 : decode cX11_offers 32 = .ok (.iload_n 3, 1) := by decide +kernel
theorem dX11_offers_33 : decode cX11_offers 33 = .ok (.if_icmp .ne 5, 3) := by decide +kernel
theorem dX11_offers_36 : decode cX11_offers 36 = .ok (.iconst 0, 1) := by decide +kernel
theorem dX11_offers_37 : decode cX11_offers 37 = .ok (.ireturn, 1) := by decide +kernel
theorem dX11_offers_38 : decode cX11_offers 38 = .ok (.aload_n 0, 1) := by decide +kernel
theorem dX11_offers_39 : decode cX11_offers 39 = .ok (.getfield 12, 3) := by decide +kernel
theorem dX11_offers_42 : decode cX11_offers 42 = .ok (.getfield 346, 3) := by decide +kernel
theorem dX11_offers_45 : decode cX11_offers 45 = .ok (.iload_n 1, 1) := by decide +kernel
theorem dX11_offers_46 : decode cX11_offers 46 = .ok (.dup2, 1) := by decide +kernel
theorem dX11_offers_47 : decode cX11_offers 47 = .ok (.iaload, 1) := by decide +kernel
theorem dX11_offers_48 : decode cX11_offers 48 = .ok (.iconst 1, 1) := by decide +kernel
theorem dX11_offers_49 : decode cX11_offers 49 = .ok (.iload_n 2, 1) := by decide +kernel
theorem dX11_offers_50 : decode cX11_offers 50 = .ok (.ishl, 1) := by decide +kernel
theorem dX11_offers_51 : decode cX11_offers 51 = .ok (.ixor, 1) := by decide +kernel
theorem dX11_offers_52 : decode cX11_offers 52 = .ok (.iastore, 1) := by decide +kernel
theorem dX11_offers_53 : decode cX11_offers 53 = .ok (.iconst 1, 1) := by decide +kernel
theorem dX11_offers_54 : decode cX11_offers 54 = .ok (.ireturn, 1) := by decide +kernel
theorem dX11_rings_0 : decode cX11_rings 0 = .ok (.aload_n 0, 1) := by decide +kernel
theorem dX11_rings_1 : decode cX11_rings 1 = .ok (.getfield 83, 3) := by decide +kernel
theorem dX11_rings_4 : decode cX11_rings 4 = .ok (.invokevirtual 349, 3) := by decide +kernel
theorem dX11_rings_7 : decode cX11_rings 7 = .ok (.istore_n 2, 1) := by decide +kernel
theorem dX11_rings_8 : decode cX11_rings 8 = .ok (.iload_n 1, 1) := by decide +kernel
theorem dX11_rings_9 : decode cX11_rings 9 = .ok (.ifCond .eq 10, 3) := by decide +kernel
theorem dX11_rings_12 : decode cX11_rings 12 = .ok (.iload_n 2, 1) := by decide +kernel
theorem dX11_rings_13 : decode cX11_rings 13 = .ok (.invokestatic 315, 3) := by decide +kernel
theorem dX11_rings_16 : decode cX11_rings 16 = .ok (.goto 4, 3) := by decide +kernel
theorem dX11_rings_19 : decode cX11_rings 19 = .ok (.iload_n 2, 1) := by decide +kernel
theorem dX11_rings_20 : decode cX11_rings 20 = .ok (.ireturn, 1) := by decide +kernel
theorem dX11_ring_0 : decode cX11_ring 0 = .ok (.iload_n 1, 1) := by decide +kernel
theorem dX11_ring_1 : decode cX11_ring 1 = .ok (.invokestatic 343, 3) := by decide +kernel
theorem dX11_ring_4 : decode cX11_ring 4 = .ok (.ifCond .eq 14, 3) := by decide +kernel
theorem dX11_ring_7 : decode cX11_ring 7 = .ok (.aload_n 0, 1) := by decide +kernel
theorem dX11_ring_8 : decode cX11_ring 8 = .ok (.getfield 83, 3) := by decide +kernel
theorem dX11_ring_11 : decode cX11_ring 11 = .ok (.iload_n 1, 1) := by decide +kernel
theorem dX11_ring_12 : decode cX11_ring 12 = .ok (.invokevirtual 352, 3) := by decide +kernel
theorem dX11_ring_15 : decode cX11_ring 15 = .ok (.goto 4, 3) := by decide +kernel
theorem dX11_ring_18 : decode cX11_ring 18 = .ok (.iconst (-1), 1) := by decide +kernel
theorem dX11_ring_19 : decode cX11_ring 19 = .ok (.ireturn, 1) := by decide +kernel
theorem dX11_grant_0 : decode cX11_grant 0 = .ok (.iload_n 1, 1) := by decide +kernel
theorem dX11_grant_1 : decode cX11_grant 1 = .ok (.invokestatic 343, 3) := by decide +kernel
theorem dX11_grant_4 : decode cX11_grant 4 = .ok (.ifCond .eq 23, 3) := by decide +kernel
theorem dX11_grant_7 : decode cX11_grant 7 = .ok (.iload_n 2, 1) := by decide +kernel
theorem dX11_grant_8 : decode cX11_grant 8 = .ok (.ifCond .lt 19, 3) := by decide +kernel
theorem dX11_grant_11 : decode cX11_grant 11 = .ok (.iload_n 2, 1) := by decide +kernel
theorem dX11_grant_12 : decode cX11_grant 12 = .ok (.bipush 10, 2) := by decide +kernel
theorem dX11_grant_14 : decode cX11_grant 14 = .ok (.if_icmp .gt 13, 3) := by decide +kernel
theorem dX11_grant_17 : decode cX11_grant 17 = .ok (.iload_n 3, 1) := by decide +kernel
theorem dX11_grant_18 : decode cX11_grant 18 = .ok (.ifCond .lt 9, 3) := by decide +kernel
theorem dX11_grant_21 : decode cX11_grant 21 = .ok (.iload_n 3, 1) := by decide +kernel
theorem dX11_grant_22 : decode cX11_grant 22 = .ok (.bipush 99, 2) := by decide +kernel
theorem dX11_grant_24 : decode cX11_grant 24 = .ok (.if_icmp .le 5, 3) := by decide +kernel
theorem dX11_grant_27 : decode cX11_grant 27 = .ok (.iconst 0, 1) := by decide +kernel
theorem dX11_grant_28 : decode cX11_grant 28 = .ok (.ireturn, 1) := by decide +kernel
theorem dX11_grant_29 : decode cX11_grant 29 = .ok (.aload_n 0, 1) := by decide +kernel
theorem dX11_grant_30 : decode cX11_grant 30 = .ok (.getfield 12, 3) := by decide +kernel
theorem dX11_grant_33 : decode cX11_grant 33 = .ok (.getfield 355, 3) := by decide +kernel
theorem dX11_grant_36 : decode cX11_grant 36 = .ok (.iload_n 1, 1) := by decide +kernel
theorem dX11_grant_37 : decode cX11_grant 37 = .ok (.iload_n 2, 1) := by decide +kernel
theorem dX11_grant_38 : decode cX11_grant 38 = .ok (.iastore, 1) := by decide +kernel
theorem dX11_grant_39 : decode cX11_grant 39 = .ok (.aload_n 0, 1) := by decide +kernel
theorem dX11_grant_40 : decode cX11_grant 40 = .ok (.getfield 12, 3) := by decide +kernel
theorem dX11_grant_43 : decode cX11_grant 43 = .ok (.getfield 358, 3) := by decide +kernel
theorem dX11_grant_46 : decode cX11_grant 46 = .ok (.iload_n 1, 1) := by decide +kernel
theorem dX11_grant_47 : decode cX11_grant 47 = .ok (.iload_n 3, 1) := by decide +kernel
theorem dX11_grant_48 : decode cX11_grant 48 = .ok (.iastore, 1) := by decide +kernel
theorem dX11_grant_49 : decode cX11_grant 49 = .ok (.iconst 1, 1) := by decide +kernel
theorem dX11_grant_50 : decode cX11_grant 50 = .ok (.ireturn, 1) := by decide +kernel
theorem dX11_budget_0 : decode cX11_budget 0 = .ok (.iload_n 1, 1) := by decide +kernel
theorem dX11_budget_1 : decode cX11_budget 1 = .ok (.ifCond .lt 10, 3) := by decide +kernel
theorem dX11_budget_4 : decode cX11_budget 4 = .ok (.iload_n 1, 1) := by decide +kernel
theorem dX11_budget_5 : decode cX11_budget 5 = .ok (.sipush 495, 3) := by decide +kernel
theorem dX11_budget_8 : decode cX11_budget 8 = .ok (.if_icmp .le 7, 3) := by decide +kernel
theorem dX11_budget_11 : decode cX11_budget 11 = .ok (.ldc2_w 292, 3) := by decide +kernel
theorem dX11_budget_14 : decode cX11_budget 14 = .ok (.lreturn, 1) := by decide +kernel
theorem dX11_budget_15 : decode cX11_budget 15 = .ok (.aload_n 0, 1) := by decide +kernel
theorem dX11_budget_16 : decode cX11_budget 16 = .ok (.getfield 83, 3) := by decide +kernel
theorem dX11_budget_19 : decode cX11_budget 19 = .ok (.iload_n 1, 1) := by decide +kernel
theorem dX11_budget_20 : decode cX11_budget 20 = .ok (.invokevirtual 361, 3) := by decide +kernel
theorem dX11_budget_23 : decode cX11_budget 23 = .ok (.lstore_n 3, 1) := by decide +kernel
theorem dX11_budget_24 : decode cX11_budget 24 = .ok (.aload_n 0, 1) := by decide +kernel
theorem dX11_budget_25 : decode cX11_budget 25 = .ok (.getfield 83, 3) := by decide +kernel
theorem dX11_budget_28 : decode cX11_budget 28 = .ok (.invokevirtual 365, 3) := by decide +kernel
theorem dX11_budget_31 : decode cX11_budget 31 = .ok (.lstore 5, 2) := by decide +kernel
theorem dX11_budget_33 : decode cX11_budget 33 = .ok (.lconst 1, 1) := by decide +kernel
theorem dX11_budget_34 : decode cX11_budget 34 = .ok (.lload_n 3, 1) := by decide +kernel
theorem dX11_budget_35 : decode cX11_budget 35 = .ok (.lload 5, 2) := by decide +kernel
theorem dX11_budget_37 : decode cX11_budget 37 = .ok (.invokestatic 369, 3) := by decide +kernel
theorem dX11_budget_40 : decode cX11_budget 40 = .ok (.invokestatic 373, 3) := by decide +kernel
theorem dX11_budget_43 : decode cX11_budget 43 = .ok (.lstore 7, 2) := by decide +kernel
theorem dX11_budget_45 : decode cX11_budget 45 = .ok (.iload_n 2, 1) := by decide +kernel
theorem dX11_budget_46 : decode cX11_budget 46 = .ok (.ifCond .eq 11, 3) := by decide +kernel
theorem dX11_budget_49 : decode cX11_budget 49 = .ok (.lload 5, 2) := by decide +kernel
theorem dX11_budget_51 : decode cX11_budget 51 = .ok (.lload 7, 2) := by decide +kernel
theorem dX11_budget_53 : decode cX11_budget 53 = .ok (.ldiv, 1) := by decide +kernel
theorem dX11_budget_54 : decode cX11_budget 54 = .ok (.goto 7, 3) := by decide +kernel
theorem dX11_budget_57 : decode cX11_budget 57 = .ok (.lload_n 3, 1) := by decide +kernel
theorem dX11_budget_58 : decode cX11_budget 58 = .ok (.lload 7, 2) := by decide +kernel
theorem dX11_budget_60 : decode cX11_budget 60 = .ok (.ldiv, 1) := by decide +kernel
theorem dX11_budget_61 : decode cX11_budget 61 = .ok (.lreturn, 1) := by decide +kernel
theorem dX11_enough_0 : decode cX11_enough 0 = .ok (.iload_n 1, 1) := by decide +kernel
theorem dX11_enough_1 : decode cX11_enough 1 = .ok (.iconst 1, 1) := by decide +kernel
theorem dX11_enough_2 : decode cX11_enough 2 = .ok (.if_icmp .lt 9, 3) := by decide +kernel
theorem dX11_enough_5 : decode cX11_enough 5 = .ok (.iload_n 1, 1) := by decide +kernel
theorem dX11_enough_6 : decode cX11_enough 6 = .ok (.bipush 10, 2) := by decide +kernel
theorem dX11_enough_8 : decode cX11_enough 8 = .ok (.if_icmp .le 7, 3) := by decide +kernel
theorem dX11_enough_11 : decode cX11_enough 11 = .ok (.iconst (-1), 1) := by decide +kernel
theorem dX11_enough_12 : decode cX11_enough 12 = .ok (.goto 11, 3) := by decide +kernel
theorem dX11_enough_15 : decode cX11_enough 15 = .ok (.aload_n 0, 1) := by decide +kernel
theorem dX11_enough_16 : decode cX11_enough 16 = .ok (.getfield 83, 3) := by decide +kernel
theorem dX11_enough_19 : decode cX11_enough 19 = .ok (.iload_n 1, 1) := by decide +kernel
theorem dX11_enough_20 : decode cX11_enough 20 = .ok (.invokevirtual 375, 3) := by decide +kernel
theorem dX11_enough_23 : decode cX11_enough 23 = .ok (.ireturn, 1) := by decide +kernel
theorem dX11_said_0 : decode cX11_said 0 = .ok (.iload_n 1, 1) := by decide +kernel
theorem dX11_said_1 : decode cX11_said 1 = .ok (.iconst (-1), 1) := by decide +kernel
theorem dX11_said_2 : decode cX11_said 2 = .ok (.if_icmp .ne 13, 3) := by decide +kernel
theorem dX11_said_5 : decode cX11_said 5 = .ok (.aload_n 0, 1) := by decide +kernel
theorem dX11_said_6 : decode cX11_said 6 = .ok (.getfield 12, 3) := by decide +kernel
theorem dX11_said_9 : decode cX11_said 9 = .ok (.iconst 0, 1) := by decide +kernel
theorem dX11_said_10 : decode cX11_said 10 = .ok (.putfield 378, 3) := by decide +kernel
theorem dX11_said_13 : decode cX11_said 13 = .ok (.iconst 0, 1) := by decide +kernel
theorem dX11_said_14 : decode cX11_said 14 = .ok (.ireturn, 1) := by decide +kernel
theorem dX11_said_15 : decode cX11_said 15 = .ok (.aload_n 0, 1) := by decide +kernel
theorem dX11_said_16 : decode cX11_said 16 = .ok (.getfield 12, 3) := by decide +kernel
theorem dX11_said_19 : decode cX11_said 19 = .ok (.getfield 139, 3) := by decide +kernel
theorem dX11_said_22 : decode cX11_said 22 = .ok (.iload_n 1, 1) := by decide +kernel
theorem dX11_said_23 : decode cX11_said 23 = .ok (.invokevirtual 227, 3) := by decide +kernel
theorem dX11_said_26 : decode cX11_said 26 = .ok (.ifCond .eq 17, 3) := by decide +kernel
theorem dX11_said_29 : decode cX11_said 29 = .ok (.iload_n 2, 1) := by decide +kernel
theorem dX11_said_30 : decode cX11_said 30 = .ok (.sipush (-999), 3) := by decide +kernel
theorem dX11_said_33 : decode cX11_said 33 = .ok (.if_icmp .lt 10, 3) := by decide +kernel
theorem dX11_said_36 : decode cX11_said 36 = .ok (.iload_n 2, 1) := by decide +kernel
theorem dX11_said_37 : decode cX11_said 37 = .ok (.sipush 999, 3) := by decide +kernel
theorem dX11_said_40 : decode cX11_said 40 = .ok (.if_icmp .le 6, 3) := by decide +kernel
theorem dX11_said_43 : decode cX11_said 43 = .ok (.bipush (-2), 2) := by decide +kernel
theorem dX11_said_45 : decode cX11_said 45 = .ok (.ireturn, 1) := by decide +kernel
theorem dX11_said_46 : decode cX11_said 46 = .ok (.aload_n 0, 1) := by decide +kernel
theorem dX11_said_47 : decode cX11_said 47 = .ok (.getfield 12, 3) := by decide +kernel
theorem dX11_said_50 : decode cX11_said 50 = .ok (.iload_n 1, 1) := by decide +kernel
theorem dX11_said_51 : decode cX11_said 51 = .ok (.iload_n 2, 1) := by decide +kernel
theorem dX11_said_52 : decode cX11_said 52 = .ok (.invokevirtual 381, 3) := by decide +kernel
theorem dX11_said_55 : decode cX11_said 55 = .ok (.ireturn, 1) := by decide +kernel
theorem dX11_whose_0 : decode cX11_whose 0 = .ok (.iconst 0, 1) := by decide +kernel
theorem dX11_whose_1 : decode cX11_whose 1 = .ok (.istore_n 1, 1) := by decide +kernel
theorem dX11_whose_2 : decode cX11_whose 2 = .ok (.iconst 0, 1) := by decide +kernel
theorem dX11_whose_3 : decode cX11_whose 3 = .ok (.istore_n 2, 1) := by decide +kernel
theorem dX11_whose_4 : decode cX11_whose 4 = .ok (.iload_n 2, 1) := by decide +kernel
theorem dX11_whose_5 : decode cX11_whose 5 = .ok (.iconst 4, 1) := by decide +kernel
theorem dX11_whose_6 : decode cX11_whose 6 = .ok (.if_icmp .ge 39, 3) := by decide +kernel
theorem dX11_whose_9 : decode cX11_whose 9 = .ok (.iload_n 2, 1) := by decide +kernel
theorem dX11_whose_10 : decode cX11_whose 10 = .ok (.aload_n 0, 1) := by decide +kernel
theorem dX11_whose_11 : decode cX11_whose 11 = .ok (.getfield 12, 3) := by decide +kernel
theorem dX11_whose_14 : decode cX11_whose 14 = .ok (.getfield 116, 3) := by decide +kernel
theorem dX11_whose_17 : decode cX11_whose 17 = .ok (.if_icmp .ge 28, 3) := by decide +kernel
theorem dX11_whose_20 : decode cX11_whose 20 = .ok (.aload_n 0, 1) := by decide +kernel
theorem dX11_whose_21 : decode cX11_whose 21 = .ok (.aload_n 0, 1) := by decide +kernel
theorem dX11_whose_22 : decode cX11_whose 22 = .ok (.getfield 28, 3) := by decide +kernel
theorem dX11_whose_25 : decode cX11_whose 25 = .ok (.iload_n 2, 1) := by decide +kernel
theorem dX11_whose_26 : decode cX11_whose 26 = .ok (.aaload, 1) := by decide +kernel
theorem dX11_whose_27 : decode cX11_whose 27 = .ok (.invokevirtual 384, 3) := by decide +kernel
theorem dX11_whose_30 : decode cX11_whose 30 = .ok (.ifCond .eq 9, 3) := by decide +kernel
theorem dX11_whose_33 : decode cX11_whose 33 = .ok (.iload_n 1, 1) := by decide +kernel
theorem dX11_whose_34 : decode cX11_whose 34 = .ok (.iconst 1, 1) := by decide +kernel
theorem dX11_whose_35 : decode cX11_whose 35 = .ok (.iload_n 2, 1) := by decide +kernel
theorem dX11_whose_36 : decode cX11_whose 36 = .ok (.ishl, 1) := by decide +kernel
theorem dX11_whose_37 : decode cX11_whose 37 = .ok (.ior, 1) := by decide +kernel
theorem dX11_whose_38 : decode cX11_whose 38 = .ok (.istore_n 1, 1) := by decide +kernel
theorem dX11_whose_39 : decode cX11_whose 39 = .ok (.iinc 2 1, 3) := by decide +kernel
theorem dX11_whose_42 : decode cX11_whose 42 = .ok (.goto (-38), 3) := by decide +kernel
theorem dX11_whose_45 : decode cX11_whose 45 = .ok (.iload_n 1, 1) := by decide +kernel
theorem dX11_whose_46 : decode cX11_whose 46 = .ok (.ireturn, 1) := by decide +kernel
theorem dX11_agrees_0 : decode cX11_agrees 0 = .ok (.iconst 0, 1) := by decide +kernel
theorem dX11_agrees_1 : decode cX11_agrees 1 = .ok (.istore_n 2, 1) := by decide +kernel
theorem dX11_agrees_2 : decode cX11_agrees 2 = .ok (.iload_n 2, 1) := by decide +kernel
theorem dX11_agrees_3 : decode cX11_agrees 3 = .ok (.bipush 8, 2) := by decide +kernel
theorem dX11_agrees_5 : decode cX11_agrees 5 = .ok (.if_icmp .ge 58, 3) := by decide +kernel
theorem dX11_agrees_8 : decode cX11_agrees 8 = .ok (.iload_n 2, 1) := by decide +kernel
theorem dX11_agrees_9 : decode cX11_agrees 9 = .ok (.aload_n 0, 1) := by decide +kernel
theorem dX11_agrees_10 : decode cX11_agrees 10 = .ok (.getfield 12, 3) := by decide +kernel
theorem dX11_agrees_13 : decode cX11_agrees 13 = .ok (.getfield 378, 3) := by decide +kernel
theorem dX11_agrees_16 : decode cX11_agrees 16 = .ok (.if_icmp .ge 47, 3) := by decide +kernel
theorem dX11_agrees_19 : decode cX11_agrees 19 = .ok (.aload_n 0, 1) := by decide +kernel
theorem dX11_agrees_20 : decode cX11_agrees 20 = .ok (.getfield 51, 3) := by decide +kernel
theorem dX11_agrees_23 : decode cX11_agrees 23 = .ok (.aload_n 1, 1) := by decide +kernel
theorem dX11_agrees_24 : decode cX11_agrees 24 = .ok (.aload_n 0, 1) := by decide +kernel
theorem dX11_agrees_25 : decode cX11_agrees 25 = .ok (.getfield 12, 3) := by decide +kernel
theorem dX11_agrees_28 : decode cX11_agrees 28 = .ok (.getfield 139, 3) := by decide +kernel
theorem dX11_agrees_31 : decode cX11_agrees 31 = .ok (.aload_n 0, 1) := by decide +kernel
theorem dX11_agrees_32 : decode cX11_agrees 32 = .ok (.getfield 12, 3) := by decide +kernel
theorem dX11_agrees_35 : decode cX11_agrees 35 = .ok (.getfield 388, 3) := by decide +kernel
theorem dX11_agrees_38 : decode cX11_agrees 38 = .ok (.iload_n 2, 1) := by decide +kernel
theorem dX11_agrees_39 : decode cX11_agrees 39 = .ok (.iaload, 1) := by decide +kernel
theorem dX11_agrees_40 : decode cX11_agrees 40 = .ok (.invokevirtual 249, 3) := by decide +kernel
theorem dX11_agrees_43 : decode cX11_agrees 43 = .ok (.aload_n 0, 1) := by decide +kernel
theorem dX11_agrees_44 : decode cX11_agrees 44 = .ok (.getfield 12, 3) := by decide +kernel
theorem dX11_agrees_47 : decode cX11_agrees 47 = .ok (.getfield 391, 3) := by decide +kernel
theorem dX11_agrees_50 : decode cX11_agrees 50 = .ok (.iload_n 2, 1) := by decide +kernel
theorem dX11_agrees_51 : decode cX11_agrees 51 = .ok (.iaload, 1) := by decide +kernel
theorem dX11_agrees_52 : decode cX11_agrees 52 = .ok (.if_icmp .eq 5, 3) := by decide +kernel
theorem dX11_agrees_55 : decode cX11_agrees 55 = .ok (.iconst 0, 1) := by decide +kernel
theorem dX11_agrees_56 : decode cX11_agrees 56 = .ok (.ireturn, 1) := by decide +kernel
theorem dX11_agrees_57 : decode cX11_agrees 57 = .ok (.iinc 2 1, 3) := by decide +kernel
theorem dX11_agrees_60 : decode cX11_agrees 60 = .ok (.goto (-58), 3) := by decide +kernel
theorem dX11_agrees_63 : decode cX11_agrees 63 = .ok (.iconst 1, 1) := by decide +kernel
theorem dX11_agrees_64 : decode cX11_agrees 64 = .ok (.ireturn, 1) := by decide +kernel
theorem dX11_saddest_0 : decode cX11_saddest 0 = .ok (.iconst (-1), 1) := by decide +kernel
theorem dX11_saddest_1 : decode cX11_saddest 1 = .ok (.istore_n 1, 1) := by decide +kernel
theorem dX11_saddest_2 : decode cX11_saddest 2 = .ok (.iconst 0, 1) := by decide +kernel
theorem dX11_saddest_3 : decode cX11_saddest 3 = .ok (.istore_n 2, 1) := by decide +kernel
theorem dX11_saddest_4 : decode cX11_saddest 4 = .ok (.iconst 0, 1) := by decide +kernel
theorem dX11_saddest_5 : decode cX11_saddest 5 = .ok (.istore_n 3, 1) := by decide +kernel
theorem dX11_saddest_6 : decode cX11_saddest 6 = .ok (.iload_n 3, 1) := by decide +kernel
theorem dX11_saddest_7 : decode cX11_saddest 7 = .ok (.iconst 5, 1) := by decide +kernel
theorem dX11_saddest_8 : decode cX11_saddest 8 = .ok (.if_icmp .ge 54, 3) := by decide +kernel
theorem dX11_saddest_11 : decode cX11_saddest 11 = .ok (.iload_n 3, 1) := by decide +kernel
theorem dX11_saddest_12 : decode cX11_saddest 12 = .ok (.aload_n 0, 1) := by decide +kernel
theorem dX11_saddest_13 : decode cX11_saddest 13 = .ok (.getfield 12, 3) := by decide +kernel
theorem dX11_saddest_16 : decode cX11_saddest 16 = .ok (.getfield 139, 3) := by decide +kernel
theorem dX11_saddest_19 : decode cX11_saddest 19 = .ok (.getfield 394, 3) := by decide +kernel
theorem dX11_saddest_22 : decode cX11_saddest 22 = .ok (.if_icmp .ge 40, 3) := by decide +kernel
theorem dX11_saddest_25 : decode cX11_saddest 25 = .ok (.aload_n 0, 1) := by decide +kernel
theorem dX11_saddest_26 : decode cX11_saddest 26 = .ok (.getfield 12, 3) := by decide +kernel
theorem dX11_saddest_29 : decode cX11_saddest 29 = .ok (.getfield 139, 3) := by decide +kernel
theorem dX11_saddest_32 : decode cX11_saddest 32 = .ok (.getfield 236, 3) := by decide +kernel
theorem dX11_saddest_35 : decode cX11_saddest 35 = .ok (.iload_n 3, 1) := by decide +kernel
theorem dX11_saddest_36 : decode cX11_saddest 36 = .ok (.iaload, 1) := by decide +kernel
theorem dX11_saddest_37 : decode cX11_saddest 37 = .ok (.iload_n 2, 1) := by decide +kernel
theorem dX11_saddest_38 : decode cX11_saddest 38 = .ok (.if_icmp .le 18, 3) := by decide +kernel
theorem dX11_saddest_41 : decode cX11_saddest 41 = .ok (.aload_n 0, 1) := by decide +kernel
theorem dX11_saddest_42 : decode cX11_saddest 42 = .ok (.getfield 12, 3) := by decide +kernel
theorem dX11_saddest_45 : decode cX11_saddest 45 = .ok (.getfield 139, 3) := by decide +kernel
theorem dX11_saddest_48 : decode cX11_saddest 48 = .ok (.getfield 236, 3) := by decide +kernel
theorem dX11_saddest_51 : decode cX11_saddest 51 = .ok (.iload_n 3, 1) := by decide +kernel
theorem dX11_saddest_52 : decode cX11_saddest 52 = .ok (.iaload, 1) := by decide +kernel
theorem dX11_saddest_53 : decode cX11_saddest 53 = .ok (.istore_n 2, 1) := by decide +kernel
theorem dX11_saddest_54 : decode cX11_saddest 54 = .ok (.iload_n 3, 1) := by decide +kernel
theorem dX11_saddest_55 : decode cX11_saddest 55 = .ok (.istore_n 1, 1) := by decide +kernel
theorem dX11_saddest_56 : decode cX11_saddest 56 = .ok (.iinc 3 1, 3) := by decide +kernel
theorem dX11_saddest_59 : decode cX11_saddest 59 = .ok (.goto (-53), 3) := by decide +kernel
theorem dX11_saddest_62 : decode cX11_saddest 62 = .ok (.iload_n 1, 1) := by decide +kernel
theorem dX11_saddest_63 : decode cX11_saddest 63 = .ok (.ireturn, 1) := by decide +kernel
theorem dX11_plain_0 : decode cX11_plain 0 = .ok (.iconst 0, 1) := by decide +kernel
theorem dX11_plain_1 : decode cX11_plain 1 = .ok (.istore_n 1, 1) := by decide +kernel
theorem dX11_plain_2 : decode cX11_plain 2 = .ok (.iconst 0, 1) := by decide +kernel
theorem dX11_plain_3 : decode cX11_plain 3 = .ok (.istore_n 2, 1) := by decide +kernel
theorem dX11_plain_4 : decode cX11_plain 4 = .ok (.iload_n 2, 1) := by decide +kernel
theorem dX11_plain_5 : decode cX11_plain 5 = .ok (.bipush 12, 2) := by decide +kernel
theorem dX11_plain_7 : decode cX11_plain 7 = .ok (.if_icmp .ge 30, 3) := by decide +kernel
theorem dX11_plain_10 : decode cX11_plain 10 = .ok (.aload_n 0, 1) := by decide +kernel
theorem dX11_plain_11 : decode cX11_plain 11 = .ok (.getfield 12, 3) := by decide +kernel
theorem dX11_plain_14 : decode cX11_plain 14 = .ok (.getfield 44, 3) := by decide +kernel
theorem dX11_plain_17 : decode cX11_plain 17 = .ok (.getfield 256, 3) := by decide +kernel
theorem dX11_plain_20 : decode cX11_plain 20 = .ok (.iload_n 2, 1) := by decide +kernel
theorem dX11_plain_21 : decode cX11_plain 21 = .ok (.iaload, 1) := by decide +kernel
theorem dX11_plain_22 : decode cX11_plain 22 = .ok (.ifCond .ne 9, 3) := by decide +kernel
theorem dX11_plain_25 : decode cX11_plain 25 = .ok (.iload_n 1, 1) := by decide +kernel
theorem dX11_plain_26 : decode cX11_plain 26 = .ok (.iconst 1, 1) := by decide +kernel
theorem dX11_plain_27 : decode cX11_plain 27 = .ok (.iload_n 2, 1) := by decide +kernel
theorem dX11_plain_28 : decode cX11_plain 28 = .ok (.ishl, 1) := by decide +kernel
theorem dX11_plain_29 : decode cX11_plain 29 = .ok (.ior, 1) := by decide +kernel
theorem dX11_plain_30 : decode cX11_plain 30 = .ok (.istore_n 1, 1) := by decide +kernel
theorem dX11_plain_31 : decode cX11_plain 31 = .ok (.iinc 2 1, 3) := by decide +kernel
theorem dX11_plain_34 : decode cX11_plain 34 = .ok (.goto (-30), 3) := by decide +kernel
theorem dX11_plain_37 : decode cX11_plain 37 = .ok (.iload_n 1, 1) := by decide +kernel
theorem dX11_plain_38 : decode cX11_plain 38 = .ok (.ireturn, 1) := by decide +kernel
theorem dX11_loose_0 : decode cX11_loose 0 = .ok (.iconst 0, 1) := by decide +kernel
theorem dX11_loose_1 : decode cX11_loose 1 = .ok (.istore_n 1, 1) := by decide +kernel
theorem dX11_loose_2 : decode cX11_loose 2 = .ok (.iconst 0, 1) := by decide +kernel
theorem dX11_loose_3 : decode cX11_loose 3 = .ok (.istore_n 2, 1) := by decide +kernel
theorem dX11_loose_4 : decode cX11_loose 4 = .ok (.iload_n 2, 1) := by decide +kernel
theorem dX11_loose_5 : decode cX11_loose 5 = .ok (.bipush 12, 2) := by decide +kernel
theorem dX11_loose_7 : decode cX11_loose 7 = .ok (.if_icmp .ge 24, 3) := by decide +kernel
theorem dX11_loose_10 : decode cX11_loose 10 = .ok (.iload_n 1, 1) := by decide +kernel
theorem dX11_loose_11 : decode cX11_loose 11 = .ok (.aload_n 0, 1) := by decide +kernel
theorem dX11_loose_12 : decode cX11_loose 12 = .ok (.getfield 12, 3) := by decide +kernel
theorem dX11_loose_15 : decode cX11_loose 15 = .ok (.getfield 44, 3) := by decide +kernel
theorem dX11_loose_18 : decode cX11_loose 18 = .ok (.getfield 256, 3) := by decide +kernel
theorem dX11_loose_21 : decode cX11_loose 21 = .ok (.iload_n 2, 1) := by decide +kernel
theorem dX11_loose_22 : decode cX11_loose 22 = .ok (.iaload, 1) := by decide +kernel
theorem dX11_loose_23 : decode cX11_loose 23 = .ok (.ior, 1) := by decide +kernel
theorem dX11_loose_24 : decode cX11_loose 24 = .ok (.istore_n 1, 1) := by decide +kernel
theorem dX11_loose_25 : decode cX11_loose 25 = .ok (.iinc 2 1, 3) := by decide +kernel
theorem dX11_loose_28 : decode cX11_loose 28 = .ok (.goto (-24), 3) := by decide +kernel
theorem dX11_loose_31 : decode cX11_loose 31 = .ok (.sipush 4095, 3) := by decide +kernel
theorem dX11_loose_34 : decode cX11_loose 34 = .ok (.iload_n 1, 1) := by decide +kernel
theorem dX11_loose_35 : decode cX11_loose 35 = .ok (.iconst (-1), 1) := by decide +kernel
theorem dX11_loose_36 : decode cX11_loose 36 = .ok (.ixor, 1) := by decide +kernel
theorem dX11_loose_37 : decode cX11_loose 37 = .ok (.iand, 1) := by decide +kernel
theorem dX11_loose_38 : decode cX11_loose 38 = .ok (.ireturn, 1) := by decide +kernel
theorem dX11_above_0 : decode cX11_above 0 = .ok (.iload_n 1, 1) := by decide +kernel
theorem dX11_above_1 : decode cX11_above 1 = .ok (.invokestatic 95, 3) := by decide +kernel
theorem dX11_above_4 : decode cX11_above 4 = .ok (.ifCond .eq 14, 3) := by decide +kernel
theorem dX11_above_7 : decode cX11_above 7 = .ok (.aload_n 0, 1) := by decide +kernel
theorem dX11_above_8 : decode cX11_above 8 = .ok (.getfield 67, 3) := by decide +kernel
theorem dX11_above_11 : decode cX11_above 11 = .ok (.iload_n 1, 1) := by decide +kernel
theorem dX11_above_12 : decode cX11_above 12 = .ok (.invokevirtual 396, 3) := by decide +kernel
theorem dX11_above_15 : decode cX11_above 15 = .ok (.goto 4, 3) := by decide +kernel
theorem dX11_above_18 : decode cX11_above 18 = .ok (.iconst (-1), 1) := by decide +kernel
theorem dX11_above_19 : decode cX11_above 19 = .ok (.ireturn, 1) := by decide +kernel
theorem dX11_ledger_0 : decode cX11_ledger 0 = .ok (.iconst 0, 1) := by decide +kernel
theorem dX11_ledger_1 : decode cX11_ledger 1 = .ok (.istore_n 2, 1) := by decide +kernel
theorem dX11_ledger_2 : decode cX11_ledger 2 = .ok (.iconst 0, 1) := by decide +kernel
theorem dX11_ledger_3 : decode cX11_ledger 3 = .ok (.istore_n 3, 1) := by decide +kernel
theorem dX11_ledger_4 : decode cX11_ledger 4 = .ok (.iload_n 3, 1) := by decide +kernel
theorem dX11_ledger_5 : decode cX11_ledger 5 = .ok (.bipush 30, 2) := by decide +kernel
theorem dX11_ledger_7 : decode cX11_ledger 7 = .ok (.if_icmp .ge 50, 3) := by decide +kernel
theorem dX11_ledger_10 : decode cX11_ledger 10 = .ok (.iload_n 3, 1) := by decide +kernel
theorem dX11_ledger_11 : decode cX11_ledger 11 = .ok (.aload_n 0, 1) := by decide +kernel
theorem dX11_ledger_12 : decode cX11_ledger 12 = .ok (.getfield 12, 3) := by decide +kernel
theorem dX11_ledger_15 : decode cX11_ledger 15 = .ok (.getfield 139, 3) := by decide +kernel
theorem dX11_ledger_18 : decode cX11_ledger 18 = .ok (.getfield 276, 3) := by decide +kernel
theorem dX11_ledger_21 : decode cX11_ledger 21 = .ok (.if_icmp .ge 36, 3) := by decide +kernel
theorem dX11_ledger_24 : decode cX11_ledger 24 = .ok (.aload_n 0, 1) := by decide +kernel
theorem dX11_ledger_25 : decode cX11_ledger 25 = .ok (.getfield 12, 3) := by decide +kernel
theorem dX11_ledger_28 : decode cX11_ledger 28 = .ok (.getfield 139, 3) := by decide +kernel
theorem dX11_ledger_31 : decode cX11_ledger 31 = .ok (.iload_n 3, 1) := by decide +kernel
theorem dX11_ledger_32 : decode cX11_ledger 32 = .ok (.iconst 3, 1) := by decide +kernel
theorem dX11_ledger_33 : decode cX11_ledger 33 = .ok (.invokevirtual 279, 3) := by decide +kernel
theorem dX11_ledger_36 : decode cX11_ledger 36 = .ok (.iload_n 1, 1) := by decide +kernel
theorem dX11_ledger_37 : decode cX11_ledger 37 = .ok (.ifCond .eq 7, 3) := by decide +kernel
theorem dX11_ledger_40 : decode cX11_ledger 40 = .ok (.iconst 1, 1) := by decide +kernel
theorem dX11_ledger_41 : decode cX11_ledger 41 = .ok (.goto 4, 3) := by decide +kernel
theorem dX11_ledger_44 : decode cX11_ledger 44 = .ok (.iconst 0, 1) := by decide +kernel
theorem dX11_ledger_45 : decode cX11_ledger 45 = .ok (.if_icmp .ne 6, 3) := by decide +kernel
theorem dX11_ledger_48 : decode cX11_ledger 48 = .ok (.iinc 2 1, 3) := by decide +kernel
theorem dX11_ledger_51 : decode cX11_ledger 51 = .ok (.iinc 3 1, 3) := by decide +kernel
theorem dX11_ledger_54 : decode cX11_ledger 54 = .ok (.goto (-50), 3) := by decide +kernel
theorem dX11_ledger_57 : decode cX11_ledger 57 = .ok (.iload_n 2, 1) := by decide +kernel
theorem dX11_ledger_58 : decode cX11_ledger 58 = .ok (.ireturn, 1) := by decide +kernel
theorem dX11_image_0 : decode cX11_image 0 = .ok (.aload_n 0, 1) := by decide +kernel
theorem dX11_image_1 : decode cX11_image 1 = .ok (.getfield 16, 3) := by decide +kernel
theorem dX11_image_4 : decode cX11_image 4 = .ok (.aload_n 0, 1) := by decide +kernel
theorem dX11_image_5 : decode cX11_image 5 = .ok (.getfield 12, 3) := by decide +kernel
theorem dX11_image_8 : decode cX11_image 8 = .ok (.invokevirtual 399, 3) := by decide +kernel
theorem dX11_image_11 : decode cX11_image 11 = .ok (.aload_n 0, 1) := by decide +kernel
theorem dX11_image_12 : decode cX11_image 12 = .ok (.getfield 12, 3) := by decide +kernel
theorem dX11_image_15 : decode cX11_image 15 = .ok (.getfield 139, 3) := by decide +kernel
theorem dX11_image_18 : decode cX11_image 18 = .ok (.getfield 170, 3) := by decide +kernel
theorem dX11_image_21 : decode cX11_image 21 = .ok (.ireturn, 1) := by decide +kernel
theorem dX11_back_0 : decode cX11_back 0 = .ok (.aload_n 0, 1) := by decide +kernel
theorem dX11_back_1 : decode cX11_back 1 = .ok (.getfield 12, 3) := by decide +kernel
theorem dX11_back_4 : decode cX11_back 4 = .ok (.aload_n 0, 1) := by decide +kernel
theorem dX11_back_5 : decode cX11_back 5 = .ok (.getfield 16, 3) := by decide +kernel
theorem dX11_back_8 : decode cX11_back 8 = .ok (.invokevirtual 399, 3) := by decide +kernel
theorem dX11_back_11 : decode cX11_back 11 = .ok (.aload_n 0, 1) := by decide +kernel
theorem dX11_back_12 : decode cX11_back 12 = .ok (.getfield 12, 3) := by decide +kernel
theorem dX11_back_15 : decode cX11_back 15 = .ok (.getfield 139, 3) := by decide +kernel
theorem dX11_back_18 : decode cX11_back 18 = .ok (.getfield 170, 3) := by decide +kernel
theorem dX11_back_21 : decode cX11_back 21 = .ok (.ireturn, 1) := by decide +kernel
theorem dX11_about_0 : decode cX11_about 0 = .ok (.iload_n 1, 1) := by decide +kernel
theorem dX11_about_1 : decode cX11_about 1 = .ok (.tableswitch 87 0 5 #[39, 50, 58, 66, 74, 82], 39) := by decide +kernel
theorem dX11_about_40 : decode cX11_about 40 = .ok (.aload_n 0, 1) := by decide +kernel
theorem dX11_about_41 : decode cX11_about 41 = .ok (.getfield 12, 3) := by decide +kernel
theorem dX11_about_44 : decode cX11_about 44 = .ok (.getfield 139, 3) := by decide +kernel
theorem dX11_about_47 : decode cX11_about 47 = .ok (.getfield 394, 3) := by decide +kernel
theorem dX11_about_50 : decode cX11_about 50 = .ok (.ireturn, 1) := by decide +kernel
theorem dX11_about_51 : decode cX11_about 51 = .ok (.aload_n 0, 1) := by decide +kernel
theorem dX11_about_52 : decode cX11_about 52 = .ok (.getfield 12, 3) := by decide +kernel
theorem dX11_about_55 : decode cX11_about 55 = .ok (.getfield 116, 3) := by decide +kernel
theorem dX11_about_58 : decode cX11_about 58 = .ok (.ireturn, 1) := by decide +kernel
theorem dX11_about_59 : decode cX11_about 59 = .ok (.aload_n 0, 1) := by decide +kernel
theorem dX11_about_60 : decode cX11_about 60 = .ok (.getfield 12, 3) := by decide +kernel
theorem dX11_about_63 : decode cX11_about 63 = .ok (.getfield 136, 3) := by decide +kernel
theorem dX11_about_66 : decode cX11_about 66 = .ok (.ireturn, 1) := by decide +kernel
theorem dX11_about_67 : decode cX11_about 67 = .ok (.aload_n 0, 1) := by decide +kernel
theorem dX11_about_68 : decode cX11_about 68 = .ok (.getfield 12, 3) := by decide +kernel
theorem dX11_about_71 : decode cX11_about 71 = .ok (.getfield 224, 3) := by decide +kernel
theorem dX11_about_74 : decode cX11_about 74 = .ok (.ireturn, 1) := by decide +kernel
theorem dX11_about_75 : decode cX11_about 75 = .ok (.aload_n 0, 1) := by decide +kernel
theorem dX11_about_76 : decode cX11_about 76 = .ok (.getfield 12, 3) := by decide +kernel
theorem dX11_about_79 : decode cX11_about 79 = .ok (.getfield 378, 3) := by decide +kernel
theorem dX11_about_82 : decode cX11_about 82 = .ok (.ireturn, 1) := by decide +kernel
theorem dX11_about_83 : decode cX11_about 83 = .ok (.aload_n 0, 1) := by decide +kernel
theorem dX11_about_84 : decode cX11_about 84 = .ok (.getfield 91, 3) := by decide +kernel
theorem dX11_about_87 : decode cX11_about 87 = .ok (.ireturn, 1) := by decide +kernel
theorem dX11_about_88 : decode cX11_about 88 = .ok (.bipush (-2), 2) := by decide +kernel
theorem dX11_about_90 : decode cX11_about 90 = .ok (.ireturn, 1) := by decide +kernel
theorem dX11_isText_0 : decode cX11_isText 0 = .ok (.iload_n 1, 1) := by decide +kernel
theorem dX11_isText_1 : decode cX11_isText 1 = .ok (.ifCond .lt 23, 3) := by decide +kernel
theorem dX11_isText_4 : decode cX11_isText 4 = .ok (.iload_n 1, 1) := by decide +kernel
theorem dX11_isText_5 : decode cX11_isText 5 = .ok (.aload_n 0, 1) := by decide +kernel
theorem dX11_isText_6 : decode cX11_isText 6 = .ok (.getfield 12, 3) := by decide +kernel
theorem dX11_isText_9 : decode cX11_isText 9 = .ok (.getfield 116, 3) := by decide +kernel
theorem dX11_isText_12 : decode cX11_isText 12 = .ok (.if_icmp .ge 12, 3) := by decide +kernel
theorem dX11_isText_15 : decode cX11_isText 15 = .ok (.iload_n 1, 1) := by decide +kernel
theorem dX11_isText_16 : decode cX11_isText 16 = .ok (.iconst 4, 1) := by decide +kernel
theorem dX11_isText_17 : decode cX11_isText 17 = .ok (.if_icmp .ge 7, 3) := by decide +kernel
theorem dX11_isText_20 : decode cX11_isText 20 = .ok (.iconst 1, 1) := by decide +kernel
theorem dX11_isText_21 : decode cX11_isText 21 = .ok (.goto 4, 3) := by decide +kernel
theorem dX11_isText_24 : decode cX11_isText 24 = .ok (.iconst 0, 1) := by decide +kernel
theorem dX11_isText_25 : decode cX11_isText 25 = .ok (.ireturn, 1) := by decide +kernel
theorem dX11_isWant_0 : decode cX11_isWant 0 = .ok (.iload_n 0, 1) := by decide +kernel
theorem dX11_isWant_1 : decode cX11_isWant 1 = .ok (.ifCond .lt 13, 3) := by decide +kernel
theorem dX11_isWant_4 : decode cX11_isWant 4 = .ok (.iload_n 0, 1) := by decide +kernel
theorem dX11_isWant_5 : decode cX11_isWant 5 = .ok (.bipush 12, 2) := by decide +kernel
theorem dX11_isWant_7 : decode cX11_isWant 7 = .ok (.if_icmp .ge 7, 3) := by decide +kernel
theorem dX11_isWant_10 : decode cX11_isWant 10 = .ok (.iconst 1, 1) := by decide +kernel
theorem dX11_isWant_11 : decode cX11_isWant 11 = .ok (.goto 4, 3) := by decide +kernel
theorem dX11_isWant_14 : decode cX11_isWant 14 = .ok (.iconst 0, 1) := by decide +kernel
theorem dX11_isWant_15 : decode cX11_isWant 15 = .ok (.ireturn, 1) := by decide +kernel
theorem dX11_areWants_0 : decode cX11_areWants 0 = .ok (.iload_n 0, 1) := by decide +kernel
theorem dX11_areWants_1 : decode cX11_areWants 1 = .ok (.invokestatic 95, 3) := by decide +kernel
theorem dX11_areWants_4 : decode cX11_areWants 4 = .ok (.ifCond .eq 14, 3) := by decide +kernel
theorem dX11_areWants_7 : decode cX11_areWants 7 = .ok (.iload_n 1, 1) := by decide +kernel
theorem dX11_areWants_8 : decode cX11_areWants 8 = .ok (.invokestatic 95, 3) := by decide +kernel
theorem dX11_areWants_11 : decode cX11_areWants 11 = .ok (.ifCond .eq 7, 3) := by decide +kernel
theorem dX11_areWants_14 : decode cX11_areWants 14 = .ok (.iconst 1, 1) := by decide +kernel
theorem dX11_areWants_15 : decode cX11_areWants 15 = .ok (.goto 4, 3) := by decide +kernel
theorem dX11_areWants_18 : decode cX11_areWants 18 = .ok (.iconst 0, 1) := by decide +kernel
theorem dX11_areWants_19 : decode cX11_areWants 19 = .ok (.ireturn, 1) := by decide +kernel
theorem dX11_isPerson_0 : decode cX11_isPerson 0 = .ok (.iload_n 0, 1) := by decide +kernel
theorem dX11_isPerson_1 : decode cX11_isPerson 1 = .ok (.ifCond .lt 12, 3) := by decide +kernel
theorem dX11_isPerson_4 : decode cX11_isPerson 4 = .ok (.iload_n 0, 1) := by decide +kernel
theorem dX11_isPerson_5 : decode cX11_isPerson 5 = .ok (.iconst 5, 1) := by decide +kernel
theorem dX11_isPerson_6 : decode cX11_isPerson 6 = .ok (.if_icmp .ge 7, 3) := by decide +kernel
theorem dX11_isPerson_9 : decode cX11_isPerson 9 = .ok (.iconst 1, 1) := by decide +kernel
theorem dX11_isPerson_10 : decode cX11_isPerson 10 = .ok (.goto 4, 3) := by decide +kernel
theorem dX11_isPerson_13 : decode cX11_isPerson 13 = .ok (.iconst 0, 1) := by decide +kernel
theorem dX11_isPerson_14 : decode cX11_isPerson 14 = .ok (.ireturn, 1) := by decide +kernel
theorem dX11_has_0 : decode cX11_has 0 = .ok (.iload_n 0, 1) := by decide +kernel
theorem dX11_has_1 : decode cX11_has 1 = .ok (.iload_n 1, 1) := by decide +kernel
theorem dX11_has_2 : decode cX11_has 2 = .ok (.ishr, 1) := by decide +kernel
theorem dX11_has_3 : decode cX11_has 3 = .ok (.iconst 1, 1) := by decide +kernel
theorem dX11_has_4 : decode cX11_has 4 = .ok (.iand, 1) := by decide +kernel
theorem dX11_has_5 : decode cX11_has 5 = .ok (.ifCond .eq 7, 3) := by decide +kernel
theorem dX11_has_8 : decode cX11_has 8 = .ok (.iconst 1, 1) := by decide +kernel
theorem dX11_has_9 : decode cX11_has 9 = .ok (.goto 4, 3) := by decide +kernel
theorem dX11_has_12 : decode cX11_has 12 = .ok (.iconst 0, 1) := by decide +kernel
theorem dX11_has_13 : decode cX11_has 13 = .ok (.ireturn, 1) := by decide +kernel
theorem dX11_greatestDivisor_0 : decode cX11_greatestDivisor 0 = .ok (.iconst 0, 1) := by decide +kernel
theorem dX11_greatestDivisor_1 : decode cX11_greatestDivisor 1 = .ok (.istore 4, 2) := by decide +kernel
theorem dX11_greatestDivisor_3 : decode cX11_greatestDivisor 3 = .ok (.iload 4, 2) := by decide +kernel
theorem dX11_greatestDivisor_5 : decode cX11_greatestDivisor 5 = .ok (.bipush 64, 2) := by decide +kernel
theorem dX11_greatestDivisor_7 : decode cX11_greatestDivisor 7 = .ok (.if_icmp .ge 25, 3) := by decide +kernel
theorem dX11_greatestDivisor_10 : decode cX11_greatestDivisor 10 = .ok (.lload_n 2, 1) := by decide +kernel
theorem dX11_greatestDivisor_11 : decode cX11_greatestDivisor 11 = .ok (.lconst 0, 1) := by decide +kernel
theorem dX11_greatestDivisor_12 : decode cX11_greatestDivisor 12 = .ok (.lcmp, 1) := by decide +kernel
theorem dX11_greatestDivisor_13 : decode cX11_greatestDivisor 13 = .ok (.ifCond .eq 19, 3) := by decide +kernel
theorem dX11_greatestDivisor_16 : decode cX11_greatestDivisor 16 = .ok (.lload_n 0, 1) := by decide +kernel
theorem dX11_greatestDivisor_17 : decode cX11_greatestDivisor 17 = .ok (.lload_n 2, 1) := by decide +kernel
theorem dX11_greatestDivisor_18 : decode cX11_greatestDivisor 18 = .ok (.lrem, 1) := by decide +kernel
theorem dX11_greatestDivisor_19 : decode cX11_greatestDivisor 19 = .ok (.lstore 5, 2) := by decide +kernel
theorem dX11_greatestDivisor_21 : decode cX11_greatestDivisor 21 = .ok (.lload_n 2, 1) := by decide +kernel
theorem dX11_greatestDivisor_22 : decode cX11_greatestDivisor 22 = .ok (.lstore_n 0, 1) := by decide +kernel
theorem dX11_greatestDivisor_23 : decode cX11_greatestDivisor 23 = .ok (.lload 5, 2) := by decide +kernel
theorem dX11_greatestDivisor_25 : decode cX11_greatestDivisor 25 = .ok (.lstore_n 2, 1) := by decide +kernel
theorem dX11_greatestDivisor_26 : decode cX11_greatestDivisor 26 = .ok (.iinc 4 1, 3) := by decide +kernel
theorem dX11_greatestDivisor_29 : decode cX11_greatestDivisor 29 = .ok (.goto (-26), 3) := by decide +kernel
theorem dX11_greatestDivisor_32 : decode cX11_greatestDivisor 32 = .ok (.lload_n 0, 1) := by decide +kernel
theorem dX11_greatestDivisor_33 : decode cX11_greatestDivisor 33 = .ok (.lreturn, 1) := by decide +kernel
theorem dX12_init_0 : decode cX12_init 0 = .ok (.aload_n 0, 1) := by decide +kernel
theorem dX12_init_1 : decode cX12_init 1 = .ok (.invokespecial 1, 3) := by decide +kernel
theorem dX12_init_4 : decode cX12_init 4 = .ok (.aload_n 0, 1) := by decide +kernel
theorem dX12_init_5 : decode cX12_init 5 = .ok (.sipush 2084, 3) := by decide +kernel
theorem dX12_init_8 : decode cX12_init 8 = .ok (.newarray .int, 2) := by decide +kernel
theorem dX12_init_10 : decode cX12_init 10 = .ok (.putfield 7, 3) := by decide +kernel
theorem dX12_init_13 : decode cX12_init 13 = .ok (.aload_n 0, 1) := by decide +kernel
theorem dX12_init_14 : decode cX12_init 14 = .ok (.sipush 2084, 3) := by decide +kernel
theorem dX12_init_17 : decode cX12_init 17 = .ok (.newarray .int, 2) := by decide +kernel
theorem dX12_init_19 : decode cX12_init 19 = .ok (.putfield 13, 3) := by decide +kernel
theorem dX12_init_22 : decode cX12_init 22 = .ok (.aload_n 0, 1) := by decide +kernel
theorem dX12_init_23 : decode cX12_init 23 = .ok (.sipush 2724, 3) := by decide +kernel
theorem dX12_init_26 : decode cX12_init 26 = .ok (.newarray .int, 2) := by decide +kernel
theorem dX12_init_28 : decode cX12_init 28 = .ok (.putfield 16, 3) := by decide +kernel
theorem dX12_init_31 : decode cX12_init 31 = .ok (.aload_n 0, 1) := by decide +kernel
theorem dX12_init_32 : decode cX12_init 32 = .ok (.bipush 12, 2) := by decide +kernel
theorem dX12_init_34 : decode cX12_init 34 = .ok (.newarray .int, 2) := by decide +kernel
theorem dX12_init_36 : decode cX12_init 36 = .ok (.putfield 19, 3) := by decide +kernel
theorem dX12_init_39 : decode cX12_init 39 = .ok (.aload_n 0, 1) := by decide +kernel
theorem dX12_init_40 : decode cX12_init 40 = .ok (.bipush 12, 2) := by decide +kernel
theorem dX12_init_42 : decode cX12_init 42 = .ok (.newarray .int, 2) := by decide +kernel
theorem dX12_init_44 : decode cX12_init 44 = .ok (.putfield 22, 3) := by decide +kernel
theorem dX12_init_47 : decode cX12_init 47 = .ok (.aload_n 0, 1) := by decide +kernel
theorem dX12_init_48 : decode cX12_init 48 = .ok (.sipush 300, 3) := by decide +kernel
theorem dX12_init_51 : decode cX12_init 51 = .ok (.newarray .int, 2) := by decide +kernel
theorem dX12_init_53 : decode cX12_init 53 = .ok (.putfield 25, 3) := by decide +kernel
theorem dX12_init_56 : decode cX12_init 56 = .ok (.aload_n 0, 1) := by decide +kernel
theorem dX12_init_57 : decode cX12_init 57 = .ok (.iconst (-1), 1) := by decide +kernel
theorem dX12_init_58 : decode cX12_init 58 = .ok (.putfield 28, 3) := by decide +kernel
theorem dX12_init_61 : decode cX12_init 61 = .ok (.aload_n 0, 1) := by decide +kernel
theorem dX12_init_62 : decode cX12_init 62 = .ok (.iconst (-1), 1) := by decide +kernel
theorem dX12_init_63 : decode cX12_init 63 = .ok (.putfield 32, 3) := by decide +kernel
theorem dX12_init_66 : decode cX12_init 66 = .ok (.aload_n 0, 1) := by decide +kernel
theorem dX12_init_67 : decode cX12_init 67 = .ok (.sipush 160, 3) := by decide +kernel
theorem dX12_init_70 : decode cX12_init 70 = .ok (.newarray .int, 2) := by decide +kernel
theorem dX12_init_72 : decode cX12_init 72 = .ok (.putfield 35, 3) := by decide +kernel
theorem dX12_init_75 : decode cX12_init 75 = .ok (.aload_n 0, 1) := by decide +kernel
theorem dX12_init_76 : decode cX12_init 76 = .ok (.bipush 10, 2) := by decide +kernel
theorem dX12_init_78 : decode cX12_init 78 = .ok (.newarray .int, 2) := by decide +kernel
theorem dX12_init_80 : decode cX12_init 80 = .ok (.putfield 38, 3) := by decide +kernel
theorem dX12_init_83 : decode cX12_init 83 = .ok (.aload_n 0, 1) := by decide +kernel
theorem dX12_init_84 : decode cX12_init 84 = .ok (.sipush 330, 3) := by decide +kernel
theorem dX12_init_87 : decode cX12_init 87 = .ok (.newarray .long, 2) := by decide +kernel
theorem dX12_init_89 : decode cX12_init 89 = .ok (.putfield 41, 3) := by decide +kernel
theorem dX12_init_92 : decode cX12_init 92 = .ok (.aload_n 0, 1) := by decide +kernel
theorem dX12_init_93 : decode cX12_init 93 = .ok (.sipush 330, 3) := by decide +kernel
theorem dX12_init_96 : decode cX12_init 96 = .ok (.newarray .boolean, 2) := by decide +kernel
theorem dX12_init_98 : decode cX12_init 98 = .ok (.putfield 45, 3) := by decide +kernel
theorem dX12_init_101 : decode cX12_init 101 = .ok (.aload_n 0, 1) := by decide +kernel
theorem dX12_init_102 : decode cX12_init 102 = .ok (.iconst 1, 1) := by decide +kernel
theorem dX12_init_103 : decode cX12_init 103 = .ok (.putfield 49, 3) := by decide +kernel
theorem dX12_init_106 : decode cX12_init 106 = .ok (.aload_n 0, 1) := by decide +kernel
theorem dX12_init_107 : decode cX12_init 107 = .ok (.bipush 49, 2) := by decide +kernel
theorem dX12_init_109 : decode cX12_init 109 = .ok (.newarray .int, 2) := by decide +kernel
theorem dX12_init_111 : decode cX12_init 111 = .ok (.putfield 53, 3) := by decide +kernel
theorem dX12_init_114 : decode cX12_init 114 = .ok (.aload_n 0, 1) := by decide +kernel
theorem dX12_init_115 : decode cX12_init 115 = .ok (.bipush 12, 2) := by decide +kernel
theorem dX12_init_117 : decode cX12_init 117 = .ok (.newarray .long, 2) := by decide +kernel
theorem dX12_init_119 : decode cX12_init 119 = .ok (.putfield 56, 3) := by decide +kernel
theorem dX12_init_122 : decode cX12_init 122 = .ok (.aload_n 0, 1) := by decide +kernel
theorem dX12_init_123 : decode cX12_init 123 = .ok (.bipush 12, 2) := by decide +kernel
theorem dX12_init_125 : decode cX12_init 125 = .ok (.newarray .int, 2) := by decide +kernel
theorem dX12_init_127 : decode cX12_init 127 = .ok (.putfield 59, 3) := by decide +kernel
theorem dX12_init_130 : decode cX12_init 130 = .ok (.aload_n 0, 1) := by decide +kernel
theorem dX12_init_131 : decode cX12_init 131 = .ok (.bipush 12, 2) := by decide +kernel
theorem dX12_init_133 : decode cX12_init 133 = .ok (.newarray .int, 2) := by decide +kernel
theorem dX12_init_135 : decode cX12_init 135 = .ok (.putfield 62, 3) := by decide +kernel
theorem dX12_init_138 : decode cX12_init 138 = .ok (.aload_n 0, 1) := by decide +kernel
theorem dX12_init_139 : decode cX12_init 139 = .ok (.bipush 12, 2) := by decide +kernel
theorem dX12_init_141 : decode cX12_init 141 = .ok (.newarray .int, 2) := by decide +kernel
theorem dX12_init_143 : decode cX12_init 143 = .ok (.putfield 65, 3) := by decide +kernel
theorem dX12_init_146 : decode cX12_init 146 = .ok (.aload_n 0, 1) := by decide +kernel
theorem dX12_init_147 : decode cX12_init 147 = .ok (.bipush 13, 2) := by decide +kernel
theorem dX12_init_149 : decode cX12_init 149 = .ok (.newarray .int, 2) := by decide +kernel
theorem dX12_init_151 : decode cX12_init 151 = .ok (.putfield 68, 3) := by decide +kernel
theorem dX12_init_154 : decode cX12_init 154 = .ok (.aload_n 0, 1) := by decide +kernel
theorem dX12_init_155 : decode cX12_init 155 = .ok (.sipush 4096, 3) := by decide +kernel
theorem dX12_init_158 : decode cX12_init 158 = .ok (.newarray .int, 2) := by decide +kernel
theorem dX12_init_160 : decode cX12_init 160 = .ok (.putfield 71, 3) := by decide +kernel
theorem dX12_init_163 : decode cX12_init 163 = .ok (.aload_n 0, 1) := by decide +kernel
theorem dX12_init_164 : decode cX12_init 164 = .ok (.iconst 5, 1) := by decide +kernel
theorem dX12_init_165 : decode cX12_init 165 = .ok (.newarray .int, 2) := by decide +kernel
theorem dX12_init_167 : decode cX12_init 167 = .ok (.putfield 74, 3) := by decide +kernel
theorem dX12_init_170 : decode cX12_init 170 = .ok (.aload_n 0, 1) := by decide +kernel
theorem dX12_init_171 : decode cX12_init 171 = .ok (.iconst 5, 1) := by decide +kernel
theorem dX12_init_172 : decode cX12_init 172 = .ok (.newarray .int, 2) := by decide +kernel
theorem dX12_init_174 : decode cX12_init 174 = .ok (.putfield 77, 3) := by decide +kernel
theorem dX12_init_177 : decode cX12_init 177 = .ok (.aload_n 0, 1) := by decide +kernel
theorem dX12_init_178 : decode cX12_init 178 = .ok (.getfield 7, 3) := by decide +kernel
theorem dX12_init_181 : decode cX12_init 181 = .ok (.bipush 6, 2) := by decide +kernel
theorem dX12_init_183 : decode cX12_init 183 = .ok (.sipush 251, 3) := by decide +kernel
theorem dX12_init_186 : decode cX12_init 186 = .ok (.iastore, 1) := by decide +kernel
theorem dX12_init_187 : decode cX12_init 187 = .ok (.aload_n 0, 1) := by decide +kernel
theorem dX12_init_188 : decode cX12_init 188 = .ok (.getfield 7, 3) := by decide +kernel
theorem dX12_init_191 : decode cX12_init 191 = .ok (.iconst 2, 1) := by decide +kernel
theorem dX12_init_192 : decode cX12_init 192 = .ok (.iconst (-1), 1) := by decide +kernel
theorem dX12_init_193 : decode cX12_init 193 = .ok (.iastore, 1) := by decide +kernel
theorem dX12_init_194 : decode cX12_init 194 = .ok (.iconst 0, 1) := by decide +kernel
theorem dX12_init_195 : decode cX12_init 195 = .ok (.istore_n 1, 1) := by decide +kernel
theorem dX12_init_196 : decode cX12_init 196 = .ok (.iload_n 1, 1) := by decide +kernel
theorem dX12_init_197 : decode cX12_init 197 = .ok (.bipush 12, 2) := by decide +kernel
theorem dX12_init_199 : decode cX12_init 199 = .ok (.if_icmp .ge 20, 3) := by decide +kernel
theorem dX12_init_202 : decode cX12_init 202 = .ok (.aload_n 0, 1) := by decide +kernel
theorem dX12_init_203 : decode cX12_init 203 = .ok (.getfield 7, 3) := by decide +kernel
theorem dX12_init_206 : decode cX12_init 206 = .ok (.bipush 49, 2) := by decide +kernel
theorem dX12_init_208 : decode cX12_init 208 = .ok (.iload_n 1, 1) := by decide +kernel
theorem dX12_init_209 : decode cX12_init 209 = .ok (.iadd, 1) := by decide +kernel
theorem dX12_init_210 : decode cX12_init 210 = .ok (.bipush 10, 2) := by decide +kernel
theorem dX12_init_212 : decode cX12_init 212 = .ok (.iastore, 1) := by decide +kernel
theorem dX12_init_213 : decode cX12_init 213 = .ok (.iinc 1 1, 3) := by decide +kernel
theorem dX12_init_216 : decode cX12_init 216 = .ok (.goto (-20), 3) := by decide +kernel
theorem dX12_init_219 : decode cX12_init 219 = .ok (.iconst 0, 1) := by decide +kernel
theorem dX12_init_220 : decode cX12_init 220 = .ok (.istore_n 1, 1) := by decide +kernel
theorem dX12_init_221 : decode cX12_init 221 = .ok (.iload_n 1, 1) := by decide +kernel
theorem dX12_init_222 : decode cX12_init 222 = .ok (.iconst 5, 1) := by decide +kernel
theorem dX12_init_223 : decode cX12_init 223 = .ok (.if_icmp .ge 30, 3) := by decide +kernel
theorem dX12_init_226 : decode cX12_init 226 = .ok (.aload_n 0, 1) := by decide +kernel
theorem dX12_init_227 : decode cX12_init 227 = .ok (.getfield 7, 3) := by decide +kernel
theorem dX12_init_230 : decode cX12_init 230 = .ok (.bipush 78, 2) := by decide +kernel
theorem dX12_init_232 : decode cX12_init 232 = .ok (.iload_n 1, 1) := by decide +kernel
theorem dX12_init_233 : decode cX12_init 233 = .ok (.iadd, 1) := by decide +kernel
theorem dX12_init_234 : decode cX12_init 234 = .ok (.iconst 5, 1) := by decide +kernel
theorem dX12_init_235 : decode cX12_init 235 = .ok (.iastore, 1) := by decide +kernel
theorem dX12_init_236 : decode cX12_init 236 = .ok (.aload_n 0, 1) := by decide +kernel
theorem dX12_init_237 : decode cX12_init 237 = .ok (.getfield 7, 3) := by decide +kernel
theorem dX12_init_240 : decode cX12_init 240 = .ok (.bipush 83, 2) := by decide +kernel
theorem dX12_init_242 : decode cX12_init 242 = .ok (.iload_n 1, 1) := by decide +kernel
theorem dX12_init_243 : decode cX12_init 243 = .ok (.iadd, 1) := by decide +kernel
theorem dX12_init_244 : decode cX12_init 244 = .ok (.bipush 10, 2) := by decide +kernel
theorem dX12_init_246 : decode cX12_init 246 = .ok (.iastore, 1) := by decide +kernel
theorem dX12_init_247 : decode cX12_init 247 = .ok (.iinc 1 1, 3) := by decide +kernel
theorem dX12_init_250 : decode cX12_init 250 = .ok (.goto (-29), 3) := by decide +kernel
theorem dX12_init_253 : decode cX12_init 253 = .ok (.aload_n 0, 1) := by decide +kernel
theorem dX12_init_254 : decode cX12_init 254 = .ok (.getfield 7, 3) := by decide +kernel
theorem dX12_init_257 : decode cX12_init 257 = .ok (.aload_n 0, 1) := by decide +kernel
theorem dX12_init_258 : decode cX12_init 258 = .ok (.getfield 13, 3) := by decide +kernel
theorem dX12_init_261 : decode cX12_init 261 = .ok (.invokestatic 80, 3) := by decide +kernel
theorem dX12_init_264 : decode cX12_init 264 = .ok (.return_, 1) := by decide +kernel
theorem dX12_copy_0 : decode cX12_copy 0 = .ok (.iconst 0, 1) := by decide +kernel
theorem dX12_copy_1 : decode cX12_copy 1 = .ok (.istore_n 2, 1) := by decide +kernel
theorem dX12_copy_2 : decode cX12_copy 2 = .ok (.iload_n 2, 1) := by decide +kernel
theorem dX12_copy_3 : decode cX12_copy 3 = .ok (.sipush 2084, 3) := by decide +kernel
theorem dX12_copy_6 : decode cX12_copy 6 = .ok (.if_icmp .ge 15, 3) := by decide +kernel
theorem dX12_copy_9 : decode cX12_copy 9 = .ok (.aload_n 1, 1) := by decide +kernel
theorem dX12_copy_10 : decode cX12_copy 10 = .ok (.iload_n 2, 1) := by decide +kernel
theorem dX12_copy_11 : decode cX12_copy 11 = .ok (.aload_n 0, 1) := by decide +kernel
theorem dX12_copy_12 : decode cX12_copy 12 = .ok (.iload_n 2, 1) := by decide +kernel
theorem dX12_copy_13 : decode cX12_copy 13 = .ok (.iaload, 1) := by decide +kernel
theorem dX12_copy_14 : decode cX12_copy 14 = .ok (.iastore, 1) := by decide +kernel
theorem dX12_copy_15 : decode cX12_copy 15 = .ok (.iinc 2 1, 3) := by decide +kernel
theorem dX12_copy_18 : decode cX12_copy 18 = .ok (.goto (-16), 3) := by decide +kernel
theorem dX12_copy_21 : decode cX12_copy 21 = .ok (.return_, 1) := by decide +kernel
theorem dX12_isIn_0 : decode cX12_isIn 0 = .ok (.iload_n 0, 1) := by decide +kernel
theorem dX12_isIn_1 : decode cX12_isIn 1 = .ok (.iload_n 1, 1) := by decide +kernel
theorem dX12_isIn_2 : decode cX12_isIn 2 = .ok (.if_icmp .lt 12, 3) := by decide +kernel
theorem dX12_isIn_5 : decode cX12_isIn 5 = .ok (.iload_n 0, 1) := by decide +kernel
theorem dX12_isIn_6 : decode cX12_isIn 6 = .ok (.iload_n 2, 1) := by decide +kernel
theorem dX12_isIn_7 : decode cX12_isIn 7 = .ok (.if_icmp .gt 7, 3) := by decide +kernel
theorem dX12_isIn_10 : decode cX12_isIn 10 = .ok (.iconst 1, 1) := by decide +kernel
theorem dX12_isIn_11 : decode cX12_isIn 11 = .ok (.goto 4, 3) := by decide +kernel
theorem dX12_isIn_14 : decode cX12_isIn 14 = .ok (.iconst 0, 1) := by decide +kernel
theorem dX12_isIn_15 : decode cX12_isIn 15 = .ok (.ireturn, 1) := by decide +kernel
theorem dX12_cut_0 : decode cX12_cut 0 = .ok (.lload_n 0, 1) := by decide +kernel
theorem dX12_cut_1 : decode cX12_cut 1 = .ok (.iload_n 2, 1) := by decide +kernel
theorem dX12_cut_2 : decode cX12_cut 2 = .ok (.i2l, 1) := by decide +kernel
theorem dX12_cut_3 : decode cX12_cut 3 = .ok (.lcmp, 1) := by decide +kernel
theorem dX12_cut_4 : decode cX12_cut 4 = .ok (.ifCond .ge 7, 3) := by decide +kernel
theorem dX12_cut_7 : decode cX12_cut 7 = .ok (.iload_n 2, 1) := by decide +kernel
theorem dX12_cut_8 : decode cX12_cut 8 = .ok (.goto 16, 3) := by decide +kernel
theorem dX12_cut_11 : decode cX12_cut 11 = .ok (.lload_n 0, 1) := by decide +kernel
theorem dX12_cut_12 : decode cX12_cut 12 = .ok (.iload_n 3, 1) := by decide +kernel
theorem dX12_cut_13 : decode cX12_cut 13 = .ok (.i2l, 1) := by decide +kernel
theorem dX12_cut_14 : decode cX12_cut 14 = .ok (.lcmp, 1) := by decide +kernel
theorem dX12_cut_15 : decode cX12_cut 15 = .ok (.ifCond .le 7, 3) := by decide +kernel
theorem dX12_cut_18 : decode cX12_cut 18 = .ok (.iload_n 3, 1) := by decide +kernel
theorem dX12_cut_19 : decode cX12_cut 19 = .ok (.goto 5, 3) := by decide +kernel
theorem dX12_cut_22 : decode cX12_cut 22 = .ok (.lload_n 0, 1) := by decide +kernel
theorem dX12_cut_23 : decode cX12_cut 23 = .ok (.l2i, 1) := by decide +kernel
theorem dX12_cut_24 : decode cX12_cut 24 = .ok (.ireturn, 1) := by decide +kernel
theorem dX12_has_0 : decode cX12_has 0 = .ok (.iload_n 0, 1) := by decide +kernel
theorem dX12_has_1 : decode cX12_has 1 = .ok (.iload_n 1, 1) := by decide +kernel
theorem dX12_has_2 : decode cX12_has 2 = .ok (.ishr, 1) := by decide +kernel
theorem dX12_has_3 : decode cX12_has 3 = .ok (.iconst 1, 1) := by decide +kernel
theorem dX12_has_4 : decode cX12_has 4 = .ok (.iand, 1) := by decide +kernel
theorem dX12_has_5 : decode cX12_has 5 = .ok (.iconst 1, 1) := by decide +kernel
theorem dX12_has_6 : decode cX12_has 6 = .ok (.if_icmp .ne 7, 3) := by decide +kernel
theorem dX12_has_9 : decode cX12_has 9 = .ok (.iconst 1, 1) := by decide +kernel
theorem dX12_has_10 : decode cX12_has 10 = .ok (.goto 4, 3) := by decide +kernel
theorem dX12_has_13 : decode cX12_has 13 = .ok (.iconst 0, 1) := by decide +kernel
theorem dX12_has_14 : decode cX12_has 14 = .ok (.ireturn, 1) := by decide +kernel
theorem dX12_bits_0 : decode cX12_bits 0 = .ok (.iconst 0, 1) := by decide +kernel
theorem dX12_bits_1 : decode cX12_bits 1 = .ok (.istore_n 1, 1) := by decide +kernel
theorem dX12_bits_2 : decode cX12_bits 2 = .ok (.iload_n 0, 1) := by decide +kernel
theorem dX12_bits_3 : decode cX12_bits 3 = .ok (.istore_n 2, 1) := by decide +kernel
theorem dX12_bits_4 : decode cX12_bits 4 = .ok (.iload_n 2, 1) := by decide +kernel
theorem dX12_bits_5 : decode cX12_bits 5 = .ok (.ifCond .eq 15, 3) := by decide +kernel
theorem dX12_bits_8 : decode cX12_bits 8 = .ok (.iinc 1 1, 3) := by decide +kernel
theorem dX12_bits_11 : decode cX12_bits 11 = .ok (.iload_n 2, 1) := by decide +kernel
theorem dX12_bits_12 : decode cX12_bits 12 = .ok (.iload_n 2, 1) := by decide +kernel
theorem dX12_bits_13 : decode cX12_bits 13 = .ok (.iconst 1, 1) := by decide +kernel
theorem dX12_bits_14 : decode cX12_bits 14 = .ok (.isub, 1) := by decide +kernel
theorem dX12_bits_15 : decode cX12_bits 15 = .ok (.iand, 1) := by decide +kernel
theorem dX12_bits_16 : decode cX12_bits 16 = .ok (.istore_n 2, 1) := by decide +kernel
theorem dX12_bits_17 : decode cX12_bits 17 = .ok (.goto (-13), 3) := by decide +kernel
theorem dX12_bits_20 : decode cX12_bits 20 = .ok (.iload_n 1, 1) := by decide +kernel
theorem dX12_bits_21 : decode cX12_bits 21 = .ok (.ireturn, 1) := by decide +kernel
theorem dX12_isWant_0 : decode cX12_isWant 0 = .ok (.iload_n 0, 1) := by decide +kernel
theorem dX12_isWant_1 : decode cX12_isWant 1 = .ok (.iconst 0, 1) := by decide +kernel
theorem dX12_isWant_2 : decode cX12_isWant 2 = .ok (.bipush 11, 2) := by decide +kernel
theorem dX12_isWant_4 : decode cX12_isWant 4 = .ok (.invokestatic 84, 3) := by decide +kernel
theorem dX12_isWant_7 : decode cX12_isWant 7 = .ok (.ireturn, 1) := by decide +kernel
theorem dX12_isPerson_0 : decode cX12_isPerson 0 = .ok (.iload_n 1, 1) := by decide +kernel
theorem dX12_isPerson_1 : decode cX12_isPerson 1 = .ok (.iconst 0, 1) := by decide +kernel
theorem dX12_isPerson_2 : decode cX12_isPerson 2 = .ok (.aload_n 0, 1) := by decide +kernel
theorem dX12_isPerson_3 : decode cX12_isPerson 3 = .ok (.getfield 7, 3) := by decide +kernel
theorem dX12_isPerson_6 : decode cX12_isPerson 6 = .ok (.iconst 0, 1) := by decide +kernel
theorem dX12_isPerson_7 : decode cX12_isPerson 7 = .ok (.iaload, 1) := by decide +kernel
theorem dX12_isPerson_8 : decode cX12_isPerson 8 = .ok (.iconst 1, 1) := by decide +kernel
theorem dX12_isPerson_9 : decode cX12_isPerson 9 = .ok (.isub, 1) := by decide +kernel
theorem dX12_isPerson_10 : decode cX12_isPerson 10 = .ok (.invokestatic 84, 3) := by decide +kernel
theorem dX12_isPerson_13 : decode cX12_isPerson 13 = .ok (.ireturn, 1) := by decide +kernel
theorem dX12_get_0 : decode cX12_get 0 = .ok (.aload_n 0, 1) := by decide +kernel
theorem dX12_get_1 : decode cX12_get 1 = .ok (.getfield 7, 3) := by decide +kernel
theorem dX12_get_4 : decode cX12_get 4 = .ok (.bipush 9, 2) := by decide +kernel
theorem dX12_get_6 : decode cX12_get 6 = .ok (.bipush 8, 2) := by decide +kernel
theorem dX12_get_8 : decode cX12_get 8 = .ok (.iload_n 1, 1) := by decide +kernel
theorem dX12_get_9 : decode cX12_get 9 = .ok (.imul, 1) := by decide +kernel
theorem dX12_get_10 : decode cX12_get 10 = .ok (.iadd, 1) := by decide +kernel
theorem dX12_get_11 : decode cX12_get 11 = .ok (.iload_n 2, 1) := by decide +kernel
theorem dX12_get_12 : decode cX12_get 12 = .ok (.iadd, 1) := by decide +kernel
theorem dX12_get_13 : decode cX12_get 13 = .ok (.iaload, 1) := by decide +kernel
theorem dX12_get_14 : decode cX12_get 14 = .ok (.ireturn, 1) := by decide +kernel
theorem dX12_put_0 : decode cX12_put 0 = .ok (.aload_n 0, 1) := by decide +kernel
theorem dX12_put_1 : decode cX12_put 1 = .ok (.getfield 7, 3) := by decide +kernel
theorem dX12_put_4 : decode cX12_put 4 = .ok (.bipush 9, 2) := by decide +kernel
theorem dX12_put_6 : decode cX12_put 6 = .ok (.bipush 8, 2) := by decide +kernel
theorem dX12_put_8 : decode cX12_put 8 = .ok (.iload_n 1, 1) := by decide +kernel
theorem dX12_put_9 : decode cX12_put 9 = .ok (.imul, 1) := by decide +kernel
theorem dX12_put_10 : decode cX12_put 10 = .ok (.iadd, 1) := by decide +kernel
theorem dX12_put_11 : decode cX12_put 11 = .ok (.iload_n 2, 1) := by decide +kernel
theorem dX12_put_12 : decode cX12_put 12 = .ok (.iadd, 1) := by decide +kernel
theorem dX12_put_13 : decode cX12_put 13 = .ok (.iload_n 3, 1) := by decide +kernel
theorem dX12_put_14 : decode cX12_put 14 = .ok (.iastore, 1) := by decide +kernel
theorem dX12_put_15 : decode cX12_put 15 = .ok (.return_, 1) := by decide +kernel
theorem dX12_isWaiting_0 : decode cX12_isWaiting 0 = .ok (.aload_n 0, 1) := by decide +kernel
theorem dX12_isWaiting_1 : decode cX12_isWaiting 1 = .ok (.iload_n 1, 1) := by decide +kernel
theorem dX12_isWaiting_2 : decode cX12_isWaiting 2 = .ok (.invokevirtual 88, 3) := by decide +kernel
theorem dX12_isWaiting_5 : decode cX12_isWaiting 5 = .ok (.ifCond .eq 16, 3) := by decide +kernel
theorem dX12_isWaiting_8 : decode cX12_isWaiting 8 = .ok (.aload_n 0, 1) := by decide +kernel
theorem dX12_isWaiting_9 : decode cX12_isWaiting 9 = .ok (.iload_n 1, 1) := by decide +kernel
theorem dX12_isWaiting_10 : decode cX12_isWaiting 10 = .ok (.iconst 1, 1) := by decide +kernel
theorem dX12_isWaiting_11 : decode cX12_isWaiting 11 = .ok (.invokevirtual 92, 3) := by decide +kernel
theorem dX12_isWaiting_14 : decode cX12_isWaiting 14 = .ok (.ifCond .ne 7, 3) := by decide +kernel
theorem dX12_isWaiting_17 : decode cX12_isWaiting 17 = .ok (.iconst 1, 1) := by decide +kernel
theorem dX12_isWaiting_18 : decode cX12_isWaiting 18 = .ok (.goto 4, 3) := by decide +kernel
theorem dX12_isWaiting_21 : decode cX12_isWaiting 21 = .ok (.iconst 0, 1) := by decide +kernel
theorem dX12_isWaiting_22 : decode cX12_isWaiting 22 = .ok (.ireturn, 1) := by decide +kernel
theorem dX12_layLows_0 : decode cX12_layLows 0 = .ok (.bipush 11, 2) := by decide +kernel
theorem dX12_layLows_2 : decode cX12_layLows 2 = .ok (.istore_n 1, 1) := by decide +kernel
theorem dX12_layLows_3 : decode cX12_layLows 3 = .ok (.iload_n 1, 1) := by decide +kernel
theorem dX12_layLows_4 : decode cX12_layLows 4 = .ok (.ifCond .lt 119, 3) := by decide +kernel
theorem dX12_layLows_7 : decode cX12_layLows 7 = .ok (.aload_n 0, 1) := by decide +kernel
theorem dX12_layLows_8 : decode cX12_layLows 8 = .ok (.getfield 19, 3) := by decide +kernel
theorem dX12_layLows_11 : decode cX12_layLows 11 = .ok (.iload_n 1, 1) := by decide +kernel
theorem dX12_layLows_12 : decode cX12_layLows 12 = .ok (.aload_n 0, 1) := by decide +kernel
theorem dX12_layLows_13 : decode cX12_layLows 13 = .ok (.getfield 7, 3) := by decide +kernel
theorem dX12_layLows_16 : decode cX12_layLows 16 = .ok (.bipush 61, 2) := by decide +kernel
theorem dX12_layLows_18 : decode cX12_layLows 18 = .ok (.iload_n 1, 1) := by decide +kernel
theorem dX12_layLows_19 : decode cX12_layLows 19 = .ok (.iadd, 1) := by decide +kernel
theorem dX12_layLows_20 : decode cX12_layLows 20 = .ok (.iaload, 1) := by decide +kernel
theorem dX12_layLows_21 : decode cX12_layLows 21 = .ok (.iastore, 1) := by decide +kernel
theorem dX12_layLows_22 : decode cX12_layLows 22 = .ok (.aload_n 0, 1) := by decide +kernel
theorem dX12_layLows_23 : decode cX12_layLows 23 = .ok (.getfield 22, 3) := by decide +kernel
theorem dX12_layLows_26 : decode cX12_layLows 26 = .ok (.iload_n 1, 1) := by decide +kernel
theorem dX12_layLows_27 : decode cX12_layLows 27 = .ok (.iconst 0, 1) := by decide +kernel
theorem dX12_layLows_28 : decode cX12_layLows 28 = .ok (.iastore, 1) := by decide +kernel
theorem dX12_layLows_29 : decode cX12_layLows 29 = .ok (.iload_n 1, 1) := by decide +kernel
theorem dX12_layLows_30 : decode cX12_layLows 30 = .ok (.iconst 1, 1) := by decide +kernel
theorem dX12_layLows_31 : decode cX12_layLows 31 = .ok (.iadd, 1) := by decide +kernel
theorem dX12_layLows_32 : decode cX12_layLows 32 = .ok (.istore_n 2, 1) := by decide +kernel
theorem dX12_layLows_33 : decode cX12_layLows 33 = .ok (.iload_n 2, 1) := by decide +kernel
theorem dX12_layLows_34 : decode cX12_layLows 34 = .ok (.bipush 12, 2) := by decide +kernel
theorem dX12_layLows_36 : decode cX12_layLows 36 = .ok (.if_icmp .ge 81, 3) := by decide +kernel
theorem dX12_layLows_39 : decode cX12_layLows 39 = .ok (.aload_n 0, 1) := by decide +kernel
theorem dX12_layLows_40 : decode cX12_layLows 40 = .ok (.getfield 7, 3) := by decide +kernel
theorem dX12_layLows_43 : decode cX12_layLows 43 = .ok (.bipush 61, 2) := by decide +kernel
theorem dX12_layLows_45 : decode cX12_layLows 45 = .ok (.iload_n 1, 1) := by decide +kernel
theorem dX12_layLows_46 : decode cX12_layLows 46 = .ok (.iadd, 1) := by decide +kernel
theorem dX12_layLows_47 : decode cX12_layLows 47 = .ok (.iaload, 1) := by decide +kernel
theorem dX12_layLows_48 : decode cX12_layLows 48 = .ok (.iload_n 2, 1) := by decide +kernel
theorem dX12_layLows_49 : decode cX12_layLows 49 = .ok (.invokestatic 96, 3) := by decide +kernel
theorem dX12_layLows_52 : decode cX12_layLows 52 = .ok (.ifCond .ne 6, 3) := by decide +kernel
theorem dX12_layLows_55 : decode cX12_layLows 55 = .ok (.goto 56, 3) := by decide +kernel
theorem dX12_layLows_58 : decode cX12_layLows 58 = .ok (.aload_n 0, 1) := by decide +kernel
theorem dX12_layLows_59 : decode cX12_layLows 59 = .ok (.getfield 19, 3) := by decide +kernel
theorem dX12_layLows_62 : decode cX12_layLows 62 = .ok (.iload_n 1, 1) := by decide +kernel
theorem dX12_layLows_63 : decode cX12_layLows 63 = .ok (.dup2, 1) := by decide +kernel
theorem dX12_layLows_64 : decode cX12_layLows 64 = .ok (.iaload, 1) := by decide +kernel
theorem dX12_layLows_65 : decode cX12_layLows 65 = .ok (.aload_n 0, 1) := by decide +kernel
theorem dX12_layLows_66 : decode cX12_layLows 66 = .ok (.getfield 19, 3) := by decide +kernel
theorem dX12_layLows_69 : decode cX12_layLows 69 = .ok (.iload_n 2, 1) := by decide +kernel
theorem dX12_layLows_70 : decode cX12_layLows 70 = .ok (.iaload, 1) := by decide +kernel
theorem dX12_layLows_71 : decode cX12_layLows 71 = .ok (.ior, 1) := by decide +kernel
theorem dX12_layLows_72 : decode cX12_layLows 72 = .ok (.iastore, 1) := by decide +kernel
theorem dX12_layLows_73 : decode cX12_layLows 73 = .ok (.aload_n 0, 1) := by decide +kernel
theorem dX12_layLows_74 : decode cX12_layLows 74 = .ok (.getfield 22, 3) := by decide +kernel
theorem dX12_layLows_77 : decode cX12_layLows 77 = .ok (.iload_n 1, 1) := by decide +kernel
theorem dX12_layLows_78 : decode cX12_layLows 78 = .ok (.aload_n 0, 1) := by decide +kernel
theorem dX12_layLows_79 : decode cX12_layLows 79 = .ok (.getfield 22, 3) := by decide +kernel
theorem dX12_layLows_82 : decode cX12_layLows 82 = .ok (.iload_n 2, 1) := by decide +kernel
theorem dX12_layLows_83 : decode cX12_layLows 83 = .ok (.iaload, 1) := by decide +kernel
theorem dX12_layLows_84 : decode cX12_layLows 84 = .ok (.aload_n 0, 1) := by decide +kernel
theorem dX12_layLows_85 : decode cX12_layLows 85 = .ok (.getfield 22, 3) := by decide +kernel
theorem dX12_layLows_88 : decode cX12_layLows 88 = .ok (.iload_n 1, 1) := by decide +kernel
theorem dX12_layLows_89 : decode cX12_layLows 89 = .ok (.iaload, 1) := by decide +kernel
theorem dX12_layLows_90 : decode cX12_layLows 90 = .ok (.if_icmp .lt 14, 3) := by decide +kernel
theorem dX12_layLows_93 : decode cX12_layLows 93 = .ok (.aload_n 0, 1) := by decide +kernel
theorem dX12_layLows_94 : decode cX12_layLows 94 = .ok (.getfield 22, 3) := by decide +kernel
theorem dX12_layLows_97 : decode cX12_layLows 97 = .ok (.iload_n 2, 1) := by decide +kernel
theorem dX12_layLows_98 : decode cX12_layLows 98 = .ok (.iaload, 1) := by decide +kernel
theorem dX12_layLows_99 : decode cX12_layLows 99 = .ok (.iconst 1, 1) := by decide +kernel
theorem dX12_layLows_100 : decode cX12_layLows 100 = .ok (.iadd, 1) := by decide +kernel
theorem dX12_layLows_101 : decode cX12_layLows 101 = .ok (.goto 9, 3) := by decide +kernel
theorem dX12_layLows_104 : decode cX12_layLows 104 = .ok (.aload_n 0, 1) := by decide +kernel
theorem dX12_layLows_105 : decode cX12_layLows 105 = .ok (.getfield 22, 3) := by decide +kernel
theorem dX12_layLows_108 : decode cX12_layLows 108 = .ok (.iload_n 1, 1) := by decide +kernel
theorem dX12_layLows_109 : decode cX12_layLows 109 = .ok (.iaload, 1) := by decide +kernel
theorem dX12_layLows_110 : decode cX12_layLows 110 = .ok (.iastore, 1) := by decide +kernel
theorem dX12_layLows_111 : decode cX12_layLows 111 = .ok (.iinc 2 1, 3) := by decide +kernel
theorem dX12_layLows_114 : decode cX12_layLows 114 = .ok (.goto (-81), 3) := by decide +kernel
theorem dX12_layLows_117 : decode cX12_layLows 117 = .ok (.iinc 1 (-1), 3) := by decide +kernel
theorem dX12_layLows_120 : decode cX12_layLows 120 = .ok (.goto (-117), 3) := by decide +kernel
theorem dX12_layLows_123 : decode cX12_layLows 123 = .ok (.return_, 1) := by decide +kernel
theorem dX12_pain_0 : decode cX12_pain 0 = .ok (.iload_n 1, 1) := by decide +kernel
theorem dX12_pain_1 : decode cX12_pain 1 = .ok (.invokestatic 100, 3) := by decide +kernel
theorem dX12_pain_4 : decode cX12_pain 4 = .ok (.ifCond .eq 13, 3) := by decide +kernel
theorem dX12_pain_7 : decode cX12_pain 7 = .ok (.iload_n 2, 1) := by decide +kernel
theorem dX12_pain_8 : decode cX12_pain 8 = .ok (.iconst 0, 1) := by decide +kernel
theorem dX12_pain_9 : decode cX12_pain 9 = .ok (.bipush 99, 2) := by decide +kernel
theorem dX12_pain_11 : decode cX12_pain 11 = .ok (.invokestatic 84, 3) := by decide +kernel
theorem dX12_pain_14 : decode cX12_pain 14 = .ok (.ifCond .ne 5, 3) := by decide +kernel
theorem dX12_pain_17 : decode cX12_pain 17 = .ok (.iconst 0, 1) := by decide +kernel
theorem dX12_pain_18 : decode cX12_pain 18 = .ok (.ireturn, 1) := by decide +kernel
theorem dX12_pain_19 : decode cX12_pain 19 = .ok (.aload_n 0, 1) := by decide +kernel
theorem dX12_pain_20 : decode cX12_pain 20 = .ok (.getfield 7, 3) := by decide +kernel
theorem dX12_pain_23 : decode cX12_pain 23 = .ok (.bipush 49, 2) := by decide +kernel
theorem dX12_pain_25 : decode cX12_pain 25 = .ok (.iload_n 1, 1) := by decide +kernel
theorem dX12_pain_26 : decode cX12_pain 26 = .ok (.iadd, 1) := by decide +kernel
theorem dX12_pain_27 : decode cX12_pain 27 = .ok (.iload_n 2, 1) := by decide +kernel
theorem dX12_pain_28 : decode cX12_pain 28 = .ok (.iastore, 1) := by decide +kernel
theorem dX12_pain_29 : decode cX12_pain 29 = .ok (.iconst 1, 1) := by decide +kernel
theorem dX12_pain_30 : decode cX12_pain 30 = .ok (.ireturn, 1) := by decide +kernel
theorem dX12_hang_0 : decode cX12_hang 0 = .ok (.iload_n 1, 1) := by decide +kernel
theorem dX12_hang_1 : decode cX12_hang 1 = .ok (.invokestatic 100, 3) := by decide +kernel
theorem dX12_hang_4 : decode cX12_hang 4 = .ok (.ifCond .eq 32, 3) := by decide +kernel
theorem dX12_hang_7 : decode cX12_hang 7 = .ok (.iload_n 2, 1) := by decide +kernel
theorem dX12_hang_8 : decode cX12_hang 8 = .ok (.invokestatic 100, 3) := by decide +kernel
theorem dX12_hang_11 : decode cX12_hang 11 = .ok (.ifCond .eq 25, 3) := by decide +kernel
theorem dX12_hang_14 : decode cX12_hang 14 = .ok (.iload_n 2, 1) := by decide +kernel
theorem dX12_hang_15 : decode cX12_hang 15 = .ok (.iload_n 1, 1) := by decide +kernel
theorem dX12_hang_16 : decode cX12_hang 16 = .ok (.if_icmp .le 20, 3) := by decide +kernel
theorem dX12_hang_19 : decode cX12_hang 19 = .ok (.aload_n 0, 1) := by decide +kernel
theorem dX12_hang_20 : decode cX12_hang 20 = .ok (.getfield 7, 3) := by decide +kernel
theorem dX12_hang_23 : decode cX12_hang 23 = .ok (.bipush 61, 2) := by decide +kernel
theorem dX12_hang_25 : decode cX12_hang 25 = .ok (.iload_n 1, 1) := by decide +kernel
theorem dX12_hang_26 : decode cX12_hang 26 = .ok (.iadd, 1) := by decide +kernel
theorem dX12_hang_27 : decode cX12_hang 27 = .ok (.iaload, 1) := by decide +kernel
theorem dX12_hang_28 : decode cX12_hang 28 = .ok (.iload_n 2, 1) := by decide +kernel
theorem dX12_hang_29 : decode cX12_hang 29 = .ok (.invokestatic 96, 3) := by decide +kernel
theorem dX12_hang_32 : decode cX12_hang 32 = .ok (.iload_n 3, 1) := by decide +kernel
theorem dX12_hang_33 : decode cX12_hang 33 = .ok (.if_icmp .ne 5, 3) := by decide +kernel
theorem dX12_hang_36 : decode cX12_hang 36 = .ok (.iconst 0, 1) := by decide +kernel
theorem dX12_hang_37 : decode cX12_hang 37 = .ok (.ireturn, 1) := by decide +kernel
theorem dX12_hang_38 : decode cX12_hang 38 = .ok (.aload_n 0, 1) := by decide +kernel
theorem dX12_hang_39 : decode cX12_hang 39 = .ok (.getfield 7, 3) := by decide +kernel
theorem dX12_hang_42 : decode cX12_hang 42 = .ok (.bipush 61, 2) := by decide +kernel
theorem dX12_hang_44 : decode cX12_hang 44 = .ok (.iload_n 1, 1) := by decide +kernel
theorem dX12_hang_45 : decode cX12_hang 45 = .ok (.iadd, 1) := by decide +kernel
theorem dX12_hang_46 : decode cX12_hang 46 = .ok (.dup2, 1) := by decide +kernel
theorem dX12_hang_47 : decode cX12_hang 47 = .ok (.iaload, 1) := by decide +kernel
theorem dX12_hang_48 : decode cX12_hang 48 = .ok (.iconst 1, 1) := by decide +kernel
theorem dX12_hang_49 : decode cX12_hang 49 = .ok (.iload_n 2, 1) := by decide +kernel
theorem dX12_hang_50 : decode cX12_hang 50 = .ok (.ishl, 1) := by decide +kernel
theorem dX12_hang_51 : decode cX12_hang 51 = .ok (.ixor, 1) := by decide +kernel
theorem dX12_hang_52 : decode cX12_hang 52 = .ok (.iastore, 1) := by decide +kernel
theorem dX12_hang_53 : decode cX12_hang 53 = .ok (.iconst 1, 1) := by decide +kernel
theorem dX12_hang_54 : decode cX12_hang 54 = .ok (.ireturn, 1) := by decide +kernel
theorem dX12_person_0 : decode cX12_person 0 = .ok (.iload_n 1, 1) := by decide +kernel
theorem dX12_person_1 : decode cX12_person 1 = .ok (.invokestatic 100, 3) := by decide +kernel
theorem dX12_person_4 : decode cX12_person 4 = .ok (.ifCond .eq 23, 3) := by decide +kernel
theorem dX12_person_7 : decode cX12_person 7 = .ok (.iload_n 2, 1) := by decide +kernel
theorem dX12_person_8 : decode cX12_person 8 = .ok (.iconst 0, 1) := by decide +kernel
theorem dX12_person_9 : decode cX12_person 9 = .ok (.bipush 99, 2) := by decide +kernel
theorem dX12_person_11 : decode cX12_person 11 = .ok (.invokestatic 84, 3) := by decide +kernel
theorem dX12_person_14 : decode cX12_person 14 = .ok (.ifCond .eq 13, 3) := by decide +kernel
theorem dX12_person_17 : decode cX12_person 17 = .ok (.aload_n 0, 1) := by decide +kernel
theorem dX12_person_18 : decode cX12_person 18 = .ok (.getfield 7, 3) := by decide +kernel
theorem dX12_person_21 : decode cX12_person 21 = .ok (.iconst 0, 1) := by decide +kernel
theorem dX12_person_22 : decode cX12_person 22 = .ok (.iaload, 1) := by decide +kernel
theorem dX12_person_23 : decode cX12_person 23 = .ok (.iconst 5, 1) := by decide +kernel
theorem dX12_person_24 : decode cX12_person 24 = .ok (.if_icmp .ne 5, 3) := by decide +kernel
theorem dX12_person_27 : decode cX12_person 27 = .ok (.iconst (-1), 1) := by decide +kernel
theorem dX12_person_28 : decode cX12_person 28 = .ok (.ireturn, 1) := by decide +kernel
theorem dX12_person_29 : decode cX12_person 29 = .ok (.aload_n 0, 1) := by decide +kernel
theorem dX12_person_30 : decode cX12_person 30 = .ok (.getfield 7, 3) := by decide +kernel
theorem dX12_person_33 : decode cX12_person 33 = .ok (.iconst 0, 1) := by decide +kernel
theorem dX12_person_34 : decode cX12_person 34 = .ok (.iaload, 1) := by decide +kernel
theorem dX12_person_35 : decode cX12_person 35 = .ok (.istore_n 3, 1) := by decide +kernel
theorem dX12_person_36 : decode cX12_person 36 = .ok (.aload_n 0, 1) := by decide +kernel
theorem dX12_person_37 : decode cX12_person 37 = .ok (.iload_n 3, 1) := by decide +kernel
theorem dX12_person_38 : decode cX12_person 38 = .ok (.bipush 6, 2) := by decide +kernel
theorem dX12_person_40 : decode cX12_person 40 = .ok (.iload_n 1, 1) := by decide +kernel
theorem dX12_person_41 : decode cX12_person 41 = .ok (.invokevirtual 103, 3) := by decide +kernel
theorem dX12_person_44 : decode cX12_person 44 = .ok (.aload_n 0, 1) := by decide +kernel
theorem dX12_person_45 : decode cX12_person 45 = .ok (.iload_n 3, 1) := by decide +kernel
theorem dX12_person_46 : decode cX12_person 46 = .ok (.bipush 7, 2) := by decide +kernel
theorem dX12_person_48 : decode cX12_person 48 = .ok (.iload_n 2, 1) := by decide +kernel
theorem dX12_person_49 : decode cX12_person 49 = .ok (.invokevirtual 103, 3) := by decide +kernel
theorem dX12_person_52 : decode cX12_person 52 = .ok (.aload_n 0, 1) := by decide +kernel
theorem dX12_person_53 : decode cX12_person 53 = .ok (.iload_n 3, 1) := by decide +kernel
theorem dX12_person_54 : decode cX12_person 54 = .ok (.iconst 4, 1) := by decide +kernel
theorem dX12_person_55 : decode cX12_person 55 = .ok (.iload_n 2, 1) := by decide +kernel
theorem dX12_person_56 : decode cX12_person 56 = .ok (.invokevirtual 103, 3) := by decide +kernel
theorem dX12_person_59 : decode cX12_person 59 = .ok (.aload_n 0, 1) := by decide +kernel
theorem dX12_person_60 : decode cX12_person 60 = .ok (.iload_n 3, 1) := by decide +kernel
theorem dX12_person_61 : decode cX12_person 61 = .ok (.iload_n 1, 1) := by decide +kernel
theorem dX12_person_62 : decode cX12_person 62 = .ok (.invokevirtual 107, 3) := by decide +kernel
theorem dX12_person_65 : decode cX12_person 65 = .ok (.aload_n 0, 1) := by decide +kernel
theorem dX12_person_66 : decode cX12_person 66 = .ok (.getfield 7, 3) := by decide +kernel
theorem dX12_person_69 : decode cX12_person 69 = .ok (.iconst 0, 1) := by decide +kernel
theorem dX12_person_70 : decode cX12_person 70 = .ok (.dup2, 1) := by decide +kernel
theorem dX12_person_71 : decode cX12_person 71 = .ok (.iaload, 1) := by decide +kernel
theorem dX12_person_72 : decode cX12_person 72 = .ok (.iconst 1, 1) := by decide +kernel
theorem dX12_person_73 : decode cX12_person 73 = .ok (.iadd, 1) := by decide +kernel
theorem dX12_person_74 : decode cX12_person 74 = .ok (.iastore, 1) := by decide +kernel
theorem dX12_person_75 : decode cX12_person 75 = .ok (.iload_n 3, 1) := by decide +kernel
theorem dX12_person_76 : decode cX12_person 76 = .ok (.ireturn, 1) := by decide +kernel
theorem dX12_begin_0 : decode cX12_begin 0 = .ok (.aload_n 0, 1) := by decide +kernel
theorem dX12_begin_1 : decode cX12_begin 1 = .ok (.iload_n 1, 1) := by decide +kernel
theorem dX12_begin_2 : decode cX12_begin 2 = .ok (.iconst 0, 1) := by decide +kernel
theorem dX12_begin_3 : decode cX12_begin 3 = .ok (.iload_n 2, 1) := by decide +kernel
theorem dX12_begin_4 : decode cX12_begin 4 = .ok (.invokevirtual 103, 3) := by decide +kernel
theorem dX12_begin_7 : decode cX12_begin 7 = .ok (.aload_n 0, 1) := by decide +kernel
theorem dX12_begin_8 : decode cX12_begin 8 = .ok (.iload_n 1, 1) := by decide +kernel
theorem dX12_begin_9 : decode cX12_begin 9 = .ok (.iconst 1, 1) := by decide +kernel
theorem dX12_begin_10 : decode cX12_begin 10 = .ok (.iconst 0, 1) := by decide +kernel
theorem dX12_begin_11 : decode cX12_begin 11 = .ok (.invokevirtual 103, 3) := by decide +kernel
theorem dX12_begin_14 : decode cX12_begin 14 = .ok (.aload_n 0, 1) := by decide +kernel
theorem dX12_begin_15 : decode cX12_begin 15 = .ok (.iload_n 1, 1) := by decide +kernel
theorem dX12_begin_16 : decode cX12_begin 16 = .ok (.iconst 2, 1) := by decide +kernel
theorem dX12_begin_17 : decode cX12_begin 17 = .ok (.iconst 0, 1) := by decide +kernel
theorem dX12_begin_18 : decode cX12_begin 18 = .ok (.invokevirtual 103, 3) := by decide +kernel
theorem dX12_begin_21 : decode cX12_begin 21 = .ok (.aload_n 0, 1) := by decide +kernel
theorem dX12_begin_22 : decode cX12_begin 22 = .ok (.iload_n 1, 1) := by decide +kernel
theorem dX12_begin_23 : decode cX12_begin 23 = .ok (.iconst 3, 1) := by decide +kernel
theorem dX12_begin_24 : decode cX12_begin 24 = .ok (.iconst 0, 1) := by decide +kernel
theorem dX12_begin_25 : decode cX12_begin 25 = .ok (.invokevirtual 103, 3) := by decide +kernel
theorem dX12_begin_28 : decode cX12_begin 28 = .ok (.aload_n 0, 1) := by decide +kernel
theorem dX12_begin_29 : decode cX12_begin 29 = .ok (.iload_n 1, 1) := by decide +kernel
theorem dX12_begin_30 : decode cX12_begin 30 = .ok (.iconst 5, 1) := by decide +kernel
theorem dX12_begin_31 : decode cX12_begin 31 = .ok (.iconst 0, 1) := by decide +kernel
theorem dX12_begin_32 : decode cX12_begin 32 = .ok (.invokevirtual 103, 3) := by decide +kernel
theorem dX12_begin_35 : decode cX12_begin 35 = .ok (.return_, 1) := by decide +kernel
theorem dX12_four_0 : decode cX12_four 0 = .ok (.bipush 24, 2) := by decide +kernel
theorem dX12_four_2 : decode cX12_four 2 = .ok (.istore_n 2, 1) := by decide +kernel
theorem dX12_four_3 : decode cX12_four 3 = .ok (.iload_n 2, 1) := by decide +kernel
theorem dX12_four_4 : decode cX12_four 4 = .ok (.ifCond .lt 35, 3) := by decide +kernel
theorem dX12_four_7 : decode cX12_four 7 = .ok (.aload_n 0, 1) := by decide +kernel
theorem dX12_four_8 : decode cX12_four 8 = .ok (.getfield 25, 3) := by decide +kernel
theorem dX12_four_11 : decode cX12_four 11 = .ok (.aload_n 0, 1) := by decide +kernel
