theorem dX5_joined_310 : decode cX5_joined 310 = .ok (.lcmp, 1) := by decide +kernel
theorem dX5_joined_311 : decode cX5_joined 311 = .ok (.ifCond .eq 7, 3) := by decide +kernel
theorem dX5_joined_314 : decode cX5_joined 314 = .ok (.lconst 1, 1) := by decide +kernel
theorem dX5_joined_315 : decode cX5_joined 315 = .ok (.goto 4, 3) := by decide +kernel
theorem dX5_joined_318 : decode cX5_joined 318 = .ok (.lconst 0, 1) := by decide +kernel
theorem dX5_joined_319 : decode cX5_joined 319 = .ok (.lreturn, 1) := by decide +kernel
theorem dX6_init_0 : decode cX6_init 0 = .ok (.aload_n 0, 1) := by decide +kernel
theorem dX6_init_1 : decode cX6_init 1 = .ok (.invokespecial 3, 3) := by decide +kernel
theorem dX6_init_4 : decode cX6_init 4 = .ok (.aload_n 0, 1) := by decide +kernel
theorem dX6_init_5 : decode cX6_init 5 = .ok (.bipush 12, 2) := by decide +kernel
theorem dX6_init_7 : decode cX6_init 7 = .ok (.newarray .long, 2) := by decide +kernel
theorem dX6_init_9 : decode cX6_init 9 = .ok (.putfield 9, 3) := by decide +kernel
theorem dX6_init_12 : decode cX6_init 12 = .ok (.aload_n 0, 1) := by decide +kernel
theorem dX6_init_13 : decode cX6_init 13 = .ok (.bipush 12, 2) := by decide +kernel
theorem dX6_init_15 : decode cX6_init 15 = .ok (.newarray .int, 2) := by decide +kernel
theorem dX6_init_17 : decode cX6_init 17 = .ok (.putfield 15, 3) := by decide +kernel
theorem dX6_init_20 : decode cX6_init 20 = .ok (.aload_n 0, 1) := by decide +kernel
theorem dX6_init_21 : decode cX6_init 21 = .ok (.bipush 12, 2) := by decide +kernel
theorem dX6_init_23 : decode cX6_init 23 = .ok (.newarray .int, 2) := by decide +kernel
theorem dX6_init_25 : decode cX6_init 25 = .ok (.putfield 19, 3) := by decide +kernel
theorem dX6_init_28 : decode cX6_init 28 = .ok (.aload_n 0, 1) := by decide +kernel
theorem dX6_init_29 : decode cX6_init 29 = .ok (.aload_n 1, 1) := by decide +kernel
theorem dX6_init_30 : decode cX6_init 30 = .ok (.putfield 22, 3) := by decide +kernel
theorem dX6_init_33 : decode cX6_init 33 = .ok (.return_, 1) := by decide +kernel
theorem dX6_count_0 : decode cX6_count 0 = .ok (.iload_n 1, 1) := by decide +kernel
theorem dX6_count_1 : decode cX6_count 1 = .ok (.iload_n 2, 1) := by decide +kernel
theorem dX6_count_2 : decode cX6_count 2 = .ok (.invokestatic 26, 3) := by decide +kernel
theorem dX6_count_5 : decode cX6_count 5 = .ok (.ifCond .ne 5, 3) := by decide +kernel
theorem dX6_count_8 : decode cX6_count 8 = .ok (.lconst 0, 1) := by decide +kernel
theorem dX6_count_9 : decode cX6_count 9 = .ok (.lreturn, 1) := by decide +kernel
theorem dX6_count_10 : decode cX6_count 10 = .ok (.iconst 0, 1) := by decide +kernel
theorem dX6_count_11 : decode cX6_count 11 = .ok (.istore_n 3, 1) := by decide +kernel
theorem dX6_count_12 : decode cX6_count 12 = .ok (.iload_n 3, 1) := by decide +kernel
theorem dX6_count_13 : decode cX6_count 13 = .ok (.bipush 12, 2) := by decide +kernel
theorem dX6_count_15 : decode cX6_count 15 = .ok (.if_icmp .ge 16, 3) := by decide +kernel
theorem dX6_count_18 : decode cX6_count 18 = .ok (.aload_n 0, 1) := by decide +kernel
theorem dX6_count_19 : decode cX6_count 19 = .ok (.getfield 9, 3) := by decide +kernel
theorem dX6_count_22 : decode cX6_count 22 = .ok (.iload_n 3, 1) := by decide +kernel
theorem dX6_count_23 : decode cX6_count 23 = .ok (.lconst 0, 1) := by decide +kernel
theorem dX6_count_24 : decode cX6_count 24 = .ok (.lastore, 1) := by decide +kernel
theorem dX6_count_25 : decode cX6_count 25 = .ok (.iinc 3 1, 3) := by decide +kernel
theorem dX6_count_28 : decode cX6_count 28 = .ok (.goto (-16), 3) := by decide +kernel
theorem dX6_count_31 : decode cX6_count 31 = .ok (.aload_n 0, 1) := by decide +kernel
theorem dX6_count_32 : decode cX6_count 32 = .ok (.getfield 9, 3) := by decide +kernel
theorem dX6_count_35 : decode cX6_count 35 = .ok (.iload_n 1, 1) := by decide +kernel
theorem dX6_count_36 : decode cX6_count 36 = .ok (.lconst 1, 1) := by decide +kernel
theorem dX6_count_37 : decode cX6_count 37 = .ok (.lastore, 1) := by decide +kernel
theorem dX6_count_38 : decode cX6_count 38 = .ok (.iload_n 1, 1) := by decide +kernel
theorem dX6_count_39 : decode cX6_count 39 = .ok (.istore_n 3, 1) := by decide +kernel
theorem dX6_count_40 : decode cX6_count 40 = .ok (.iload_n 3, 1) := by decide +kernel
theorem dX6_count_41 : decode cX6_count 41 = .ok (.iload_n 2, 1) := by decide +kernel
theorem dX6_count_42 : decode cX6_count 42 = .ok (.if_icmp .ge 59, 3) := by decide +kernel
theorem dX6_count_45 : decode cX6_count 45 = .ok (.iload_n 3, 1) := by decide +kernel
theorem dX6_count_46 : decode cX6_count 46 = .ok (.iconst 1, 1) := by decide +kernel
theorem dX6_count_47 : decode cX6_count 47 = .ok (.iadd, 1) := by decide +kernel
theorem dX6_count_48 : decode cX6_count 48 = .ok (.istore 4, 2) := by decide +kernel
theorem dX6_count_50 : decode cX6_count 50 = .ok (.iload 4, 2) := by decide +kernel
theorem dX6_count_52 : decode cX6_count 52 = .ok (.iload_n 2, 1) := by decide +kernel
theorem dX6_count_53 : decode cX6_count 53 = .ok (.if_icmp .gt 42, 3) := by decide +kernel
theorem dX6_count_56 : decode cX6_count 56 = .ok (.aload_n 0, 1) := by decide +kernel
theorem dX6_count_57 : decode cX6_count 57 = .ok (.getfield 22, 3) := by decide +kernel
theorem dX6_count_60 : decode cX6_count 60 = .ok (.getfield 30, 3) := by decide +kernel
theorem dX6_count_63 : decode cX6_count 63 = .ok (.iload_n 3, 1) := by decide +kernel
theorem dX6_count_64 : decode cX6_count 64 = .ok (.iaload, 1) := by decide +kernel
theorem dX6_count_65 : decode cX6_count 65 = .ok (.iload 4, 2) := by decide +kernel
theorem dX6_count_67 : decode cX6_count 67 = .ok (.invokestatic 35, 3) := by decide +kernel
theorem dX6_count_70 : decode cX6_count 70 = .ok (.ifCond .eq 19, 3) := by decide +kernel
theorem dX6_count_73 : decode cX6_count 73 = .ok (.aload_n 0, 1) := by decide +kernel
theorem dX6_count_74 : decode cX6_count 74 = .ok (.getfield 9, 3) := by decide +kernel
theorem dX6_count_77 : decode cX6_count 77 = .ok (.iload 4, 2) := by decide +kernel
theorem dX6_count_79 : decode cX6_count 79 = .ok (.dup2, 1) := by decide +kernel
theorem dX6_count_80 : decode cX6_count 80 = .ok (.laload, 1) := by decide +kernel
theorem dX6_count_81 : decode cX6_count 81 = .ok (.aload_n 0, 1) := by decide +kernel
theorem dX6_count_82 : decode cX6_count 82 = .ok (.getfield 9, 3) := by decide +kernel
theorem dX6_count_85 : decode cX6_count 85 = .ok (.iload_n 3, 1) := by decide +kernel
theorem dX6_count_86 : decode cX6_count 86 = .ok (.laload, 1) := by decide +kernel
theorem dX6_count_87 : decode cX6_count 87 = .ok (.ladd, 1) := by decide +kernel
theorem dX6_count_88 : decode cX6_count 88 = .ok (.lastore, 1) := by decide +kernel
theorem dX6_count_89 : decode cX6_count 89 = .ok (.iinc 4 1, 3) := by decide +kernel
theorem dX6_count_92 : decode cX6_count 92 = .ok (.goto (-42), 3) := by decide +kernel
theorem dX6_count_95 : decode cX6_count 95 = .ok (.iinc 3 1, 3) := by decide +kernel
theorem dX6_count_98 : decode cX6_count 98 = .ok (.goto (-58), 3) := by decide +kernel
theorem dX6_count_101 : decode cX6_count 101 = .ok (.aload_n 0, 1) := by decide +kernel
theorem dX6_count_102 : decode cX6_count 102 = .ok (.getfield 9, 3) := by decide +kernel
theorem dX6_count_105 : decode cX6_count 105 = .ok (.iload_n 2, 1) := by decide +kernel
theorem dX6_count_106 : decode cX6_count 106 = .ok (.laload, 1) := by decide +kernel
theorem dX6_count_107 : decode cX6_count 107 = .ok (.lreturn, 1) := by decide +kernel
theorem dX6_reached_0 : decode cX6_reached 0 = .ok (.iconst 1, 1) := by decide +kernel
theorem dX6_reached_1 : decode cX6_reached 1 = .ok (.iload_n 1, 1) := by decide +kernel
theorem dX6_reached_2 : decode cX6_reached 2 = .ok (.ishl, 1) := by decide +kernel
theorem dX6_reached_3 : decode cX6_reached 3 = .ok (.istore_n 3, 1) := by decide +kernel
theorem dX6_reached_4 : decode cX6_reached 4 = .ok (.iload_n 1, 1) := by decide +kernel
theorem dX6_reached_5 : decode cX6_reached 5 = .ok (.istore 4, 2) := by decide +kernel
theorem dX6_reached_7 : decode cX6_reached 7 = .ok (.iload 4, 2) := by decide +kernel
theorem dX6_reached_9 : decode cX6_reached 9 = .ok (.bipush 12, 2) := by decide +kernel
theorem dX6_reached_11 : decode cX6_reached 11 = .ok (.if_icmp .ge 40, 3) := by decide +kernel
theorem dX6_reached_14 : decode cX6_reached 14 = .ok (.iload 4, 2) := by decide +kernel
theorem dX6_reached_16 : decode cX6_reached 16 = .ok (.ifCond .lt 29, 3) := by decide +kernel
theorem dX6_reached_19 : decode cX6_reached 19 = .ok (.iload_n 3, 1) := by decide +kernel
theorem dX6_reached_20 : decode cX6_reached 20 = .ok (.iload 4, 2) := by decide +kernel
theorem dX6_reached_22 : decode cX6_reached 22 = .ok (.invokestatic 35, 3) := by decide +kernel
theorem dX6_reached_25 : decode cX6_reached 25 = .ok (.ifCond .eq 20, 3) := by decide +kernel
theorem dX6_reached_28 : decode cX6_reached 28 = .ok (.iload_n 3, 1) := by decide +kernel
theorem dX6_reached_29 : decode cX6_reached 29 = .ok (.aload_n 0, 1) := by decide +kernel
theorem dX6_reached_30 : decode cX6_reached 30 = .ok (.getfield 22, 3) := by decide +kernel
theorem dX6_reached_33 : decode cX6_reached 33 = .ok (.getfield 30, 3) := by decide +kernel
theorem dX6_reached_36 : decode cX6_reached 36 = .ok (.iload 4, 2) := by decide +kernel
theorem dX6_reached_38 : decode cX6_reached 38 = .ok (.iaload, 1) := by decide +kernel
theorem dX6_reached_39 : decode cX6_reached 39 = .ok (.iload_n 2, 1) := by decide +kernel
theorem dX6_reached_40 : decode cX6_reached 40 = .ok (.iconst (-1), 1) := by decide +kernel
theorem dX6_reached_41 : decode cX6_reached 41 = .ok (.ixor, 1) := by decide +kernel
theorem dX6_reached_42 : decode cX6_reached 42 = .ok (.iand, 1) := by decide +kernel
theorem dX6_reached_43 : decode cX6_reached 43 = .ok (.ior, 1) := by decide +kernel
theorem dX6_reached_44 : decode cX6_reached 44 = .ok (.istore_n 3, 1) := by decide +kernel
theorem dX6_reached_45 : decode cX6_reached 45 = .ok (.iinc 4 1, 3) := by decide +kernel
theorem dX6_reached_48 : decode cX6_reached 48 = .ok (.goto (-41), 3) := by decide +kernel
theorem dX6_reached_51 : decode cX6_reached 51 = .ok (.iload_n 3, 1) := by decide +kernel
theorem dX6_reached_52 : decode cX6_reached 52 = .ok (.ireturn, 1) := by decide +kernel
theorem dX6_onAny_0 : decode cX6_onAny 0 = .ok (.iconst 0, 1) := by decide +kernel
theorem dX6_onAny_1 : decode cX6_onAny 1 = .ok (.istore_n 3, 1) := by decide +kernel
theorem dX6_onAny_2 : decode cX6_onAny 2 = .ok (.iload_n 1, 1) := by decide +kernel
theorem dX6_onAny_3 : decode cX6_onAny 3 = .ok (.istore 4, 2) := by decide +kernel
theorem dX6_onAny_5 : decode cX6_onAny 5 = .ok (.iload 4, 2) := by decide +kernel
theorem dX6_onAny_7 : decode cX6_onAny 7 = .ok (.iload_n 2, 1) := by decide +kernel
theorem dX6_onAny_8 : decode cX6_onAny 8 = .ok (.if_icmp .gt 56, 3) := by decide +kernel
theorem dX6_onAny_11 : decode cX6_onAny 11 = .ok (.iload 4, 2) := by decide +kernel
theorem dX6_onAny_13 : decode cX6_onAny 13 = .ok (.invokestatic 38, 3) := by decide +kernel
theorem dX6_onAny_16 : decode cX6_onAny 16 = .ok (.ifCond .eq 48, 3) := by decide +kernel
theorem dX6_onAny_19 : decode cX6_onAny 19 = .ok (.aload_n 0, 1) := by decide +kernel
theorem dX6_onAny_20 : decode cX6_onAny 20 = .ok (.getfield 22, 3) := by decide +kernel
theorem dX6_onAny_23 : decode cX6_onAny 23 = .ok (.iload_n 1, 1) := by decide +kernel
theorem dX6_onAny_24 : decode cX6_onAny 24 = .ok (.invokevirtual 42, 3) := by decide +kernel
theorem dX6_onAny_27 : decode cX6_onAny 27 = .ok (.iload 4, 2) := by decide +kernel
theorem dX6_onAny_29 : decode cX6_onAny 29 = .ok (.invokestatic 35, 3) := by decide +kernel
theorem dX6_onAny_32 : decode cX6_onAny 32 = .ok (.ifCond .eq 26, 3) := by decide +kernel
theorem dX6_onAny_35 : decode cX6_onAny 35 = .ok (.aload_n 0, 1) := by decide +kernel
theorem dX6_onAny_36 : decode cX6_onAny 36 = .ok (.getfield 22, 3) := by decide +kernel
theorem dX6_onAny_39 : decode cX6_onAny 39 = .ok (.iload 4, 2) := by decide +kernel
theorem dX6_onAny_41 : decode cX6_onAny 41 = .ok (.invokevirtual 42, 3) := by decide +kernel
theorem dX6_onAny_44 : decode cX6_onAny 44 = .ok (.iload_n 2, 1) := by decide +kernel
theorem dX6_onAny_45 : decode cX6_onAny 45 = .ok (.invokestatic 35, 3) := by decide +kernel
theorem dX6_onAny_48 : decode cX6_onAny 48 = .ok (.ifCond .eq 10, 3) := by decide +kernel
theorem dX6_onAny_51 : decode cX6_onAny 51 = .ok (.iload_n 3, 1) := by decide +kernel
theorem dX6_onAny_52 : decode cX6_onAny 52 = .ok (.iconst 1, 1) := by decide +kernel
theorem dX6_onAny_53 : decode cX6_onAny 53 = .ok (.iload 4, 2) := by decide +kernel
theorem dX6_onAny_55 : decode cX6_onAny 55 = .ok (.ishl, 1) := by decide +kernel
theorem dX6_onAny_56 : decode cX6_onAny 56 = .ok (.ior, 1) := by decide +kernel
theorem dX6_onAny_57 : decode cX6_onAny 57 = .ok (.istore_n 3, 1) := by decide +kernel
theorem dX6_onAny_58 : decode cX6_onAny 58 = .ok (.iinc 4 1, 3) := by decide +kernel
theorem dX6_onAny_61 : decode cX6_onAny 61 = .ok (.goto (-56), 3) := by decide +kernel
theorem dX6_onAny_64 : decode cX6_onAny 64 = .ok (.iload_n 3, 1) := by decide +kernel
theorem dX6_onAny_65 : decode cX6_onAny 65 = .ok (.ireturn, 1) := by decide +kernel
theorem dX6_onAll_0 : decode cX6_onAll 0 = .ok (.aload_n 0, 1) := by decide +kernel
theorem dX6_onAll_1 : decode cX6_onAll 1 = .ok (.iload_n 1, 1) := by decide +kernel
theorem dX6_onAll_2 : decode cX6_onAll 2 = .ok (.iload_n 2, 1) := by decide +kernel
theorem dX6_onAll_3 : decode cX6_onAll 3 = .ok (.invokevirtual 46, 3) := by decide +kernel
theorem dX6_onAll_6 : decode cX6_onAll 6 = .ok (.istore_n 3, 1) := by decide +kernel
theorem dX6_onAll_7 : decode cX6_onAll 7 = .ok (.iload_n 3, 1) := by decide +kernel
theorem dX6_onAll_8 : decode cX6_onAll 8 = .ok (.ifCond .ne 5, 3) := by decide +kernel
theorem dX6_onAll_11 : decode cX6_onAll 11 = .ok (.iconst (-1), 1) := by decide +kernel
theorem dX6_onAll_12 : decode cX6_onAll 12 = .ok (.ireturn, 1) := by decide +kernel
theorem dX6_onAll_13 : decode cX6_onAll 13 = .ok (.iconst 1, 1) := by decide +kernel
theorem dX6_onAll_14 : decode cX6_onAll 14 = .ok (.iload_n 1, 1) := by decide +kernel
theorem dX6_onAll_15 : decode cX6_onAll 15 = .ok (.ishl, 1) := by decide +kernel
theorem dX6_onAll_16 : decode cX6_onAll 16 = .ok (.iconst 1, 1) := by decide +kernel
theorem dX6_onAll_17 : decode cX6_onAll 17 = .ok (.iload_n 2, 1) := by decide +kernel
theorem dX6_onAll_18 : decode cX6_onAll 18 = .ok (.ishl, 1) := by decide +kernel
theorem dX6_onAll_19 : decode cX6_onAll 19 = .ok (.ior, 1) := by decide +kernel
theorem dX6_onAll_20 : decode cX6_onAll 20 = .ok (.istore 4, 2) := by decide +kernel
theorem dX6_onAll_22 : decode cX6_onAll 22 = .ok (.iload_n 1, 1) := by decide +kernel
theorem dX6_onAll_23 : decode cX6_onAll 23 = .ok (.iconst 1, 1) := by decide +kernel
theorem dX6_onAll_24 : decode cX6_onAll 24 = .ok (.iadd, 1) := by decide +kernel
theorem dX6_onAll_25 : decode cX6_onAll 25 = .ok (.istore 5, 2) := by decide +kernel
theorem dX6_onAll_27 : decode cX6_onAll 27 = .ok (.iload 5, 2) := by decide +kernel
theorem dX6_onAll_29 : decode cX6_onAll 29 = .ok (.iload_n 2, 1) := by decide +kernel
theorem dX6_onAll_30 : decode cX6_onAll 30 = .ok (.if_icmp .ge 43, 3) := by decide +kernel
theorem dX6_onAll_33 : decode cX6_onAll 33 = .ok (.iload_n 3, 1) := by decide +kernel
theorem dX6_onAll_34 : decode cX6_onAll 34 = .ok (.iload 5, 2) := by decide +kernel
theorem dX6_onAll_36 : decode cX6_onAll 36 = .ok (.invokestatic 35, 3) := by decide +kernel
theorem dX6_onAll_39 : decode cX6_onAll 39 = .ok (.ifCond .eq 28, 3) := by decide +kernel
theorem dX6_onAll_42 : decode cX6_onAll 42 = .ok (.aload_n 0, 1) := by decide +kernel
theorem dX6_onAll_43 : decode cX6_onAll 43 = .ok (.iload_n 1, 1) := by decide +kernel
theorem dX6_onAll_44 : decode cX6_onAll 44 = .ok (.iconst 1, 1) := by decide +kernel
theorem dX6_onAll_45 : decode cX6_onAll 45 = .ok (.iload 5, 2) := by decide +kernel
theorem dX6_onAll_47 : decode cX6_onAll 47 = .ok (.ishl, 1) := by decide +kernel
theorem dX6_onAll_48 : decode cX6_onAll 48 = .ok (.invokevirtual 50, 3) := by decide +kernel
theorem dX6_onAll_51 : decode cX6_onAll 51 = .ok (.iload_n 2, 1) := by decide +kernel
theorem dX6_onAll_52 : decode cX6_onAll 52 = .ok (.invokestatic 35, 3) := by decide +kernel
theorem dX6_onAll_55 : decode cX6_onAll 55 = .ok (.ifCond .ne 12, 3) := by decide +kernel
theorem dX6_onAll_58 : decode cX6_onAll 58 = .ok (.iload 4, 2) := by decide +kernel
theorem dX6_onAll_60 : decode cX6_onAll 60 = .ok (.iconst 1, 1) := by decide +kernel
theorem dX6_onAll_61 : decode cX6_onAll 61 = .ok (.iload 5, 2) := by decide +kernel
theorem dX6_onAll_63 : decode cX6_onAll 63 = .ok (.ishl, 1) := by decide +kernel
theorem dX6_onAll_64 : decode cX6_onAll 64 = .ok (.ior, 1) := by decide +kernel
theorem dX6_onAll_65 : decode cX6_onAll 65 = .ok (.istore 4, 2) := by decide +kernel
theorem dX6_onAll_67 : decode cX6_onAll 67 = .ok (.iinc 5 1, 3) := by decide +kernel
theorem dX6_onAll_70 : decode cX6_onAll 70 = .ok (.goto (-43), 3) := by decide +kernel
theorem dX6_onAll_73 : decode cX6_onAll 73 = .ok (.iload 4, 2) := by decide +kernel
theorem dX6_onAll_75 : decode cX6_onAll 75 = .ok (.ireturn, 1) := by decide +kernel
theorem dX6_mostPain_0 : decode cX6_mostPain 0 = .ok (.iload_n 1, 1) := by decide +kernel
theorem dX6_mostPain_1 : decode cX6_mostPain 1 = .ok (.iload_n 2, 1) := by decide +kernel
theorem dX6_mostPain_2 : decode cX6_mostPain 2 = .ok (.invokestatic 26, 3) := by decide +kernel
theorem dX6_mostPain_5 : decode cX6_mostPain 5 = .ok (.ifCond .ne 5, 3) := by decide +kernel
theorem dX6_mostPain_8 : decode cX6_mostPain 8 = .ok (.iconst (-1), 1) := by decide +kernel
theorem dX6_mostPain_9 : decode cX6_mostPain 9 = .ok (.ireturn, 1) := by decide +kernel
theorem dX6_mostPain_10 : decode cX6_mostPain 10 = .ok (.iconst 0, 1) := by decide +kernel
theorem dX6_mostPain_11 : decode cX6_mostPain 11 = .ok (.istore_n 3, 1) := by decide +kernel
theorem dX6_mostPain_12 : decode cX6_mostPain 12 = .ok (.iload_n 3, 1) := by decide +kernel
theorem dX6_mostPain_13 : decode cX6_mostPain 13 = .ok (.bipush 12, 2) := by decide +kernel
theorem dX6_mostPain_15 : decode cX6_mostPain 15 = .ok (.if_icmp .ge 16, 3) := by decide +kernel
theorem dX6_mostPain_18 : decode cX6_mostPain 18 = .ok (.aload_n 0, 1) := by decide +kernel
theorem dX6_mostPain_19 : decode cX6_mostPain 19 = .ok (.getfield 15, 3) := by decide +kernel
theorem dX6_mostPain_22 : decode cX6_mostPain 22 = .ok (.iload_n 3, 1) := by decide +kernel
theorem dX6_mostPain_23 : decode cX6_mostPain 23 = .ok (.iconst (-1), 1) := by decide +kernel
theorem dX6_mostPain_24 : decode cX6_mostPain 24 = .ok (.iastore, 1) := by decide +kernel
theorem dX6_mostPain_25 : decode cX6_mostPain 25 = .ok (.iinc 3 1, 3) := by decide +kernel
theorem dX6_mostPain_28 : decode cX6_mostPain 28 = .ok (.goto (-16), 3) := by decide +kernel
theorem dX6_mostPain_31 : decode cX6_mostPain 31 = .ok (.aload_n 0, 1) := by decide +kernel
theorem dX6_mostPain_32 : decode cX6_mostPain 32 = .ok (.getfield 15, 3) := by decide +kernel
theorem dX6_mostPain_35 : decode cX6_mostPain 35 = .ok (.iload_n 1, 1) := by decide +kernel
theorem dX6_mostPain_36 : decode cX6_mostPain 36 = .ok (.iconst 0, 1) := by decide +kernel
theorem dX6_mostPain_37 : decode cX6_mostPain 37 = .ok (.iastore, 1) := by decide +kernel
theorem dX6_mostPain_38 : decode cX6_mostPain 38 = .ok (.iload_n 1, 1) := by decide +kernel
theorem dX6_mostPain_39 : decode cX6_mostPain 39 = .ok (.istore_n 3, 1) := by decide +kernel
theorem dX6_mostPain_40 : decode cX6_mostPain 40 = .ok (.iload_n 3, 1) := by decide +kernel
theorem dX6_mostPain_41 : decode cX6_mostPain 41 = .ok (.iload_n 2, 1) := by decide +kernel
theorem dX6_mostPain_42 : decode cX6_mostPain 42 = .ok (.if_icmp .ge 87, 3) := by decide +kernel
theorem dX6_mostPain_45 : decode cX6_mostPain 45 = .ok (.iload_n 3, 1) := by decide +kernel
theorem dX6_mostPain_46 : decode cX6_mostPain 46 = .ok (.iconst 1, 1) := by decide +kernel
theorem dX6_mostPain_47 : decode cX6_mostPain 47 = .ok (.iadd, 1) := by decide +kernel
theorem dX6_mostPain_48 : decode cX6_mostPain 48 = .ok (.istore 4, 2) := by decide +kernel
theorem dX6_mostPain_50 : decode cX6_mostPain 50 = .ok (.iload 4, 2) := by decide +kernel
theorem dX6_mostPain_52 : decode cX6_mostPain 52 = .ok (.iload_n 2, 1) := by decide +kernel
theorem dX6_mostPain_53 : decode cX6_mostPain 53 = .ok (.if_icmp .gt 70, 3) := by decide +kernel
theorem dX6_mostPain_56 : decode cX6_mostPain 56 = .ok (.aload_n 0, 1) := by decide +kernel
theorem dX6_mostPain_57 : decode cX6_mostPain 57 = .ok (.getfield 15, 3) := by decide +kernel
theorem dX6_mostPain_60 : decode cX6_mostPain 60 = .ok (.iload_n 3, 1) := by decide +kernel
theorem dX6_mostPain_61 : decode cX6_mostPain 61 = .ok (.iaload, 1) := by decide +kernel
theorem dX6_mostPain_62 : decode cX6_mostPain 62 = .ok (.iconst (-1), 1) := by decide +kernel
theorem dX6_mostPain_63 : decode cX6_mostPain 63 = .ok (.if_icmp .eq 54, 3) := by decide +kernel
theorem dX6_mostPain_66 : decode cX6_mostPain 66 = .ok (.aload_n 0, 1) := by decide +kernel
theorem dX6_mostPain_67 : decode cX6_mostPain 67 = .ok (.getfield 22, 3) := by decide +kernel
theorem dX6_mostPain_70 : decode cX6_mostPain 70 = .ok (.getfield 30, 3) := by decide +kernel
theorem dX6_mostPain_73 : decode cX6_mostPain 73 = .ok (.iload_n 3, 1) := by decide +kernel
theorem dX6_mostPain_74 : decode cX6_mostPain 74 = .ok (.iaload, 1) := by decide +kernel
theorem dX6_mostPain_75 : decode cX6_mostPain 75 = .ok (.iload 4, 2) := by decide +kernel
theorem dX6_mostPain_77 : decode cX6_mostPain 77 = .ok (.invokestatic 35, 3) := by decide +kernel
theorem dX6_mostPain_80 : decode cX6_mostPain 80 = .ok (.ifCond .eq 37, 3) := by decide +kernel
theorem dX6_mostPain_83 : decode cX6_mostPain 83 = .ok (.aload_n 0, 1) := by decide +kernel
theorem dX6_mostPain_84 : decode cX6_mostPain 84 = .ok (.getfield 15, 3) := by decide +kernel
theorem dX6_mostPain_87 : decode cX6_mostPain 87 = .ok (.iload 4, 2) := by decide +kernel
theorem dX6_mostPain_89 : decode cX6_mostPain 89 = .ok (.aload_n 0, 1) := by decide +kernel
theorem dX6_mostPain_90 : decode cX6_mostPain 90 = .ok (.getfield 15, 3) := by decide +kernel
theorem dX6_mostPain_93 : decode cX6_mostPain 93 = .ok (.iload 4, 2) := by decide +kernel
theorem dX6_mostPain_95 : decode cX6_mostPain 95 = .ok (.iaload, 1) := by decide +kernel
theorem dX6_mostPain_96 : decode cX6_mostPain 96 = .ok (.aload_n 0, 1) := by decide +kernel
theorem dX6_mostPain_97 : decode cX6_mostPain 97 = .ok (.getfield 15, 3) := by decide +kernel
theorem dX6_mostPain_100 : decode cX6_mostPain 100 = .ok (.iload_n 3, 1) := by decide +kernel
theorem dX6_mostPain_101 : decode cX6_mostPain 101 = .ok (.iaload, 1) := by decide +kernel
theorem dX6_mostPain_102 : decode cX6_mostPain 102 = .ok (.aload_n 0, 1) := by decide +kernel
theorem dX6_mostPain_103 : decode cX6_mostPain 103 = .ok (.getfield 22, 3) := by decide +kernel
theorem dX6_mostPain_106 : decode cX6_mostPain 106 = .ok (.getfield 53, 3) := by decide +kernel
theorem dX6_mostPain_109 : decode cX6_mostPain 109 = .ok (.iload 4, 2) := by decide +kernel
theorem dX6_mostPain_111 : decode cX6_mostPain 111 = .ok (.iaload, 1) := by decide +kernel
theorem dX6_mostPain_112 : decode cX6_mostPain 112 = .ok (.iadd, 1) := by decide +kernel
theorem dX6_mostPain_113 : decode cX6_mostPain 113 = .ok (.invokestatic 56, 3) := by decide +kernel
theorem dX6_mostPain_116 : decode cX6_mostPain 116 = .ok (.iastore, 1) := by decide +kernel
theorem dX6_mostPain_117 : decode cX6_mostPain 117 = .ok (.iinc 4 1, 3) := by decide +kernel
theorem dX6_mostPain_120 : decode cX6_mostPain 120 = .ok (.goto (-70), 3) := by decide +kernel
theorem dX6_mostPain_123 : decode cX6_mostPain 123 = .ok (.iinc 3 1, 3) := by decide +kernel
theorem dX6_mostPain_126 : decode cX6_mostPain 126 = .ok (.goto (-86), 3) := by decide +kernel
theorem dX6_mostPain_129 : decode cX6_mostPain 129 = .ok (.aload_n 0, 1) := by decide +kernel
theorem dX6_mostPain_130 : decode cX6_mostPain 130 = .ok (.getfield 15, 3) := by decide +kernel
theorem dX6_mostPain_133 : decode cX6_mostPain 133 = .ok (.iload_n 2, 1) := by decide +kernel
theorem dX6_mostPain_134 : decode cX6_mostPain 134 = .ok (.iaload, 1) := by decide +kernel
theorem dX6_mostPain_135 : decode cX6_mostPain 135 = .ok (.ireturn, 1) := by decide +kernel
theorem dX6_behind_0 : decode cX6_behind 0 = .ok (.iload_n 1, 1) := by decide +kernel
theorem dX6_behind_1 : decode cX6_behind 1 = .ok (.invokestatic 38, 3) := by decide +kernel
theorem dX6_behind_4 : decode cX6_behind 4 = .ok (.ifCond .ne 5, 3) := by decide +kernel
theorem dX6_behind_7 : decode cX6_behind 7 = .ok (.iconst 0, 1) := by decide +kernel
theorem dX6_behind_8 : decode cX6_behind 8 = .ok (.ireturn, 1) := by decide +kernel
theorem dX6_behind_9 : decode cX6_behind 9 = .ok (.iload_n 1, 1) := by decide +kernel
theorem dX6_behind_10 : decode cX6_behind 10 = .ok (.iload_n 2, 1) := by decide +kernel
theorem dX6_behind_11 : decode cX6_behind 11 = .ok (.if_icmp .ne 15, 3) := by decide +kernel
theorem dX6_behind_14 : decode cX6_behind 14 = .ok (.aload_n 0, 1) := by decide +kernel
theorem dX6_behind_15 : decode cX6_behind 15 = .ok (.getfield 22, 3) := by decide +kernel
theorem dX6_behind_18 : decode cX6_behind 18 = .ok (.getfield 61, 3) := by decide +kernel
theorem dX6_behind_21 : decode cX6_behind 21 = .ok (.iload_n 1, 1) := by decide +kernel
theorem dX6_behind_22 : decode cX6_behind 22 = .ok (.iaload, 1) := by decide +kernel
theorem dX6_behind_23 : decode cX6_behind 23 = .ok (.goto 23, 3) := by decide +kernel
theorem dX6_behind_26 : decode cX6_behind 26 = .ok (.aload_n 0, 1) := by decide +kernel
theorem dX6_behind_27 : decode cX6_behind 27 = .ok (.getfield 22, 3) := by decide +kernel
theorem dX6_behind_30 : decode cX6_behind 30 = .ok (.getfield 61, 3) := by decide +kernel
theorem dX6_behind_33 : decode cX6_behind 33 = .ok (.iload_n 1, 1) := by decide +kernel
theorem dX6_behind_34 : decode cX6_behind 34 = .ok (.iaload, 1) := by decide +kernel
theorem dX6_behind_35 : decode cX6_behind 35 = .ok (.aload_n 0, 1) := by decide +kernel
theorem dX6_behind_36 : decode cX6_behind 36 = .ok (.iload_n 1, 1) := by decide +kernel
theorem dX6_behind_37 : decode cX6_behind 37 = .ok (.iconst 1, 1) := by decide +kernel
theorem dX6_behind_38 : decode cX6_behind 38 = .ok (.iload_n 2, 1) := by decide +kernel
theorem dX6_behind_39 : decode cX6_behind 39 = .ok (.ishl, 1) := by decide +kernel
theorem dX6_behind_40 : decode cX6_behind 40 = .ok (.invokevirtual 50, 3) := by decide +kernel
theorem dX6_behind_43 : decode cX6_behind 43 = .ok (.iconst (-1), 1) := by decide +kernel
theorem dX6_behind_44 : decode cX6_behind 44 = .ok (.ixor, 1) := by decide +kernel
theorem dX6_behind_45 : decode cX6_behind 45 = .ok (.iand, 1) := by decide +kernel
theorem dX6_behind_46 : decode cX6_behind 46 = .ok (.ireturn, 1) := by decide +kernel
theorem dX6_doubled_0 : decode cX6_doubled 0 = .ok (.iload_n 1, 1) := by decide +kernel
theorem dX6_doubled_1 : decode cX6_doubled 1 = .ok (.invokestatic 38, 3) := by decide +kernel
theorem dX6_doubled_4 : decode cX6_doubled 4 = .ok (.ifCond .ne 5, 3) := by decide +kernel
theorem dX6_doubled_7 : decode cX6_doubled 7 = .ok (.iconst 0, 1) := by decide +kernel
theorem dX6_doubled_8 : decode cX6_doubled 8 = .ok (.ireturn, 1) := by decide +kernel
theorem dX6_doubled_9 : decode cX6_doubled 9 = .ok (.iconst 0, 1) := by decide +kernel
theorem dX6_doubled_10 : decode cX6_doubled 10 = .ok (.istore_n 2, 1) := by decide +kernel
theorem dX6_doubled_11 : decode cX6_doubled 11 = .ok (.iconst 0, 1) := by decide +kernel
theorem dX6_doubled_12 : decode cX6_doubled 12 = .ok (.istore_n 3, 1) := by decide +kernel
theorem dX6_doubled_13 : decode cX6_doubled 13 = .ok (.iload_n 3, 1) := by decide +kernel
theorem dX6_doubled_14 : decode cX6_doubled 14 = .ok (.bipush 12, 2) := by decide +kernel
theorem dX6_doubled_16 : decode cX6_doubled 16 = .ok (.if_icmp .ge 37, 3) := by decide +kernel
theorem dX6_doubled_19 : decode cX6_doubled 19 = .ok (.aload_n 0, 1) := by decide +kernel
theorem dX6_doubled_20 : decode cX6_doubled 20 = .ok (.getfield 22, 3) := by decide +kernel
theorem dX6_doubled_23 : decode cX6_doubled 23 = .ok (.getfield 30, 3) := by decide +kernel
theorem dX6_doubled_26 : decode cX6_doubled 26 = .ok (.iload_n 1, 1) := by decide +kernel
theorem dX6_doubled_27 : decode cX6_doubled 27 = .ok (.iaload, 1) := by decide +kernel
theorem dX6_doubled_28 : decode cX6_doubled 28 = .ok (.iload_n 3, 1) := by decide +kernel
theorem dX6_doubled_29 : decode cX6_doubled 29 = .ok (.invokestatic 35, 3) := by decide +kernel
theorem dX6_doubled_32 : decode cX6_doubled 32 = .ok (.ifCond .eq 15, 3) := by decide +kernel
theorem dX6_doubled_35 : decode cX6_doubled 35 = .ok (.iload_n 2, 1) := by decide +kernel
theorem dX6_doubled_36 : decode cX6_doubled 36 = .ok (.aload_n 0, 1) := by decide +kernel
theorem dX6_doubled_37 : decode cX6_doubled 37 = .ok (.getfield 22, 3) := by decide +kernel
theorem dX6_doubled_40 : decode cX6_doubled 40 = .ok (.getfield 61, 3) := by decide +kernel
theorem dX6_doubled_43 : decode cX6_doubled 43 = .ok (.iload_n 3, 1) := by decide +kernel
theorem dX6_doubled_44 : decode cX6_doubled 44 = .ok (.iaload, 1) := by decide +kernel
theorem dX6_doubled_45 : decode cX6_doubled 45 = .ok (.ior, 1) := by decide +kernel
theorem dX6_doubled_46 : decode cX6_doubled 46 = .ok (.istore_n 2, 1) := by decide +kernel
theorem dX6_doubled_47 : decode cX6_doubled 47 = .ok (.iinc 3 1, 3) := by decide +kernel
theorem dX6_doubled_50 : decode cX6_doubled 50 = .ok (.goto (-37), 3) := by decide +kernel
theorem dX6_doubled_53 : decode cX6_doubled 53 = .ok (.aload_n 0, 1) := by decide +kernel
theorem dX6_doubled_54 : decode cX6_doubled 54 = .ok (.getfield 22, 3) := by decide +kernel
theorem dX6_doubled_57 : decode cX6_doubled 57 = .ok (.getfield 30, 3) := by decide +kernel
theorem dX6_doubled_60 : decode cX6_doubled 60 = .ok (.iload_n 1, 1) := by decide +kernel
theorem dX6_doubled_61 : decode cX6_doubled 61 = .ok (.iaload, 1) := by decide +kernel
theorem dX6_doubled_62 : decode cX6_doubled 62 = .ok (.iload_n 2, 1) := by decide +kernel
theorem dX6_doubled_63 : decode cX6_doubled 63 = .ok (.iand, 1) := by decide +kernel
theorem dX6_doubled_64 : decode cX6_doubled 64 = .ok (.ireturn, 1) := by decide +kernel
theorem dX6_highestOfBoth_0 : decode cX6_highestOfBoth 0 = .ok (.aload_n 0, 1) := by decide +kernel
theorem dX6_highestOfBoth_1 : decode cX6_highestOfBoth 1 = .ok (.getfield 22, 3) := by decide +kernel
theorem dX6_highestOfBoth_4 : decode cX6_highestOfBoth 4 = .ok (.iload_n 1, 1) := by decide +kernel
theorem dX6_highestOfBoth_5 : decode cX6_highestOfBoth 5 = .ok (.invokevirtual 42, 3) := by decide +kernel
theorem dX6_highestOfBoth_8 : decode cX6_highestOfBoth 8 = .ok (.aload_n 0, 1) := by decide +kernel
theorem dX6_highestOfBoth_9 : decode cX6_highestOfBoth 9 = .ok (.getfield 22, 3) := by decide +kernel
theorem dX6_highestOfBoth_12 : decode cX6_highestOfBoth 12 = .ok (.iload_n 2, 1) := by decide +kernel
theorem dX6_highestOfBoth_13 : decode cX6_highestOfBoth 13 = .ok (.invokevirtual 42, 3) := by decide +kernel
theorem dX6_highestOfBoth_16 : decode cX6_highestOfBoth 16 = .ok (.iand, 1) := by decide +kernel
theorem dX6_highestOfBoth_17 : decode cX6_highestOfBoth 17 = .ok (.istore_n 3, 1) := by decide +kernel
theorem dX6_highestOfBoth_18 : decode cX6_highestOfBoth 18 = .ok (.iconst 0, 1) := by decide +kernel
theorem dX6_highestOfBoth_19 : decode cX6_highestOfBoth 19 = .ok (.istore 4, 2) := by decide +kernel
theorem dX6_highestOfBoth_21 : decode cX6_highestOfBoth 21 = .ok (.iconst 0, 1) := by decide +kernel
theorem dX6_highestOfBoth_22 : decode cX6_highestOfBoth 22 = .ok (.istore 5, 2) := by decide +kernel
theorem dX6_highestOfBoth_24 : decode cX6_highestOfBoth 24 = .ok (.iload 5, 2) := by decide +kernel
theorem dX6_highestOfBoth_26 : decode cX6_highestOfBoth 26 = .ok (.bipush 12, 2) := by decide +kernel
theorem dX6_highestOfBoth_28 : decode cX6_highestOfBoth 28 = .ok (.if_icmp .ge 33, 3) := by decide +kernel
theorem dX6_highestOfBoth_31 : decode cX6_highestOfBoth 31 = .ok (.iload_n 3, 1) := by decide +kernel
theorem dX6_highestOfBoth_32 : decode cX6_highestOfBoth 32 = .ok (.iload 5, 2) := by decide +kernel
theorem dX6_highestOfBoth_34 : decode cX6_highestOfBoth 34 = .ok (.invokestatic 35, 3) := by decide +kernel
theorem dX6_highestOfBoth_37 : decode cX6_highestOfBoth 37 = .ok (.ifCond .eq 18, 3) := by decide +kernel
theorem dX6_highestOfBoth_40 : decode cX6_highestOfBoth 40 = .ok (.iload 4, 2) := by decide +kernel
theorem dX6_highestOfBoth_42 : decode cX6_highestOfBoth 42 = .ok (.aload_n 0, 1) := by decide +kernel
theorem dX6_highestOfBoth_43 : decode cX6_highestOfBoth 43 = .ok (.getfield 22, 3) := by decide +kernel
theorem dX6_highestOfBoth_46 : decode cX6_highestOfBoth 46 = .ok (.getfield 61, 3) := by decide +kernel
theorem dX6_highestOfBoth_49 : decode cX6_highestOfBoth 49 = .ok (.iload 5, 2) := by decide +kernel
theorem dX6_highestOfBoth_51 : decode cX6_highestOfBoth 51 = .ok (.iaload, 1) := by decide +kernel
theorem dX6_highestOfBoth_52 : decode cX6_highestOfBoth 52 = .ok (.ior, 1) := by decide +kernel
theorem dX6_highestOfBoth_53 : decode cX6_highestOfBoth 53 = .ok (.istore 4, 2) := by decide +kernel
theorem dX6_highestOfBoth_55 : decode cX6_highestOfBoth 55 = .ok (.iinc 5 1, 3) := by decide +kernel
theorem dX6_highestOfBoth_58 : decode cX6_highestOfBoth 58 = .ok (.goto (-34), 3) := by decide +kernel
theorem dX6_highestOfBoth_61 : decode cX6_highestOfBoth 61 = .ok (.iload_n 3, 1) := by decide +kernel
theorem dX6_highestOfBoth_62 : decode cX6_highestOfBoth 62 = .ok (.iload 4, 2) := by decide +kernel
theorem dX6_highestOfBoth_64 : decode cX6_highestOfBoth 64 = .ok (.iconst (-1), 1) := by decide +kernel
theorem dX6_highestOfBoth_65 : decode cX6_highestOfBoth 65 = .ok (.ixor, 1) := by decide +kernel
theorem dX6_highestOfBoth_66 : decode cX6_highestOfBoth 66 = .ok (.iand, 1) := by decide +kernel
theorem dX6_highestOfBoth_67 : decode cX6_highestOfBoth 67 = .ok (.ireturn, 1) := by decide +kernel
theorem dX6_over_0 : decode cX6_over 0 = .ok (.iconst 0, 1) := by decide +kernel
theorem dX6_over_1 : decode cX6_over 1 = .ok (.istore_n 2, 1) := by decide +kernel
theorem dX6_over_2 : decode cX6_over 2 = .ok (.iconst 0, 1) := by decide +kernel
theorem dX6_over_3 : decode cX6_over 3 = .ok (.istore_n 3, 1) := by decide +kernel
theorem dX6_over_4 : decode cX6_over 4 = .ok (.iload_n 3, 1) := by decide +kernel
theorem dX6_over_5 : decode cX6_over 5 = .ok (.bipush 12, 2) := by decide +kernel
theorem dX6_over_7 : decode cX6_over 7 = .ok (.if_icmp .ge 31, 3) := by decide +kernel
theorem dX6_over_10 : decode cX6_over 10 = .ok (.aload_n 0, 1) := by decide +kernel
theorem dX6_over_11 : decode cX6_over 11 = .ok (.getfield 22, 3) := by decide +kernel
theorem dX6_over_14 : decode cX6_over 14 = .ok (.getfield 61, 3) := by decide +kernel
theorem dX6_over_17 : decode cX6_over 17 = .ok (.iload_n 3, 1) := by decide +kernel
theorem dX6_over_18 : decode cX6_over 18 = .ok (.iaload, 1) := by decide +kernel
theorem dX6_over_19 : decode cX6_over 19 = .ok (.iload_n 1, 1) := by decide +kernel
theorem dX6_over_20 : decode cX6_over 20 = .ok (.invokestatic 35, 3) := by decide +kernel
theorem dX6_over_23 : decode cX6_over 23 = .ok (.ifCond .eq 9, 3) := by decide +kernel
theorem dX6_over_26 : decode cX6_over 26 = .ok (.iload_n 2, 1) := by decide +kernel
theorem dX6_over_27 : decode cX6_over 27 = .ok (.iconst 1, 1) := by decide +kernel
theorem dX6_over_28 : decode cX6_over 28 = .ok (.iload_n 3, 1) := by decide +kernel
theorem dX6_over_29 : decode cX6_over 29 = .ok (.ishl, 1) := by decide +kernel
theorem dX6_over_30 : decode cX6_over 30 = .ok (.ior, 1) := by decide +kernel
theorem dX6_over_31 : decode cX6_over 31 = .ok (.istore_n 2, 1) := by decide +kernel
theorem dX6_over_32 : decode cX6_over 32 = .ok (.iinc 3 1, 3) := by decide +kernel
theorem dX6_over_35 : decode cX6_over 35 = .ok (.goto (-31), 3) := by decide +kernel
theorem dX6_over_38 : decode cX6_over 38 = .ok (.iload_n 2, 1) := by decide +kernel
theorem dX6_over_39 : decode cX6_over 39 = .ok (.ireturn, 1) := by decide +kernel
theorem dX6_widest_0 : decode cX6_widest 0 = .ok (.iconst 0, 1) := by decide +kernel
theorem dX6_widest_1 : decode cX6_widest 1 = .ok (.istore_n 1, 1) := by decide +kernel
theorem dX6_widest_2 : decode cX6_widest 2 = .ok (.iconst 0, 1) := by decide +kernel
theorem dX6_widest_3 : decode cX6_widest 3 = .ok (.istore_n 2, 1) := by decide +kernel
theorem dX6_widest_4 : decode cX6_widest 4 = .ok (.iconst 0, 1) := by decide +kernel
theorem dX6_widest_5 : decode cX6_widest 5 = .ok (.istore_n 3, 1) := by decide +kernel
theorem dX6_widest_6 : decode cX6_widest 6 = .ok (.iload_n 3, 1) := by decide +kernel
theorem dX6_widest_7 : decode cX6_widest 7 = .ok (.sipush 4096, 3) := by decide +kernel
theorem dX6_widest_10 : decode cX6_widest 10 = .ok (.if_icmp .ge 34, 3) := by decide +kernel
theorem dX6_widest_13 : decode cX6_widest 13 = .ok (.iload_n 3, 1) := by decide +kernel
theorem dX6_widest_14 : decode cX6_widest 14 = .ok (.invokestatic 64, 3) := by decide +kernel
theorem dX6_widest_17 : decode cX6_widest 17 = .ok (.istore 4, 2) := by decide +kernel
theorem dX6_widest_19 : decode cX6_widest 19 = .ok (.iload 4, 2) := by decide +kernel
theorem dX6_widest_21 : decode cX6_widest 21 = .ok (.iload_n 2, 1) := by decide +kernel
theorem dX6_widest_22 : decode cX6_widest 22 = .ok (.if_icmp .le 16, 3) := by decide +kernel
theorem dX6_widest_25 : decode cX6_widest 25 = .ok (.aload_n 0, 1) := by decide +kernel
theorem dX6_widest_26 : decode cX6_widest 26 = .ok (.iload_n 3, 1) := by decide +kernel
theorem dX6_widest_27 : decode cX6_widest 27 = .ok (.invokevirtual 69, 3) := by decide +kernel
theorem dX6_widest_30 : decode cX6_widest 30 = .ok (.ifCond .eq 8, 3) := by decide +kernel
theorem dX6_widest_33 : decode cX6_widest 33 = .ok (.iload_n 3, 1) := by decide +kernel
theorem dX6_widest_34 : decode cX6_widest 34 = .ok (.istore_n 1, 1) := by decide +kernel
theorem dX6_widest_35 : decode cX6_widest 35 = .ok (.iload 4, 2) := by decide +kernel
theorem dX6_widest_37 : decode cX6_widest 37 = .ok (.istore_n 2, 1) := by decide +kernel
theorem dX6_widest_38 : decode cX6_widest 38 = .ok (.iinc 3 1, 3) := by decide +kernel
theorem dX6_widest_41 : decode cX6_widest 41 = .ok (.goto (-35), 3) := by decide +kernel
theorem dX6_widest_44 : decode cX6_widest 44 = .ok (.iload_n 1, 1) := by decide +kernel
theorem dX6_widest_45 : decode cX6_widest 45 = .ok (.ireturn, 1) := by decide +kernel
theorem dX6_liesApart_0 : decode cX6_liesApart 0 = .ok (.iconst 0, 1) := by decide +kernel
theorem dX6_liesApart_1 : decode cX6_liesApart 1 = .ok (.istore_n 2, 1) := by decide +kernel
theorem dX6_liesApart_2 : decode cX6_liesApart 2 = .ok (.iload_n 2, 1) := by decide +kernel
theorem dX6_liesApart_3 : decode cX6_liesApart 3 = .ok (.bipush 12, 2) := by decide +kernel
theorem dX6_liesApart_5 : decode cX6_liesApart 5 = .ok (.if_icmp .ge 33, 3) := by decide +kernel
theorem dX6_liesApart_8 : decode cX6_liesApart 8 = .ok (.iload_n 1, 1) := by decide +kernel
theorem dX6_liesApart_9 : decode cX6_liesApart 9 = .ok (.iload_n 2, 1) := by decide +kernel
theorem dX6_liesApart_10 : decode cX6_liesApart 10 = .ok (.invokestatic 35, 3) := by decide +kernel
theorem dX6_liesApart_13 : decode cX6_liesApart 13 = .ok (.ifCond .eq 19, 3) := by decide +kernel
theorem dX6_liesApart_16 : decode cX6_liesApart 16 = .ok (.aload_n 0, 1) := by decide +kernel
theorem dX6_liesApart_17 : decode cX6_liesApart 17 = .ok (.getfield 22, 3) := by decide +kernel
theorem dX6_liesApart_20 : decode cX6_liesApart 20 = .ok (.getfield 61, 3) := by decide +kernel
theorem dX6_liesApart_23 : decode cX6_liesApart 23 = .ok (.iload_n 2, 1) := by decide +kernel
theorem dX6_liesApart_24 : decode cX6_liesApart 24 = .ok (.iaload, 1) := by decide +kernel
theorem dX6_liesApart_25 : decode cX6_liesApart 25 = .ok (.iload_n 1, 1) := by decide +kernel
theorem dX6_liesApart_26 : decode cX6_liesApart 26 = .ok (.iand, 1) := by decide +kernel
theorem dX6_liesApart_27 : decode cX6_liesApart 27 = .ok (.ifCond .eq 5, 3) := by decide +kernel
theorem dX6_liesApart_30 : decode cX6_liesApart 30 = .ok (.iconst 0, 1) := by decide +kernel
theorem dX6_liesApart_31 : decode cX6_liesApart 31 = .ok (.ireturn, 1) := by decide +kernel
theorem dX6_liesApart_32 : decode cX6_liesApart 32 = .ok (.iinc 2 1, 3) := by decide +kernel
theorem dX6_liesApart_35 : decode cX6_liesApart 35 = .ok (.goto (-33), 3) := by decide +kernel
theorem dX6_liesApart_38 : decode cX6_liesApart 38 = .ok (.iconst 1, 1) := by decide +kernel
theorem dX6_liesApart_39 : decode cX6_liesApart 39 = .ok (.ireturn, 1) := by decide +kernel
theorem dX6_fewestRows_0 : decode cX6_fewestRows 0 = .ok (.iconst 0, 1) := by decide +kernel
theorem dX6_fewestRows_1 : decode cX6_fewestRows 1 = .ok (.istore_n 1, 1) := by decide +kernel
theorem dX6_fewestRows_2 : decode cX6_fewestRows 2 = .ok (.iload_n 1, 1) := by decide +kernel
theorem dX6_fewestRows_3 : decode cX6_fewestRows 3 = .ok (.bipush 12, 2) := by decide +kernel
theorem dX6_fewestRows_5 : decode cX6_fewestRows 5 = .ok (.if_icmp .ge 16, 3) := by decide +kernel
theorem dX6_fewestRows_8 : decode cX6_fewestRows 8 = .ok (.aload_n 0, 1) := by decide +kernel
theorem dX6_fewestRows_9 : decode cX6_fewestRows 9 = .ok (.getfield 19, 3) := by decide +kernel
theorem dX6_fewestRows_12 : decode cX6_fewestRows 12 = .ok (.iload_n 1, 1) := by decide +kernel
theorem dX6_fewestRows_13 : decode cX6_fewestRows 13 = .ok (.iconst (-1), 1) := by decide +kernel
theorem dX6_fewestRows_14 : decode cX6_fewestRows 14 = .ok (.iastore, 1) := by decide +kernel
theorem dX6_fewestRows_15 : decode cX6_fewestRows 15 = .ok (.iinc 1 1, 3) := by decide +kernel
theorem dX6_fewestRows_18 : decode cX6_fewestRows 18 = .ok (.goto (-16), 3) := by decide +kernel
theorem dX6_fewestRows_21 : decode cX6_fewestRows 21 = .ok (.iconst 0, 1) := by decide +kernel
theorem dX6_fewestRows_22 : decode cX6_fewestRows 22 = .ok (.istore_n 1, 1) := by decide +kernel
theorem dX6_fewestRows_23 : decode cX6_fewestRows 23 = .ok (.iconst 0, 1) := by decide +kernel
theorem dX6_fewestRows_24 : decode cX6_fewestRows 24 = .ok (.istore_n 2, 1) := by decide +kernel
theorem dX6_fewestRows_25 : decode cX6_fewestRows 25 = .ok (.iload_n 2, 1) := by decide +kernel
theorem dX6_fewestRows_26 : decode cX6_fewestRows 26 = .ok (.bipush 12, 2) := by decide +kernel
theorem dX6_fewestRows_28 : decode cX6_fewestRows 28 = .ok (.if_icmp .ge 26, 3) := by decide +kernel
theorem dX6_fewestRows_31 : decode cX6_fewestRows 31 = .ok (.aload_n 0, 1) := by decide +kernel
theorem dX6_fewestRows_32 : decode cX6_fewestRows 32 = .ok (.iconst 0, 1) := by decide +kernel
theorem dX6_fewestRows_33 : decode cX6_fewestRows 33 = .ok (.putfield 72, 3) := by decide +kernel
theorem dX6_fewestRows_36 : decode cX6_fewestRows 36 = .ok (.aload_n 0, 1) := by decide +kernel
theorem dX6_fewestRows_37 : decode cX6_fewestRows 37 = .ok (.iload_n 2, 1) := by decide +kernel
theorem dX6_fewestRows_38 : decode cX6_fewestRows 38 = .ok (.iconst 0, 1) := by decide +kernel
theorem dX6_fewestRows_39 : decode cX6_fewestRows 39 = .ok (.invokevirtual 76, 3) := by decide +kernel
theorem dX6_fewestRows_42 : decode cX6_fewestRows 42 = .ok (.ifCond .eq 6, 3) := by decide +kernel
theorem dX6_fewestRows_45 : decode cX6_fewestRows 45 = .ok (.iinc 1 1, 3) := by decide +kernel
theorem dX6_fewestRows_48 : decode cX6_fewestRows 48 = .ok (.iinc 2 1, 3) := by decide +kernel
theorem dX6_fewestRows_51 : decode cX6_fewestRows 51 = .ok (.goto (-26), 3) := by decide +kernel
theorem dX6_fewestRows_54 : decode cX6_fewestRows 54 = .ok (.bipush 12, 2) := by decide +kernel
theorem dX6_fewestRows_56 : decode cX6_fewestRows 56 = .ok (.iload_n 1, 1) := by decide +kernel
theorem dX6_fewestRows_57 : decode cX6_fewestRows 57 = .ok (.isub, 1) := by decide +kernel
theorem dX6_fewestRows_58 : decode cX6_fewestRows 58 = .ok (.ireturn, 1) := by decide +kernel
theorem dX6_joins_0 : decode cX6_joins 0 = .ok (.iload_n 2, 1) := by decide +kernel
theorem dX6_joins_1 : decode cX6_joins 1 = .ok (.bipush 12, 2) := by decide +kernel
theorem dX6_joins_3 : decode cX6_joins 3 = .ok (.if_icmp .gt 10, 3) := by decide +kernel
theorem dX6_joins_6 : decode cX6_joins 6 = .ok (.iload_n 1, 1) := by decide +kernel
theorem dX6_joins_7 : decode cX6_joins 7 = .ok (.invokestatic 38, 3) := by decide +kernel
theorem dX6_joins_10 : decode cX6_joins 10 = .ok (.ifCond .ne 5, 3) := by decide +kernel
theorem dX6_joins_13 : decode cX6_joins 13 = .ok (.iconst 0, 1) := by decide +kernel
theorem dX6_joins_14 : decode cX6_joins 14 = .ok (.ireturn, 1) := by decide +kernel
theorem dX6_joins_15 : decode cX6_joins 15 = .ok (.iload_n 1, 1) := by decide +kernel
theorem dX6_joins_16 : decode cX6_joins 16 = .ok (.iconst 1, 1) := by decide +kernel
theorem dX6_joins_17 : decode cX6_joins 17 = .ok (.iadd, 1) := by decide +kernel
theorem dX6_joins_18 : decode cX6_joins 18 = .ok (.istore_n 3, 1) := by decide +kernel
theorem dX6_joins_19 : decode cX6_joins 19 = .ok (.iload_n 3, 1) := by decide +kernel
theorem dX6_joins_20 : decode cX6_joins 20 = .ok (.bipush 12, 2) := by decide +kernel
theorem dX6_joins_22 : decode cX6_joins 22 = .ok (.if_icmp .ge 83, 3) := by decide +kernel
theorem dX6_joins_25 : decode cX6_joins 25 = .ok (.aload_n 0, 1) := by decide +kernel
theorem dX6_joins_26 : decode cX6_joins 26 = .ok (.getfield 22, 3) := by decide +kernel
theorem dX6_joins_29 : decode cX6_joins 29 = .ok (.getfield 30, 3) := by decide +kernel
theorem dX6_joins_32 : decode cX6_joins 32 = .ok (.iload_n 1, 1) := by decide +kernel
theorem dX6_joins_33 : decode cX6_joins 33 = .ok (.iaload, 1) := by decide +kernel
theorem dX6_joins_34 : decode cX6_joins 34 = .ok (.iload_n 3, 1) := by decide +kernel
theorem dX6_joins_35 : decode cX6_joins 35 = .ok (.invokestatic 35, 3) := by decide +kernel
theorem dX6_joins_38 : decode cX6_joins 38 = .ok (.ifCond .eq 61, 3) := by decide +kernel
theorem dX6_joins_41 : decode cX6_joins 41 = .ok (.aload_n 0, 1) := by decide +kernel
theorem dX6_joins_42 : decode cX6_joins 42 = .ok (.getfield 72, 3) := by decide +kernel
theorem dX6_joins_45 : decode cX6_joins 45 = .ok (.iload_n 3, 1) := by decide +kernel
theorem dX6_joins_46 : decode cX6_joins 46 = .ok (.invokestatic 35, 3) := by decide +kernel
theorem dX6_joins_49 : decode cX6_joins 49 = .ok (.ifCond .ne 50, 3) := by decide +kernel
theorem dX6_joins_52 : decode cX6_joins 52 = .ok (.aload_n 0, 1) := by decide +kernel
theorem dX6_joins_53 : decode cX6_joins 53 = .ok (.dup, 1) := by decide +kernel
theorem dX6_joins_54 : decode cX6_joins 54 = .ok (.getfield 72, 3) := by decide +kernel
theorem dX6_joins_57 : decode cX6_joins 57 = .ok (.iconst 1, 1) := by decide +kernel
theorem dX6_joins_58 : decode cX6_joins 58 = .ok (.iload_n 3, 1) := by decide +kernel
theorem dX6_joins_59 : decode cX6_joins 59 = .ok (.ishl, 1) := by decide +kernel
theorem dX6_joins_60 : decode cX6_joins 60 = .ok (.ior, 1) := by decide +kernel
theorem dX6_joins_61 : decode cX6_joins 61 = .ok (.putfield 72, 3) := by decide +kernel
theorem dX6_joins_64 : decode cX6_joins 64 = .ok (.aload_n 0, 1) := by decide +kernel
theorem dX6_joins_65 : decode cX6_joins 65 = .ok (.getfield 19, 3) := by decide +kernel
theorem dX6_joins_68 : decode cX6_joins 68 = .ok (.iload_n 3, 1) := by decide +kernel
theorem dX6_joins_69 : decode cX6_joins 69 = .ok (.iaload, 1) := by decide +kernel
theorem dX6_joins_70 : decode cX6_joins 70 = .ok (.iconst (-1), 1) := by decide +kernel
theorem dX6_joins_71 : decode cX6_joins 71 = .ok (.if_icmp .eq 19, 3) := by decide +kernel
theorem dX6_joins_74 : decode cX6_joins 74 = .ok (.aload_n 0, 1) := by decide +kernel
theorem dX6_joins_75 : decode cX6_joins 75 = .ok (.aload_n 0, 1) := by decide +kernel
theorem dX6_joins_76 : decode cX6_joins 76 = .ok (.getfield 19, 3) := by decide +kernel
theorem dX6_joins_79 : decode cX6_joins 79 = .ok (.iload_n 3, 1) := by decide +kernel
theorem dX6_joins_80 : decode cX6_joins 80 = .ok (.iaload, 1) := by decide +kernel
theorem dX6_joins_81 : decode cX6_joins 81 = .ok (.iload_n 2, 1) := by decide +kernel
theorem dX6_joins_82 : decode cX6_joins 82 = .ok (.iconst 1, 1) := by decide +kernel
theorem dX6_joins_83 : decode cX6_joins 83 = .ok (.iadd, 1) := by decide +kernel
theorem dX6_joins_84 : decode cX6_joins 84 = .ok (.invokevirtual 76, 3) := by decide +kernel
theorem dX6_joins_87 : decode cX6_joins 87 = .ok (.ifCond .eq 12, 3) := by decide +kernel
theorem dX6_joins_90 : decode cX6_joins 90 = .ok (.aload_n 0, 1) := by decide +kernel
theorem dX6_joins_91 : decode cX6_joins 91 = .ok (.getfield 19, 3) := by decide +kernel
theorem dX6_joins_94 : decode cX6_joins 94 = .ok (.iload_n 3, 1) := by decide +kernel
theorem dX6_joins_95 : decode cX6_joins 95 = .ok (.iload_n 1, 1) := by decide +kernel
theorem dX6_joins_96 : decode cX6_joins 96 = .ok (.iastore, 1) := by decide +kernel
theorem dX6_joins_97 : decode cX6_joins 97 = .ok (.iconst 1, 1) := by decide +kernel
theorem dX6_joins_98 : decode cX6_joins 98 = .ok (.ireturn, 1) := by decide +kernel
theorem dX6_joins_99 : decode cX6_joins 99 = .ok (.iinc 3 1, 3) := by decide +kernel
theorem dX6_joins_102 : decode cX6_joins 102 = .ok (.goto (-83), 3) := by decide +kernel
theorem dX6_joins_105 : decode cX6_joins 105 = .ok (.iconst 0, 1) := by decide +kernel
theorem dX6_joins_106 : decode cX6_joins 106 = .ok (.ireturn, 1) := by decide +kernel
theorem dX6_leastCut_0 : decode cX6_leastCut 0 = .ok (.aload_n 0, 1) := by decide +kernel
theorem dX6_leastCut_1 : decode cX6_leastCut 1 = .ok (.iload_n 1, 1) := by decide +kernel
theorem dX6_leastCut_2 : decode cX6_leastCut 2 = .ok (.iload_n 2, 1) := by decide +kernel
theorem dX6_leastCut_3 : decode cX6_leastCut 3 = .ok (.invokevirtual 46, 3) := by decide +kernel
theorem dX6_leastCut_6 : decode cX6_leastCut 6 = .ok (.iconst 1, 1) := by decide +kernel
theorem dX6_leastCut_7 : decode cX6_leastCut 7 = .ok (.iload_n 1, 1) := by decide +kernel
theorem dX6_leastCut_8 : decode cX6_leastCut 8 = .ok (.ishl, 1) := by decide +kernel
theorem dX6_leastCut_9 : decode cX6_leastCut 9 = .ok (.iconst 1, 1) := by decide +kernel
theorem dX6_leastCut_10 : decode cX6_leastCut 10 = .ok (.iload_n 2, 1) := by decide +kernel
theorem dX6_leastCut_11 : decode cX6_leastCut 11 = .ok (.ishl, 1) := by decide +kernel
theorem dX6_leastCut_12 : decode cX6_leastCut 12 = .ok (.ior, 1) := by decide +kernel
theorem dX6_leastCut_13 : decode cX6_leastCut 13 = .ok (.iconst (-1), 1) := by decide +kernel
theorem dX6_leastCut_14 : decode cX6_leastCut 14 = .ok (.ixor, 1) := by decide +kernel
theorem dX6_leastCut_15 : decode cX6_leastCut 15 = .ok (.iand, 1) := by decide +kernel
theorem dX6_leastCut_16 : decode cX6_leastCut 16 = .ok (.istore_n 3, 1) := by decide +kernel
theorem dX6_leastCut_17 : decode cX6_leastCut 17 = .ok (.iload_n 3, 1) := by decide +kernel
theorem dX6_leastCut_18 : decode cX6_leastCut 18 = .ok (.istore 4, 2) := by decide +kernel
theorem dX6_leastCut_20 : decode cX6_leastCut 20 = .ok (.aload_n 0, 1) := by decide +kernel
theorem dX6_leastCut_21 : decode cX6_leastCut 21 = .ok (.getfield 22, 3) := by decide +kernel
theorem dX6_leastCut_24 : decode cX6_leastCut 24 = .ok (.iload_n 3, 1) := by decide +kernel
theorem dX6_leastCut_25 : decode cX6_leastCut 25 = .ok (.invokevirtual 79, 3) := by decide +kernel
theorem dX6_leastCut_28 : decode cX6_leastCut 28 = .ok (.istore 5, 2) := by decide +kernel
theorem dX6_leastCut_30 : decode cX6_leastCut 30 = .ok (.iconst 0, 1) := by decide +kernel
theorem dX6_leastCut_31 : decode cX6_leastCut 31 = .ok (.istore 6, 2) := by decide +kernel
theorem dX6_leastCut_33 : decode cX6_leastCut 33 = .ok (.iload 6, 2) := by decide +kernel
theorem dX6_leastCut_35 : decode cX6_leastCut 35 = .ok (.sipush 4096, 3) := by decide +kernel
theorem dX6_leastCut_38 : decode cX6_leastCut 38 = .ok (.if_icmp .ge 90, 3) := by decide +kernel
theorem dX6_leastCut_41 : decode cX6_leastCut 41 = .ok (.iload 6, 2) := by decide +kernel
theorem dX6_leastCut_43 : decode cX6_leastCut 43 = .ok (.iload_n 3, 1) := by decide +kernel
theorem dX6_leastCut_44 : decode cX6_leastCut 44 = .ok (.iconst (-1), 1) := by decide +kernel
theorem dX6_leastCut_45 : decode cX6_leastCut 45 = .ok (.ixor, 1) := by decide +kernel
theorem dX6_leastCut_46 : decode cX6_leastCut 46 = .ok (.iand, 1) := by decide +kernel
theorem dX6_leastCut_47 : decode cX6_leastCut 47 = .ok (.ifCond .ne 75, 3) := by decide +kernel
theorem dX6_leastCut_50 : decode cX6_leastCut 50 = .ok (.aload_n 0, 1) := by decide +kernel
theorem dX6_leastCut_51 : decode cX6_leastCut 51 = .ok (.getfield 22, 3) := by decide +kernel
theorem dX6_leastCut_54 : decode cX6_leastCut 54 = .ok (.iload 6, 2) := by decide +kernel
theorem dX6_leastCut_56 : decode cX6_leastCut 56 = .ok (.invokevirtual 79, 3) := by decide +kernel
theorem dX6_leastCut_59 : decode cX6_leastCut 59 = .ok (.istore 7, 2) := by decide +kernel
theorem dX6_leastCut_61 : decode cX6_leastCut 61 = .ok (.iload 7, 2) := by decide +kernel
theorem dX6_leastCut_63 : decode cX6_leastCut 63 = .ok (.iload 5, 2) := by decide +kernel
theorem dX6_leastCut_65 : decode cX6_leastCut 65 = .ok (.if_icmp .lt 23, 3) := by decide +kernel
theorem dX6_leastCut_68 : decode cX6_leastCut 68 = .ok (.iload 7, 2) := by decide +kernel
theorem dX6_leastCut_70 : decode cX6_leastCut 70 = .ok (.iload 5, 2) := by decide +kernel
theorem dX6_leastCut_72 : decode cX6_leastCut 72 = .ok (.if_icmp .ne 20, 3) := by decide +kernel
theorem dX6_leastCut_75 : decode cX6_leastCut 75 = .ok (.iload 6, 2) := by decide +kernel
theorem dX6_leastCut_77 : decode cX6_leastCut 77 = .ok (.invokestatic 64, 3) := by decide +kernel
theorem dX6_leastCut_80 : decode cX6_leastCut 80 = .ok (.iload 4, 2) := by decide +kernel
theorem dX6_leastCut_82 : decode cX6_leastCut 82 = .ok (.invokestatic 64, 3) := by decide +kernel
theorem dX6_leastCut_85 : decode cX6_leastCut 85 = .ok (.if_icmp .ge 7, 3) := by decide +kernel
theorem dX6_leastCut_88 : decode cX6_leastCut 88 = .ok (.iconst 1, 1) := by decide +kernel
theorem dX6_leastCut_89 : decode cX6_leastCut 89 = .ok (.goto 4, 3) := by decide +kernel
theorem dX6_leastCut_92 : decode cX6_leastCut 92 = .ok (.iconst 0, 1) := by decide +kernel
theorem dX6_leastCut_93 : decode cX6_leastCut 93 = .ok (.istore 8, 2) := by decide +kernel
theorem dX6_leastCut_95 : decode cX6_leastCut 95 = .ok (.iload 8, 2) := by decide +kernel
theorem dX6_leastCut_97 : decode cX6_leastCut 97 = .ok (.ifCond .eq 25, 3) := by decide +kernel
theorem dX6_leastCut_100 : decode cX6_leastCut 100 = .ok (.aload_n 0, 1) := by decide +kernel
theorem dX6_leastCut_101 : decode cX6_leastCut 101 = .ok (.iload_n 1, 1) := by decide +kernel
theorem dX6_leastCut_102 : decode cX6_leastCut 102 = .ok (.iload 6, 2) := by decide +kernel
theorem dX6_leastCut_104 : decode cX6_leastCut 104 = .ok (.invokevirtual 50, 3) := by decide +kernel
theorem dX6_leastCut_107 : decode cX6_leastCut 107 = .ok (.iload_n 2, 1) := by decide +kernel
theorem dX6_leastCut_108 : decode cX6_leastCut 108 = .ok (.invokestatic 35, 3) := by decide +kernel
theorem dX6_leastCut_111 : decode cX6_leastCut 111 = .ok (.ifCond .ne 11, 3) := by decide +kernel
theorem dX6_leastCut_114 : decode cX6_leastCut 114 = .ok (.iload 6, 2) := by decide +kernel
theorem dX6_leastCut_116 : decode cX6_leastCut 116 = .ok (.istore 4, 2) := by decide +kernel
theorem dX6_leastCut_118 : decode cX6_leastCut 118 = .ok (.iload 7, 2) := by decide +kernel
theorem dX6_leastCut_120 : decode cX6_leastCut 120 = .ok (.istore 5, 2) := by decide +kernel
theorem dX6_leastCut_122 : decode cX6_leastCut 122 = .ok (.iinc 6 1, 3) := by decide +kernel
theorem dX6_leastCut_125 : decode cX6_leastCut 125 = .ok (.goto (-92), 3) := by decide +kernel
theorem dX6_leastCut_128 : decode cX6_leastCut 128 = .ok (.iload 4, 2) := by decide +kernel
theorem dX6_leastCut_130 : decode cX6_leastCut 130 = .ok (.ireturn, 1) := by decide +kernel
theorem dX7_init_0 : decode cX7_init 0 = .ok (.aload_n 0, 1) := by decide +kernel
theorem dX7_init_1 : decode cX7_init 1 = .ok (.invokespecial 3, 3) := by decide +kernel
theorem dX7_init_4 : decode cX7_init 4 = .ok (.aload_n 0, 1) := by decide +kernel
theorem dX7_init_5 : decode cX7_init 5 = .ok (.new 9, 3) := by decide +kernel
theorem dX7_init_8 : decode cX7_init 8 = .ok (.dup, 1) := by decide +kernel
theorem dX7_init_9 : decode cX7_init 9 = .ok (.invokespecial 11, 3) := by decide +kernel
theorem dX7_init_12 : decode cX7_init 12 = .ok (.putfield 12, 3) := by decide +kernel
theorem dX7_init_15 : decode cX7_init 15 = .ok (.aload_n 0, 1) := by decide +kernel
theorem dX7_init_16 : decode cX7_init 16 = .ok (.aload_n 1, 1) := by decide +kernel
theorem dX7_init_17 : decode cX7_init 17 = .ok (.putfield 18, 3) := by decide +kernel
theorem dX7_init_20 : decode cX7_init 20 = .ok (.return_, 1) := by decide +kernel
theorem dX7_read_0 : decode cX7_read 0 = .ok (.aload_n 0, 1) := by decide +kernel
theorem dX7_read_1 : decode cX7_read 1 = .ok (.getfield 12, 3) := by decide +kernel
theorem dX7_read_4 : decode cX7_read 4 = .ok (.aload_n 1, 1) := by decide +kernel
theorem dX7_read_5 : decode cX7_read 5 = .ok (.iload_n 2, 1) := by decide +kernel
theorem dX7_read_6 : decode cX7_read 6 = .ok (.invokevirtual 22, 3) := by decide +kernel
theorem dX7_read_9 : decode cX7_read 9 = .ok (.aload_n 3, 1) := by decide +kernel
theorem dX7_read_10 : decode cX7_read 10 = .ok (.invokevirtual 26, 3) := by decide +kernel
theorem dX7_read_13 : decode cX7_read 13 = .ok (.aload_n 0, 1) := by decide +kernel
theorem dX7_read_14 : decode cX7_read 14 = .ok (.aload_n 3, 1) := by decide +kernel
theorem dX7_read_15 : decode cX7_read 15 = .ok (.putfield 18, 3) := by decide +kernel
theorem dX7_read_18 : decode cX7_read 18 = .ok (.aload_n 0, 1) := by decide +kernel
theorem dX7_read_19 : decode cX7_read 19 = .ok (.iconst 0, 1) := by decide +kernel
theorem dX7_read_20 : decode cX7_read 20 = .ok (.putfield 31, 3) := by decide +kernel
theorem dX7_read_23 : decode cX7_read 23 = .ok (.aload_n 0, 1) := by decide +kernel
theorem dX7_read_24 : decode cX7_read 24 = .ok (.iconst 0, 1) := by decide +kernel
theorem dX7_read_25 : decode cX7_read 25 = .ok (.putfield 35, 3) := by decide +kernel
theorem dX7_read_28 : decode cX7_read 28 = .ok (.aload_n 0, 1) := by decide +kernel
theorem dX7_read_29 : decode cX7_read 29 = .ok (.iconst 1, 1) := by decide +kernel
theorem dX7_read_30 : decode cX7_read 30 = .ok (.putfield 38, 3) := by decide +kernel
theorem dX7_read_33 : decode cX7_read 33 = .ok (.aload_n 0, 1) := by decide +kernel
theorem dX7_read_34 : decode cX7_read 34 = .ok (.iconst 0, 1) := by decide +kernel
theorem dX7_read_35 : decode cX7_read 35 = .ok (.putfield 42, 3) := by decide +kernel
theorem dX7_read_38 : decode cX7_read 38 = .ok (.aload_n 0, 1) := by decide +kernel
theorem dX7_read_39 : decode cX7_read 39 = .ok (.iconst (-1), 1) := by decide +kernel
theorem dX7_read_40 : decode cX7_read 40 = .ok (.putfield 45, 3) := by decide +kernel
theorem dX7_read_43 : decode cX7_read 43 = .ok (.iconst 0, 1) := by decide +kernel
theorem dX7_read_44 : decode cX7_read 44 = .ok (.istore 4, 2) := by decide +kernel
theorem dX7_read_46 : decode cX7_read 46 = .ok (.iload 4, 2) := by decide +kernel
theorem dX7_read_48 : decode cX7_read 48 = .ok (.bipush 24, 2) := by decide +kernel
theorem dX7_read_50 : decode cX7_read 50 = .ok (.if_icmp .gt 28, 3) := by decide +kernel
theorem dX7_read_53 : decode cX7_read 53 = .ok (.aload_n 0, 1) := by decide +kernel
theorem dX7_read_54 : decode cX7_read 54 = .ok (.getfield 42, 3) := by decide +kernel
theorem dX7_read_57 : decode cX7_read 57 = .ok (.ifCond .ne 21, 3) := by decide +kernel
theorem dX7_read_60 : decode cX7_read 60 = .ok (.aload_n 0, 1) := by decide +kernel
theorem dX7_read_61 : decode cX7_read 61 = .ok (.invokevirtual 48, 3) := by decide +kernel
theorem dX7_read_64 : decode cX7_read 64 = .ok (.ifCond .eq 14, 3) := by decide +kernel
theorem dX7_read_67 : decode cX7_read 67 = .ok (.aload_n 0, 1) := by decide +kernel
theorem dX7_read_68 : decode cX7_read 68 = .ok (.invokevirtual 52, 3) := by decide +kernel
theorem dX7_read_71 : decode cX7_read 71 = .ok (.pop, 1) := by decide +kernel
theorem dX7_read_72 : decode cX7_read 72 = .ok (.iinc 4 1, 3) := by decide +kernel
theorem dX7_read_75 : decode cX7_read 75 = .ok (.goto (-29), 3) := by decide +kernel
theorem dX7_read_78 : decode cX7_read 78 = .ok (.return_, 1) := by decide +kernel
theorem dX7_kind_0 : decode cX7_kind 0 = .ok (.aload_n 0, 1) := by decide +kernel
theorem dX7_kind_1 : decode cX7_kind 1 = .ok (.getfield 12, 3) := by decide +kernel
theorem dX7_kind_4 : decode cX7_kind 4 = .ok (.aload_n 0, 1) := by decide +kernel
theorem dX7_kind_5 : decode cX7_kind 5 = .ok (.getfield 31, 3) := by decide +kernel
theorem dX7_kind_8 : decode cX7_kind 8 = .ok (.invokevirtual 56, 3) := by decide +kernel
theorem dX7_kind_11 : decode cX7_kind 11 = .ok (.ireturn, 1) := by decide +kernel
theorem dX7_fail_0 : decode cX7_fail 0 = .ok (.aload_n 0, 1) := by decide +kernel
theorem dX7_fail_1 : decode cX7_fail 1 = .ok (.iload_n 1, 1) := by decide +kernel
theorem dX7_fail_2 : decode cX7_fail 2 = .ok (.putfield 42, 3) := by decide +kernel
theorem dX7_fail_5 : decode cX7_fail 5 = .ok (.aload_n 0, 1) := by decide +kernel
theorem dX7_fail_6 : decode cX7_fail 6 = .ok (.aload_n 0, 1) := by decide +kernel
theorem dX7_fail_7 : decode cX7_fail 7 = .ok (.getfield 12, 3) := by decide +kernel
theorem dX7_fail_10 : decode cX7_fail 10 = .ok (.aload_n 0, 1) := by decide +kernel
theorem dX7_fail_11 : decode cX7_fail 11 = .ok (.getfield 31, 3) := by decide +kernel
theorem dX7_fail_14 : decode cX7_fail 14 = .ok (.invokevirtual 60, 3) := by decide +kernel
theorem dX7_fail_17 : decode cX7_fail 17 = .ok (.putfield 45, 3) := by decide +kernel
theorem dX7_fail_20 : decode cX7_fail 20 = .ok (.iconst 0, 1) := by decide +kernel
theorem dX7_fail_21 : decode cX7_fail 21 = .ok (.ireturn, 1) := by decide +kernel
theorem dX7_take_0 : decode cX7_take 0 = .ok (.aload_n 0, 1) := by decide +kernel
theorem dX7_take_1 : decode cX7_take 1 = .ok (.invokevirtual 48, 3) := by decide +kernel
theorem dX7_take_4 : decode cX7_take 4 = .ok (.iload_n 1, 1) := by decide +kernel
theorem dX7_take_5 : decode cX7_take 5 = .ok (.if_icmp .eq 9, 3) := by decide +kernel
theorem dX7_take_8 : decode cX7_take 8 = .ok (.aload_n 0, 1) := by decide +kernel
theorem dX7_take_9 : decode cX7_take 9 = .ok (.iconst 1, 1) := by decide +kernel
theorem dX7_take_10 : decode cX7_take 10 = .ok (.invokevirtual 63, 3) := by decide +kernel
theorem dX7_take_13 : decode cX7_take 13 = .ok (.ireturn, 1) := by decide +kernel
theorem dX7_take_14 : decode cX7_take 14 = .ok (.aload_n 0, 1) := by decide +kernel
theorem dX7_take_15 : decode cX7_take 15 = .ok (.dup, 1) := by decide +kernel
theorem dX7_take_16 : decode cX7_take 16 = .ok (.getfield 31, 3) := by decide +kernel
theorem dX7_take_19 : decode cX7_take 19 = .ok (.iconst 1, 1) := by decide +kernel
theorem dX7_take_20 : decode cX7_take 20 = .ok (.iadd, 1) := by decide +kernel
theorem dX7_take_21 : decode cX7_take 21 = .ok (.putfield 31, 3) := by decide +kernel
theorem dX7_take_24 : decode cX7_take 24 = .ok (.iconst 1, 1) := by decide +kernel
theorem dX7_take_25 : decode cX7_take 25 = .ok (.ireturn, 1) := by decide +kernel
theorem dX7_takeNumber_0 : decode cX7_takeNumber 0 = .ok (.aload_n 0, 1) := by decide +kernel
theorem dX7_takeNumber_1 : decode cX7_takeNumber 1 = .ok (.invokevirtual 48, 3) := by decide +kernel
theorem dX7_takeNumber_4 : decode cX7_takeNumber 4 = .ok (.iconst 2, 1) := by decide +kernel
theorem dX7_takeNumber_5 : decode cX7_takeNumber 5 = .ok (.if_icmp .eq 9, 3) := by decide +kernel
theorem dX7_takeNumber_8 : decode cX7_takeNumber 8 = .ok (.aload_n 0, 1) := by decide +kernel
theorem dX7_takeNumber_9 : decode cX7_takeNumber 9 = .ok (.iconst 1, 1) := by decide +kernel
theorem dX7_takeNumber_10 : decode cX7_takeNumber 10 = .ok (.invokevirtual 63, 3) := by decide +kernel
theorem dX7_takeNumber_13 : decode cX7_takeNumber 13 = .ok (.ireturn, 1) := by decide +kernel
theorem dX7_takeNumber_14 : decode cX7_takeNumber 14 = .ok (.aload_n 0, 1) := by decide +kernel
theorem dX7_takeNumber_15 : decode cX7_takeNumber 15 = .ok (.aload_n 0, 1) := by decide +kernel
theorem dX7_takeNumber_16 : decode cX7_takeNumber 16 = .ok (.getfield 12, 3) := by decide +kernel
theorem dX7_takeNumber_19 : decode cX7_takeNumber 19 = .ok (.aload_n 0, 1) := by decide +kernel
theorem dX7_takeNumber_20 : decode cX7_takeNumber 20 = .ok (.getfield 31, 3) := by decide +kernel
theorem dX7_takeNumber_23 : decode cX7_takeNumber 23 = .ok (.invokevirtual 67, 3) := by decide +kernel
theorem dX7_takeNumber_26 : decode cX7_takeNumber 26 = .ok (.putfield 70, 3) := by decide +kernel
theorem dX7_takeNumber_29 : decode cX7_takeNumber 29 = .ok (.aload_n 0, 1) := by decide +kernel
theorem dX7_takeNumber_30 : decode cX7_takeNumber 30 = .ok (.getfield 70, 3) := by decide +kernel
theorem dX7_takeNumber_33 : decode cX7_takeNumber 33 = .ok (.iload_n 1, 1) := by decide +kernel
theorem dX7_takeNumber_34 : decode cX7_takeNumber 34 = .ok (.if_icmp .lt 11, 3) := by decide +kernel
theorem dX7_takeNumber_37 : decode cX7_takeNumber 37 = .ok (.aload_n 0, 1) := by decide +kernel
theorem dX7_takeNumber_38 : decode cX7_takeNumber 38 = .ok (.getfield 70, 3) := by decide +kernel
theorem dX7_takeNumber_41 : decode cX7_takeNumber 41 = .ok (.iload_n 2, 1) := by decide +kernel
theorem dX7_takeNumber_42 : decode cX7_takeNumber 42 = .ok (.if_icmp .le 9, 3) := by decide +kernel
theorem dX7_takeNumber_45 : decode cX7_takeNumber 45 = .ok (.aload_n 0, 1) := by decide +kernel
theorem dX7_takeNumber_46 : decode cX7_takeNumber 46 = .ok (.iconst 2, 1) := by decide +kernel
theorem dX7_takeNumber_47 : decode cX7_takeNumber 47 = .ok (.invokevirtual 63, 3) := by decide +kernel
theorem dX7_takeNumber_50 : decode cX7_takeNumber 50 = .ok (.ireturn, 1) := by decide +kernel
theorem dX7_takeNumber_51 : decode cX7_takeNumber 51 = .ok (.aload_n 0, 1) := by decide +kernel
theorem dX7_takeNumber_52 : decode cX7_takeNumber 52 = .ok (.dup, 1) := by decide +kernel
theorem dX7_takeNumber_53 : decode cX7_takeNumber 53 = .ok (.getfield 31, 3) := by decide +kernel
theorem dX7_takeNumber_56 : decode cX7_takeNumber 56 = .ok (.iconst 1, 1) := by decide +kernel
theorem dX7_takeNumber_57 : decode cX7_takeNumber 57 = .ok (.iadd, 1) := by decide +kernel
theorem dX7_takeNumber_58 : decode cX7_takeNumber 58 = .ok (.putfield 31, 3) := by decide +kernel
theorem dX7_takeNumber_61 : decode cX7_takeNumber 61 = .ok (.iconst 1, 1) := by decide +kernel
theorem dX7_takeNumber_62 : decode cX7_takeNumber 62 = .ok (.ireturn, 1) := by decide +kernel
theorem dX7_readClause_0 : decode cX7_readClause 0 = .ok (.aload_n 0, 1) := by decide +kernel
theorem dX7_readClause_1 : decode cX7_readClause 1 = .ok (.invokevirtual 48, 3) := by decide +kernel
theorem dX7_readClause_4 : decode cX7_readClause 4 = .ok (.istore_n 1, 1) := by decide +kernel
theorem dX7_readClause_5 : decode cX7_readClause 5 = .ok (.iload_n 1, 1) := by decide +kernel
theorem dX7_readClause_6 : decode cX7_readClause 6 = .ok (.bipush 16, 2) := by decide +kernel
theorem dX7_readClause_8 : decode cX7_readClause 8 = .ok (.if_icmp .eq 9, 3) := by decide +kernel
theorem dX7_readClause_11 : decode cX7_readClause 11 = .ok (.iload_n 1, 1) := by decide +kernel
theorem dX7_readClause_12 : decode cX7_readClause 12 = .ok (.bipush 17, 2) := by decide +kernel
theorem dX7_readClause_14 : decode cX7_readClause 14 = .ok (.if_icmp .ne 7, 3) := by decide +kernel
theorem dX7_readClause_17 : decode cX7_readClause 17 = .ok (.iconst 1, 1) := by decide +kernel
theorem dX7_readClause_18 : decode cX7_readClause 18 = .ok (.goto 4, 3) := by decide +kernel
theorem dX7_readClause_21 : decode cX7_readClause 21 = .ok (.iconst 0, 1) := by decide +kernel
theorem dX7_readClause_22 : decode cX7_readClause 22 = .ok (.istore_n 2, 1) := by decide +kernel
theorem dX7_readClause_23 : decode cX7_readClause 23 = .ok (.iload_n 2, 1) := by decide +kernel
theorem dX7_readClause_24 : decode cX7_readClause 24 = .ok (.ifCond .ne 17, 3) := by decide +kernel
theorem dX7_readClause_27 : decode cX7_readClause 27 = .ok (.iload_n 1, 1) := by decide +kernel
theorem dX7_readClause_28 : decode cX7_readClause 28 = .ok (.invokestatic 73, 3) := by decide +kernel
theorem dX7_readClause_31 : decode cX7_readClause 31 = .ok (.iconst (-1), 1) := by decide +kernel
theorem dX7_readClause_32 : decode cX7_readClause 32 = .ok (.if_icmp .ne 9, 3) := by decide +kernel
theorem dX7_readClause_35 : decode cX7_readClause 35 = .ok (.aload_n 0, 1) := by decide +kernel
theorem dX7_readClause_36 : decode cX7_readClause 36 = .ok (.iconst 1, 1) := by decide +kernel
theorem dX7_readClause_37 : decode cX7_readClause 37 = .ok (.invokevirtual 63, 3) := by decide +kernel
theorem dX7_readClause_40 : decode cX7_readClause 40 = .ok (.ireturn, 1) := by decide +kernel
theorem dX7_readClause_41 : decode cX7_readClause 41 = .ok (.aload_n 0, 1) := by decide +kernel
theorem dX7_readClause_42 : decode cX7_readClause 42 = .ok (.getfield 18, 3) := by decide +kernel
theorem dX7_readClause_45 : decode cX7_readClause 45 = .ok (.iload_n 1, 1) := by decide +kernel
theorem dX7_readClause_46 : decode cX7_readClause 46 = .ok (.invokevirtual 76, 3) := by decide +kernel
theorem dX7_readClause_49 : decode cX7_readClause 49 = .ok (.ifCond .eq 9, 3) := by decide +kernel
theorem dX7_readClause_52 : decode cX7_readClause 52 = .ok (.aload_n 0, 1) := by decide +kernel
theorem dX7_readClause_53 : decode cX7_readClause 53 = .ok (.iconst 4, 1) := by decide +kernel
theorem dX7_readClause_54 : decode cX7_readClause 54 = .ok (.invokevirtual 63, 3) := by decide +kernel
theorem dX7_readClause_57 : decode cX7_readClause 57 = .ok (.ireturn, 1) := by decide +kernel
theorem dX7_readClause_58 : decode cX7_readClause 58 = .ok (.aload_n 0, 1) := by decide +kernel
theorem dX7_readClause_59 : decode cX7_readClause 59 = .ok (.getfield 18, 3) := by decide +kernel
theorem dX7_readClause_62 : decode cX7_readClause 62 = .ok (.getfield 79, 3) := by decide +kernel
theorem dX7_readClause_65 : decode cX7_readClause 65 = .ok (.bipush 24, 2) := by decide +kernel
theorem dX7_readClause_67 : decode cX7_readClause 67 = .ok (.if_icmp .lt 10, 3) := by decide +kernel
theorem dX7_readClause_70 : decode cX7_readClause 70 = .ok (.aload_n 0, 1) := by decide +kernel
theorem dX7_readClause_71 : decode cX7_readClause 71 = .ok (.bipush 6, 2) := by decide +kernel
theorem dX7_readClause_73 : decode cX7_readClause 73 = .ok (.invokevirtual 63, 3) := by decide +kernel
theorem dX7_readClause_76 : decode cX7_readClause 76 = .ok (.ireturn, 1) := by decide +kernel
theorem dX7_readClause_77 : decode cX7_readClause 77 = .ok (.aload_n 0, 1) := by decide +kernel
theorem dX7_readClause_78 : decode cX7_readClause 78 = .ok (.dup, 1) := by decide +kernel
theorem dX7_readClause_79 : decode cX7_readClause 79 = .ok (.getfield 31, 3) := by decide +kernel
theorem dX7_readClause_82 : decode cX7_readClause 82 = .ok (.iconst 1, 1) := by decide +kernel
theorem dX7_readClause_83 : decode cX7_readClause 83 = .ok (.iadd, 1) := by decide +kernel
theorem dX7_readClause_84 : decode cX7_readClause 84 = .ok (.putfield 31, 3) := by decide +kernel
theorem dX7_readClause_87 : decode cX7_readClause 87 = .ok (.iload_n 2, 1) := by decide +kernel
theorem dX7_readClause_88 : decode cX7_readClause 88 = .ok (.ifCond .eq 11, 3) := by decide +kernel
theorem dX7_readClause_91 : decode cX7_readClause 91 = .ok (.aload_n 0, 1) := by decide +kernel
theorem dX7_readClause_92 : decode cX7_readClause 92 = .ok (.iload_n 1, 1) := by decide +kernel
theorem dX7_readClause_93 : decode cX7_readClause 93 = .ok (.invokevirtual 82, 3) := by decide +kernel
theorem dX7_readClause_96 : decode cX7_readClause 96 = .ok (.goto 8, 3) := by decide +kernel
theorem dX7_readClause_99 : decode cX7_readClause 99 = .ok (.aload_n 0, 1) := by decide +kernel
theorem dX7_readClause_100 : decode cX7_readClause 100 = .ok (.iload_n 1, 1) := by decide +kernel
theorem dX7_readClause_101 : decode cX7_readClause 101 = .ok (.invokevirtual 85, 3) := by decide +kernel
theorem dX7_readClause_104 : decode cX7_readClause 104 = .ok (.ireturn, 1) := by decide +kernel
theorem dX7_readLaw_0 : decode cX7_readLaw 0 = .ok (.aload_n 0, 1) := by decide +kernel
theorem dX7_readLaw_1 : decode cX7_readLaw 1 = .ok (.getfield 18, 3) := by decide +kernel
theorem dX7_readLaw_4 : decode cX7_readLaw 4 = .ok (.getfield 88, 3) := by decide +kernel
theorem dX7_readLaw_7 : decode cX7_readLaw 7 = .ok (.istore_n 2, 1) := by decide +kernel
theorem dX7_readLaw_8 : decode cX7_readLaw 8 = .ok (.aload_n 0, 1) := by decide +kernel
theorem dX7_readLaw_9 : decode cX7_readLaw 9 = .ok (.iload_n 1, 1) := by decide +kernel
theorem dX7_readLaw_10 : decode cX7_readLaw 10 = .ok (.putfield 91, 3) := by decide +kernel
theorem dX7_readLaw_13 : decode cX7_readLaw 13 = .ok (.aload_n 0, 1) := by decide +kernel
theorem dX7_readLaw_14 : decode cX7_readLaw 14 = .ok (.invokevirtual 94, 3) := by decide +kernel
theorem dX7_readLaw_17 : decode cX7_readLaw 17 = .ok (.ifCond .eq 12, 3) := by decide +kernel
theorem dX7_readLaw_20 : decode cX7_readLaw 20 = .ok (.aload_n 0, 1) := by decide +kernel
theorem dX7_readLaw_21 : decode cX7_readLaw 21 = .ok (.bipush 15, 2) := by decide +kernel
theorem dX7_readLaw_23 : decode cX7_readLaw 23 = .ok (.invokevirtual 97, 3) := by decide +kernel
theorem dX7_readLaw_26 : decode cX7_readLaw 26 = .ok (.ifCond .ne 5, 3) := by decide +kernel
theorem dX7_readLaw_29 : decode cX7_readLaw 29 = .ok (.iconst 0, 1) := by decide +kernel
theorem dX7_readLaw_30 : decode cX7_readLaw 30 = .ok (.ireturn, 1) := by decide +kernel
theorem dX7_readLaw_31 : decode cX7_readLaw 31 = .ok (.aload_n 0, 1) := by decide +kernel
theorem dX7_readLaw_32 : decode cX7_readLaw 32 = .ok (.getfield 18, 3) := by decide +kernel
theorem dX7_readLaw_35 : decode cX7_readLaw 35 = .ok (.iload_n 1, 1) := by decide +kernel
theorem dX7_readLaw_36 : decode cX7_readLaw 36 = .ok (.iload_n 2, 1) := by decide +kernel
theorem dX7_readLaw_37 : decode cX7_readLaw 37 = .ok (.invokevirtual 100, 3) := by decide +kernel
theorem dX7_readLaw_40 : decode cX7_readLaw 40 = .ok (.aload_n 0, 1) := by decide +kernel
theorem dX7_readLaw_41 : decode cX7_readLaw 41 = .ok (.getfield 18, 3) := by decide +kernel
theorem dX7_readLaw_44 : decode cX7_readLaw 44 = .ok (.iload_n 1, 1) := by decide +kernel
theorem dX7_readLaw_45 : decode cX7_readLaw 45 = .ok (.iconst 0, 1) := by decide +kernel
theorem dX7_readLaw_46 : decode cX7_readLaw 46 = .ok (.iconst 0, 1) := by decide +kernel
theorem dX7_readLaw_47 : decode cX7_readLaw 47 = .ok (.invokevirtual 104, 3) := by decide +kernel
theorem dX7_readLaw_50 : decode cX7_readLaw 50 = .ok (.ireturn, 1) := by decide +kernel
theorem dX7_readDeed_0 : decode cX7_readDeed 0 = .ok (.aload_n 0, 1) := by decide +kernel
theorem dX7_readDeed_1 : decode cX7_readDeed 1 = .ok (.iload_n 1, 1) := by decide +kernel
theorem dX7_readDeed_2 : decode cX7_readDeed 2 = .ok (.bipush 28, 2) := by decide +kernel
theorem dX7_readDeed_4 : decode cX7_readDeed 4 = .ok (.if_icmp .ne 7, 3) := by decide +kernel
theorem dX7_readDeed_7 : decode cX7_readDeed 7 = .ok (.iconst 1, 1) := by decide +kernel
theorem dX7_readDeed_8 : decode cX7_readDeed 8 = .ok (.goto 4, 3) := by decide +kernel
theorem dX7_readDeed_11 : decode cX7_readDeed 11 = .ok (.iconst 0, 1) := by decide +kernel
theorem dX7_readDeed_12 : decode cX7_readDeed 12 = .ok (.iload_n 1, 1) := by decide +kernel
theorem dX7_readDeed_13 : decode cX7_readDeed 13 = .ok (.invokestatic 73, 3) := by decide +kernel
theorem dX7_readDeed_16 : decode cX7_readDeed 16 = .ok (.invokevirtual 108, 3) := by decide +kernel
theorem dX7_readDeed_19 : decode cX7_readDeed 19 = .ok (.ifCond .ne 5, 3) := by decide +kernel
theorem dX7_readDeed_22 : decode cX7_readDeed 22 = .ok (.iconst 0, 1) := by decide +kernel
theorem dX7_readDeed_23 : decode cX7_readDeed 23 = .ok (.ireturn, 1) := by decide +kernel
theorem dX7_readDeed_24 : decode cX7_readDeed 24 = .ok (.aload_n 0, 1) := by decide +kernel
theorem dX7_readDeed_25 : decode cX7_readDeed 25 = .ok (.getfield 70, 3) := by decide +kernel
theorem dX7_readDeed_28 : decode cX7_readDeed 28 = .ok (.istore_n 2, 1) := by decide +kernel
theorem dX7_readDeed_29 : decode cX7_readDeed 29 = .ok (.iconst 0, 1) := by decide +kernel
theorem dX7_readDeed_30 : decode cX7_readDeed 30 = .ok (.istore_n 3, 1) := by decide +kernel
theorem dX7_readDeed_31 : decode cX7_readDeed 31 = .ok (.iload_n 1, 1) := by decide +kernel
theorem dX7_readDeed_32 : decode cX7_readDeed 32 = .ok (.invokestatic 112, 3) := by decide +kernel
theorem dX7_readDeed_35 : decode cX7_readDeed 35 = .ok (.istore 4, 2) := by decide +kernel
theorem dX7_readDeed_37 : decode cX7_readDeed 37 = .ok (.iload 4, 2) := by decide +kernel
theorem dX7_readDeed_39 : decode cX7_readDeed 39 = .ok (.ifCond .eq 31, 3) := by decide +kernel
theorem dX7_readDeed_42 : decode cX7_readDeed 42 = .ok (.aload_n 0, 1) := by decide +kernel
theorem dX7_readDeed_43 : decode cX7_readDeed 43 = .ok (.iload 4, 2) := by decide +kernel
theorem dX7_readDeed_45 : decode cX7_readDeed 45 = .ok (.invokevirtual 97, 3) := by decide +kernel
theorem dX7_readDeed_48 : decode cX7_readDeed 48 = .ok (.ifCond .eq 15, 3) := by decide +kernel
theorem dX7_readDeed_51 : decode cX7_readDeed 51 = .ok (.aload_n 0, 1) := by decide +kernel
theorem dX7_readDeed_52 : decode cX7_readDeed 52 = .ok (.iconst 0, 1) := by decide +kernel
theorem dX7_readDeed_53 : decode cX7_readDeed 53 = .ok (.iload_n 1, 1) := by decide +kernel
theorem dX7_readDeed_54 : decode cX7_readDeed 54 = .ok (.invokestatic 115, 3) := by decide +kernel
theorem dX7_readDeed_57 : decode cX7_readDeed 57 = .ok (.invokevirtual 108, 3) := by decide +kernel
theorem dX7_readDeed_60 : decode cX7_readDeed 60 = .ok (.ifCond .ne 5, 3) := by decide +kernel
theorem dX7_readDeed_63 : decode cX7_readDeed 63 = .ok (.iconst 0, 1) := by decide +kernel
theorem dX7_readDeed_64 : decode cX7_readDeed 64 = .ok (.ireturn, 1) := by decide +kernel
theorem dX7_readDeed_65 : decode cX7_readDeed 65 = .ok (.aload_n 0, 1) := by decide +kernel
theorem dX7_readDeed_66 : decode cX7_readDeed 66 = .ok (.getfield 70, 3) := by decide +kernel
theorem dX7_readDeed_69 : decode cX7_readDeed 69 = .ok (.istore_n 3, 1) := by decide +kernel
theorem dX7_readDeed_70 : decode cX7_readDeed 70 = .ok (.aload_n 0, 1) := by decide +kernel
theorem dX7_readDeed_71 : decode cX7_readDeed 71 = .ok (.bipush 15, 2) := by decide +kernel
theorem dX7_readDeed_73 : decode cX7_readDeed 73 = .ok (.invokevirtual 97, 3) := by decide +kernel
theorem dX7_readDeed_76 : decode cX7_readDeed 76 = .ok (.ifCond .eq 20, 3) := by decide +kernel
theorem dX7_readDeed_79 : decode cX7_readDeed 79 = .ok (.aload_n 0, 1) := by decide +kernel
theorem dX7_readDeed_80 : decode cX7_readDeed 80 = .ok (.getfield 18, 3) := by decide +kernel
theorem dX7_readDeed_83 : decode cX7_readDeed 83 = .ok (.iload_n 1, 1) := by decide +kernel
theorem dX7_readDeed_84 : decode cX7_readDeed 84 = .ok (.iload_n 2, 1) := by decide +kernel
theorem dX7_readDeed_85 : decode cX7_readDeed 85 = .ok (.iload_n 3, 1) := by decide +kernel
theorem dX7_readDeed_86 : decode cX7_readDeed 86 = .ok (.invokevirtual 104, 3) := by decide +kernel
theorem dX7_readDeed_89 : decode cX7_readDeed 89 = .ok (.ifCond .eq 7, 3) := by decide +kernel
theorem dX7_readDeed_92 : decode cX7_readDeed 92 = .ok (.iconst 1, 1) := by decide +kernel
theorem dX7_readDeed_93 : decode cX7_readDeed 93 = .ok (.goto 4, 3) := by decide +kernel
theorem dX7_readDeed_96 : decode cX7_readDeed 96 = .ok (.iconst 0, 1) := by decide +kernel
theorem dX7_readDeed_97 : decode cX7_readDeed 97 = .ok (.ireturn, 1) := by decide +kernel
theorem dX7_mostFirst_0 : decode cX7_mostFirst 0 = .ok (.iload_n 0, 1) := by decide +kernel
theorem dX7_mostFirst_1 : decode cX7_mostFirst 1 = .ok (.tableswitch 70 18 28 #[59, 70, 62, 70, 62, 70, 65, 62, 70, 62, 67], 59) := by decide +kernel
theorem dX7_mostFirst_60 : decode cX7_mostFirst 60 = .ok (.bipush 99, 2) := by decide +kernel
theorem dX7_mostFirst_62 : decode cX7_mostFirst 62 = .ok (.ireturn, 1) := by decide +kernel
theorem dX7_mostFirst_63 : decode cX7_mostFirst 63 = .ok (.bipush 11, 2) := by decide +kernel
theorem dX7_mostFirst_65 : decode cX7_mostFirst 65 = .ok (.ireturn, 1) := by decide +kernel
theorem dX7_mostFirst_66 : decode cX7_mostFirst 66 = .ok (.iconst 4, 1) := by decide +kernel
theorem dX7_mostFirst_67 : decode cX7_mostFirst 67 = .ok (.ireturn, 1) := by decide +kernel
theorem dX7_mostFirst_68 : decode cX7_mostFirst 68 = .ok (.bipush 60, 2) := by decide +kernel
theorem dX7_mostFirst_70 : decode cX7_mostFirst 70 = .ok (.ireturn, 1) := by decide +kernel
theorem dX7_mostFirst_71 : decode cX7_mostFirst 71 = .ok (.iconst (-1), 1) := by decide +kernel
theorem dX7_mostFirst_72 : decode cX7_mostFirst 72 = .ok (.ireturn, 1) := by decide +kernel
theorem dX7_linkOf_0 : decode cX7_linkOf 0 = .ok (.iload_n 0, 1) := by decide +kernel
theorem dX7_linkOf_1 : decode cX7_linkOf 1 = .ok (.tableswitch 67 18 27 #[55, 67, 58, 67, 61, 67, 67, 64, 67, 64], 55) := by decide +kernel
theorem dX7_linkOf_56 : decode cX7_linkOf 56 = .ok (.bipush 19, 2) := by decide +kernel
theorem dX7_linkOf_58 : decode cX7_linkOf 58 = .ok (.ireturn, 1) := by decide +kernel
theorem dX7_linkOf_59 : decode cX7_linkOf 59 = .ok (.bipush 21, 2) := by decide +kernel
theorem dX7_linkOf_61 : decode cX7_linkOf 61 = .ok (.ireturn, 1) := by decide +kernel
theorem dX7_linkOf_62 : decode cX7_linkOf 62 = .ok (.bipush 23, 2) := by decide +kernel
theorem dX7_linkOf_64 : decode cX7_linkOf 64 = .ok (.ireturn, 1) := by decide +kernel
theorem dX7_linkOf_65 : decode cX7_linkOf 65 = .ok (.bipush 26, 2) := by decide +kernel
theorem dX7_linkOf_67 : decode cX7_linkOf 67 = .ok (.ireturn, 1) := by decide +kernel
theorem dX7_linkOf_68 : decode cX7_linkOf 68 = .ok (.iconst 0, 1) := by decide +kernel
theorem dX7_linkOf_69 : decode cX7_linkOf 69 = .ok (.ireturn, 1) := by decide +kernel
theorem dX7_mostSecond_0 : decode cX7_mostSecond 0 = .ok (.iload_n 0, 1) := by decide +kernel
theorem dX7_mostSecond_1 : decode cX7_mostSecond 1 = .ok (.tableswitch 41 18 22 #[35, 41, 35, 41, 38], 35) := by decide +kernel
theorem dX7_mostSecond_36 : decode cX7_mostSecond 36 = .ok (.bipush 11, 2) := by decide +kernel
theorem dX7_mostSecond_38 : decode cX7_mostSecond 38 = .ok (.ireturn, 1) := by decide +kernel
theorem dX7_mostSecond_39 : decode cX7_mostSecond 39 = .ok (.bipush 99, 2) := by decide +kernel
theorem dX7_mostSecond_41 : decode cX7_mostSecond 41 = .ok (.ireturn, 1) := by decide +kernel
theorem dX7_mostSecond_42 : decode cX7_mostSecond 42 = .ok (.iconst 4, 1) := by decide +kernel
theorem dX7_mostSecond_43 : decode cX7_mostSecond 43 = .ok (.ireturn, 1) := by decide +kernel
theorem dX7_enter_0 : decode cX7_enter 0 = .ok (.aload_n 0, 1) := by decide +kernel
theorem dX7_enter_1 : decode cX7_enter 1 = .ok (.getfield 35, 3) := by decide +kernel
theorem dX7_enter_4 : decode cX7_enter 4 = .ok (.bipush 8, 2) := by decide +kernel
theorem dX7_enter_6 : decode cX7_enter 6 = .ok (.if_icmp .lt 9, 3) := by decide +kernel
theorem dX7_enter_9 : decode cX7_enter 9 = .ok (.aload_n 0, 1) := by decide +kernel
theorem dX7_enter_10 : decode cX7_enter 10 = .ok (.iconst 3, 1) := by decide +kernel
theorem dX7_enter_11 : decode cX7_enter 11 = .ok (.invokevirtual 63, 3) := by decide +kernel
theorem dX7_enter_14 : decode cX7_enter 14 = .ok (.ireturn, 1) := by decide +kernel
theorem dX7_enter_15 : decode cX7_enter 15 = .ok (.aload_n 0, 1) := by decide +kernel
theorem dX7_enter_16 : decode cX7_enter 16 = .ok (.dup, 1) := by decide +kernel
theorem dX7_enter_17 : decode cX7_enter 17 = .ok (.getfield 35, 3) := by decide +kernel
theorem dX7_enter_20 : decode cX7_enter 20 = .ok (.iconst 1, 1) := by decide +kernel
theorem dX7_enter_21 : decode cX7_enter 21 = .ok (.iadd, 1) := by decide +kernel
theorem dX7_enter_22 : decode cX7_enter 22 = .ok (.putfield 35, 3) := by decide +kernel
theorem dX7_enter_25 : decode cX7_enter 25 = .ok (.aload_n 0, 1) := by decide +kernel
theorem dX7_enter_26 : decode cX7_enter 26 = .ok (.dup, 1) := by decide +kernel
theorem dX7_enter_27 : decode cX7_enter 27 = .ok (.getfield 31, 3) := by decide +kernel
theorem dX7_enter_30 : decode cX7_enter 30 = .ok (.iconst 1, 1) := by decide +kernel
theorem dX7_enter_31 : decode cX7_enter 31 = .ok (.iadd, 1) := by decide +kernel
theorem dX7_enter_32 : decode cX7_enter 32 = .ok (.putfield 31, 3) := by decide +kernel
theorem dX7_enter_35 : decode cX7_enter 35 = .ok (.iconst 1, 1) := by decide +kernel
theorem dX7_enter_36 : decode cX7_enter 36 = .ok (.ireturn, 1) := by decide +kernel
theorem dX7_leave_0 : decode cX7_leave 0 = .ok (.aload_n 0, 1) := by decide +kernel
theorem dX7_leave_1 : decode cX7_leave 1 = .ok (.dup, 1) := by decide +kernel
theorem dX7_leave_2 : decode cX7_leave 2 = .ok (.getfield 35, 3) := by decide +kernel
theorem dX7_leave_5 : decode cX7_leave 5 = .ok (.iconst 1, 1) := by decide +kernel
theorem dX7_leave_6 : decode cX7_leave 6 = .ok (.isub, 1) := by decide +kernel
theorem dX7_leave_7 : decode cX7_leave 7 = .ok (.putfield 35, 3) := by decide +kernel
theorem dX7_leave_10 : decode cX7_leave 10 = .ok (.iconst 1, 1) := by decide +kernel
theorem dX7_leave_11 : decode cX7_leave 11 = .ok (.ireturn, 1) := by decide +kernel
theorem dX7_readSum_0 : decode cX7_readSum 0 = .ok (.aload_n 0, 1) := by decide +kernel
theorem dX7_readSum_1 : decode cX7_readSum 1 = .ok (.invokevirtual 118, 3) := by decide +kernel
theorem dX7_readSum_4 : decode cX7_readSum 4 = .ok (.ifCond .ne 5, 3) := by decide +kernel
theorem dX7_readSum_7 : decode cX7_readSum 7 = .ok (.iconst 0, 1) := by decide +kernel
theorem dX7_readSum_8 : decode cX7_readSum 8 = .ok (.ireturn, 1) := by decide +kernel
theorem dX7_readSum_9 : decode cX7_readSum 9 = .ok (.iconst 0, 1) := by decide +kernel
theorem dX7_readSum_10 : decode cX7_readSum 10 = .ok (.istore_n 1, 1) := by decide +kernel
theorem dX7_readSum_11 : decode cX7_readSum 11 = .ok (.iload_n 1, 1) := by decide +kernel
theorem dX7_readSum_12 : decode cX7_readSum 12 = .ok (.sipush 300, 3) := by decide +kernel
theorem dX7_readSum_15 : decode cX7_readSum 15 = .ok (.if_icmp .ge 63, 3) := by decide +kernel
theorem dX7_readSum_18 : decode cX7_readSum 18 = .ok (.aload_n 0, 1) := by decide +kernel
theorem dX7_readSum_19 : decode cX7_readSum 19 = .ok (.invokevirtual 48, 3) := by decide +kernel
theorem dX7_readSum_22 : decode cX7_readSum 22 = .ok (.bipush 9, 2) := by decide +kernel
theorem dX7_readSum_24 : decode cX7_readSum 24 = .ok (.if_icmp .eq 12, 3) := by decide +kernel
theorem dX7_readSum_27 : decode cX7_readSum 27 = .ok (.aload_n 0, 1) := by decide +kernel
theorem dX7_readSum_28 : decode cX7_readSum 28 = .ok (.invokevirtual 48, 3) := by decide +kernel
theorem dX7_readSum_31 : decode cX7_readSum 31 = .ok (.bipush 10, 2) := by decide +kernel
theorem dX7_readSum_33 : decode cX7_readSum 33 = .ok (.if_icmp .ne 45, 3) := by decide +kernel
theorem dX7_readSum_36 : decode cX7_readSum 36 = .ok (.aload_n 0, 1) := by decide +kernel
theorem dX7_readSum_37 : decode cX7_readSum 37 = .ok (.invokevirtual 48, 3) := by decide +kernel
theorem dX7_readSum_40 : decode cX7_readSum 40 = .ok (.istore_n 2, 1) := by decide +kernel
theorem dX7_readSum_41 : decode cX7_readSum 41 = .ok (.aload_n 0, 1) := by decide +kernel
theorem dX7_readSum_42 : decode cX7_readSum 42 = .ok (.dup, 1) := by decide +kernel
theorem dX7_readSum_43 : decode cX7_readSum 43 = .ok (.getfield 31, 3) := by decide +kernel
theorem dX7_readSum_46 : decode cX7_readSum 46 = .ok (.iconst 1, 1) := by decide +kernel
theorem dX7_readSum_47 : decode cX7_readSum 47 = .ok (.iadd, 1) := by decide +kernel
theorem dX7_readSum_48 : decode cX7_readSum 48 = .ok (.putfield 31, 3) := by decide +kernel
theorem dX7_readSum_51 : decode cX7_readSum 51 = .ok (.aload_n 0, 1) := by decide +kernel
theorem dX7_readSum_52 : decode cX7_readSum 52 = .ok (.invokevirtual 118, 3) := by decide +kernel
theorem dX7_readSum_55 : decode cX7_readSum 55 = .ok (.ifCond .eq 15, 3) := by decide +kernel
theorem dX7_readSum_58 : decode cX7_readSum 58 = .ok (.aload_n 0, 1) := by decide +kernel
theorem dX7_readSum_59 : decode cX7_readSum 59 = .ok (.getfield 18, 3) := by decide +kernel
theorem dX7_readSum_62 : decode cX7_readSum 62 = .ok (.iload_n 2, 1) := by decide +kernel
theorem dX7_readSum_63 : decode cX7_readSum 63 = .ok (.iconst 0, 1) := by decide +kernel
theorem dX7_readSum_64 : decode cX7_readSum 64 = .ok (.invokevirtual 121, 3) := by decide +kernel
theorem dX7_readSum_67 : decode cX7_readSum 67 = .ok (.ifCond .ne 5, 3) := by decide +kernel
theorem dX7_readSum_70 : decode cX7_readSum 70 = .ok (.iconst 0, 1) := by decide +kernel
theorem dX7_readSum_71 : decode cX7_readSum 71 = .ok (.ireturn, 1) := by decide +kernel
theorem dX7_readSum_72 : decode cX7_readSum 72 = .ok (.iinc 1 1, 3) := by decide +kernel
theorem dX7_readSum_75 : decode cX7_readSum 75 = .ok (.goto (-64), 3) := by decide +kernel
theorem dX7_readSum_78 : decode cX7_readSum 78 = .ok (.iconst 1, 1) := by decide +kernel
theorem dX7_readSum_79 : decode cX7_readSum 79 = .ok (.ireturn, 1) := by decide +kernel
theorem dX7_readProduct_0 : decode cX7_readProduct 0 = .ok (.aload_n 0, 1) := by decide +kernel
theorem dX7_readProduct_1 : decode cX7_readProduct 1 = .ok (.invokevirtual 124, 3) := by decide +kernel
theorem dX7_readProduct_4 : decode cX7_readProduct 4 = .ok (.ifCond .ne 5, 3) := by decide +kernel
theorem dX7_readProduct_7 : decode cX7_readProduct 7 = .ok (.iconst 0, 1) := by decide +kernel
theorem dX7_readProduct_8 : decode cX7_readProduct 8 = .ok (.ireturn, 1) := by decide +kernel
theorem dX7_readProduct_9 : decode cX7_readProduct 9 = .ok (.iconst 0, 1) := by decide +kernel
theorem dX7_readProduct_10 : decode cX7_readProduct 10 = .ok (.istore_n 1, 1) := by decide +kernel
theorem dX7_readProduct_11 : decode cX7_readProduct 11 = .ok (.iload_n 1, 1) := by decide +kernel
theorem dX7_readProduct_12 : decode cX7_readProduct 12 = .ok (.sipush 300, 3) := by decide +kernel
theorem dX7_readProduct_15 : decode cX7_readProduct 15 = .ok (.if_icmp .ge 63, 3) := by decide +kernel
theorem dX7_readProduct_18 : decode cX7_readProduct 18 = .ok (.aload_n 0, 1) := by decide +kernel
theorem dX7_readProduct_19 : decode cX7_readProduct 19 = .ok (.invokevirtual 48, 3) := by decide +kernel
theorem dX7_readProduct_22 : decode cX7_readProduct 22 = .ok (.bipush 11, 2) := by decide +kernel
theorem dX7_readProduct_24 : decode cX7_readProduct 24 = .ok (.if_icmp .eq 12, 3) := by decide +kernel
theorem dX7_readProduct_27 : decode cX7_readProduct 27 = .ok (.aload_n 0, 1) := by decide +kernel
theorem dX7_readProduct_28 : decode cX7_readProduct 28 = .ok (.invokevirtual 48, 3) := by decide +kernel
theorem dX7_readProduct_31 : decode cX7_readProduct 31 = .ok (.bipush 12, 2) := by decide +kernel
theorem dX7_readProduct_33 : decode cX7_readProduct 33 = .ok (.if_icmp .ne 45, 3) := by decide +kernel
theorem dX7_readProduct_36 : decode cX7_readProduct 36 = .ok (.aload_n 0, 1) := by decide +kernel
theorem dX7_readProduct_37 : decode cX7_readProduct 37 = .ok (.invokevirtual 48, 3) := by decide +kernel
theorem dX7_readProduct_40 : decode cX7_readProduct 40 = .ok (.istore_n 2, 1) := by decide +kernel
theorem dX7_readProduct_41 : decode cX7_readProduct 41 = .ok (.aload_n 0, 1) := by decide +kernel
theorem dX7_readProduct_42 : decode cX7_readProduct 42 = .ok (.dup, 1) := by decide +kernel
theorem dX7_readProduct_43 : decode cX7_readProduct 43 = .ok (.getfield 31, 3) := by decide +kernel
theorem dX7_readProduct_46 : decode cX7_readProduct 46 = .ok (.iconst 1, 1) := by decide +kernel
theorem dX7_readProduct_47 : decode cX7_readProduct 47 = .ok (.iadd, 1) := by decide +kernel
theorem dX7_readProduct_48 : decode cX7_readProduct 48 = .ok (.putfield 31, 3) := by decide +kernel
theorem dX7_readProduct_51 : decode cX7_readProduct 51 = .ok (.aload_n 0, 1) := by decide +kernel
theorem dX7_readProduct_52 : decode cX7_readProduct 52 = .ok (.invokevirtual 124, 3) := by decide +kernel
theorem dX7_readProduct_55 : decode cX7_readProduct 55 = .ok (.ifCond .eq 15, 3) := by decide +kernel
theorem dX7_readProduct_58 : decode cX7_readProduct 58 = .ok (.aload_n 0, 1) := by decide +kernel
theorem dX7_readProduct_59 : decode cX7_readProduct 59 = .ok (.getfield 18, 3) := by decide +kernel
theorem dX7_readProduct_62 : decode cX7_readProduct 62 = .ok (.iload_n 2, 1) := by decide +kernel
theorem dX7_readProduct_63 : decode cX7_readProduct 63 = .ok (.iconst 0, 1) := by decide +kernel
theorem dX7_readProduct_64 : decode cX7_readProduct 64 = .ok (.invokevirtual 121, 3) := by decide +kernel
theorem dX7_readProduct_67 : decode cX7_readProduct 67 = .ok (.ifCond .ne 5, 3) := by decide +kernel
theorem dX7_readProduct_70 : decode cX7_readProduct 70 = .ok (.iconst 0, 1) := by decide +kernel
theorem dX7_readProduct_71 : decode cX7_readProduct 71 = .ok (.ireturn, 1) := by decide +kernel
theorem dX7_readProduct_72 : decode cX7_readProduct 72 = .ok (.iinc 1 1, 3) := by decide +kernel
theorem dX7_readProduct_75 : decode cX7_readProduct 75 = .ok (.goto (-64), 3) := by decide +kernel
theorem dX7_readProduct_78 : decode cX7_readProduct 78 = .ok (.iconst 1, 1) := by decide +kernel
theorem dX7_readProduct_79 : decode cX7_readProduct 79 = .ok (.ireturn, 1) := by decide +kernel
theorem dX7_readOne_0 : decode cX7_readOne 0 = .ok (.aload_n 0, 1) := by decide +kernel
theorem dX7_readOne_1 : decode cX7_readOne 1 = .ok (.invokevirtual 48, 3) := by decide +kernel
theorem dX7_readOne_4 : decode cX7_readOne 4 = .ok (.lookupswitch 269 #[(2, 60), (10, 128), (13, 92), (29, 168), (30, 224), (31, 264)], 60) := by decide +kernel
theorem dX7_readOne_64 : decode cX7_readOne 64 = .ok (.aload_n 0, 1) := by decide +kernel
theorem dX7_readOne_65 : decode cX7_readOne 65 = .ok (.iconst 0, 1) := by decide +kernel
theorem dX7_readOne_66 : decode cX7_readOne 66 = .ok (.sipush 9999, 3) := by decide +kernel
theorem dX7_readOne_69 : decode cX7_readOne 69 = .ok (.invokevirtual 108, 3) := by decide +kernel
theorem dX7_readOne_72 : decode cX7_readOne 72 = .ok (.ifCond .eq 22, 3) := by decide +kernel
theorem dX7_readOne_75 : decode cX7_readOne 75 = .ok (.aload_n 0, 1) := by decide +kernel
theorem dX7_readOne_76 : decode cX7_readOne 76 = .ok (.getfield 18, 3) := by decide +kernel
theorem dX7_readOne_79 : decode cX7_readOne 79 = .ok (.iconst 2, 1) := by decide +kernel
theorem dX7_readOne_80 : decode cX7_readOne 80 = .ok (.aload_n 0, 1) := by decide +kernel
theorem dX7_readOne_81 : decode cX7_readOne 81 = .ok (.getfield 70, 3) := by decide +kernel
theorem dX7_readOne_84 : decode cX7_readOne 84 = .ok (.invokevirtual 121, 3) := by decide +kernel
theorem dX7_readOne_87 : decode cX7_readOne 87 = .ok (.ifCond .eq 7, 3) := by decide +kernel
theorem dX7_readOne_90 : decode cX7_readOne 90 = .ok (.iconst 1, 1) := by decide +kernel
theorem dX7_readOne_91 : decode cX7_readOne 91 = .ok (.goto 4, 3) := by decide +kernel
theorem dX7_readOne_94 : decode cX7_readOne 94 = .ok (.iconst 0, 1) := by decide +kernel
theorem dX7_readOne_95 : decode cX7_readOne 95 = .ok (.ireturn, 1) := by decide +kernel
theorem dX7_readOne_96 : decode cX7_readOne 96 = .ok (.aload_n 0, 1) := by decide +kernel
theorem dX7_readOne_97 : decode cX7_readOne 97 = .ok (.invokevirtual 127, 3) := by decide +kernel
theorem dX7_readOne_100 : decode cX7_readOne 100 = .ok (.ifCond .eq 30, 3) := by decide +kernel
theorem dX7_readOne_103 : decode cX7_readOne 103 = .ok (.aload_n 0, 1) := by decide +kernel
theorem dX7_readOne_104 : decode cX7_readOne 104 = .ok (.invokevirtual 94, 3) := by decide +kernel
theorem dX7_readOne_107 : decode cX7_readOne 107 = .ok (.ifCond .eq 23, 3) := by decide +kernel
theorem dX7_readOne_110 : decode cX7_readOne 110 = .ok (.aload_n 0, 1) := by decide +kernel
theorem dX7_readOne_111 : decode cX7_readOne 111 = .ok (.bipush 14, 2) := by decide +kernel
theorem dX7_readOne_113 : decode cX7_readOne 113 = .ok (.invokevirtual 97, 3) := by decide +kernel
theorem dX7_readOne_116 : decode cX7_readOne 116 = .ok (.ifCond .eq 14, 3) := by decide +kernel
theorem dX7_readOne_119 : decode cX7_readOne 119 = .ok (.aload_n 0, 1) := by decide +kernel
theorem dX7_readOne_120 : decode cX7_readOne 120 = .ok (.invokevirtual 130, 3) := by decide +kernel
theorem dX7_readOne_123 : decode cX7_readOne 123 = .ok (.ifCond .eq 7, 3) := by decide +kernel
theorem dX7_readOne_126 : decode cX7_readOne 126 = .ok (.iconst 1, 1) := by decide +kernel
theorem dX7_readOne_127 : decode cX7_readOne 127 = .ok (.goto 4, 3) := by decide +kernel
theorem dX7_readOne_130 : decode cX7_readOne 130 = .ok (.iconst 0, 1) := by decide +kernel
theorem dX7_readOne_131 : decode cX7_readOne 131 = .ok (.ireturn, 1) := by decide +kernel
theorem dX7_readOne_132 : decode cX7_readOne 132 = .ok (.aload_n 0, 1) := by decide +kernel
theorem dX7_readOne_133 : decode cX7_readOne 133 = .ok (.invokevirtual 127, 3) := by decide +kernel
theorem dX7_readOne_136 : decode cX7_readOne 136 = .ok (.ifCond .eq 34, 3) := by decide +kernel
theorem dX7_readOne_139 : decode cX7_readOne 139 = .ok (.aload_n 0, 1) := by decide +kernel
theorem dX7_readOne_140 : decode cX7_readOne 140 = .ok (.invokevirtual 124, 3) := by decide +kernel
theorem dX7_readOne_143 : decode cX7_readOne 143 = .ok (.ifCond .eq 27, 3) := by decide +kernel
theorem dX7_readOne_146 : decode cX7_readOne 146 = .ok (.aload_n 0, 1) := by decide +kernel
theorem dX7_readOne_147 : decode cX7_readOne 147 = .ok (.getfield 18, 3) := by decide +kernel
theorem dX7_readOne_150 : decode cX7_readOne 150 = .ok (.bipush 46, 2) := by decide +kernel
theorem dX7_readOne_152 : decode cX7_readOne 152 = .ok (.iconst 0, 1) := by decide +kernel
theorem dX7_readOne_153 : decode cX7_readOne 153 = .ok (.invokevirtual 121, 3) := by decide +kernel
theorem dX7_readOne_156 : decode cX7_readOne 156 = .ok (.ifCond .eq 14, 3) := by decide +kernel
theorem dX7_readOne_159 : decode cX7_readOne 159 = .ok (.aload_n 0, 1) := by decide +kernel
theorem dX7_readOne_160 : decode cX7_readOne 160 = .ok (.invokevirtual 130, 3) := by decide +kernel
theorem dX7_readOne_163 : decode cX7_readOne 163 = .ok (.ifCond .eq 7, 3) := by decide +kernel
theorem dX7_readOne_166 : decode cX7_readOne 166 = .ok (.iconst 1, 1) := by decide +kernel
theorem dX7_readOne_167 : decode cX7_readOne 167 = .ok (.goto 4, 3) := by decide +kernel
theorem dX7_readOne_170 : decode cX7_readOne 170 = .ok (.iconst 0, 1) := by decide +kernel
theorem dX7_readOne_171 : decode cX7_readOne 171 = .ok (.ireturn, 1) := by decide +kernel
theorem dX7_readOne_172 : decode cX7_readOne 172 = .ok (.aload_n 0, 1) := by decide +kernel
theorem dX7_readOne_173 : decode cX7_readOne 173 = .ok (.invokevirtual 127, 3) := by decide +kernel
theorem dX7_readOne_176 : decode cX7_readOne 176 = .ok (.ifCond .eq 50, 3) := by decide +kernel
theorem dX7_readOne_179 : decode cX7_readOne 179 = .ok (.aload_n 0, 1) := by decide +kernel
theorem dX7_readOne_180 : decode cX7_readOne 180 = .ok (.invokevirtual 124, 3) := by decide +kernel
theorem dX7_readOne_183 : decode cX7_readOne 183 = .ok (.ifCond .eq 43, 3) := by decide +kernel
theorem dX7_readOne_186 : decode cX7_readOne 186 = .ok (.aload_n 0, 1) := by decide +kernel
theorem dX7_readOne_187 : decode cX7_readOne 187 = .ok (.bipush 19, 2) := by decide +kernel
theorem dX7_readOne_189 : decode cX7_readOne 189 = .ok (.invokevirtual 97, 3) := by decide +kernel
theorem dX7_readOne_192 : decode cX7_readOne 192 = .ok (.ifCond .eq 34, 3) := by decide +kernel
theorem dX7_readOne_195 : decode cX7_readOne 195 = .ok (.aload_n 0, 1) := by decide +kernel
theorem dX7_readOne_196 : decode cX7_readOne 196 = .ok (.invokevirtual 124, 3) := by decide +kernel
theorem dX7_readOne_199 : decode cX7_readOne 199 = .ok (.ifCond .eq 27, 3) := by decide +kernel
theorem dX7_readOne_202 : decode cX7_readOne 202 = .ok (.aload_n 0, 1) := by decide +kernel
theorem dX7_readOne_203 : decode cX7_readOne 203 = .ok (.getfield 18, 3) := by decide +kernel
theorem dX7_readOne_206 : decode cX7_readOne 206 = .ok (.bipush 29, 2) := by decide +kernel
theorem dX7_readOne_208 : decode cX7_readOne 208 = .ok (.iconst 0, 1) := by decide +kernel
theorem dX7_readOne_209 : decode cX7_readOne 209 = .ok (.invokevirtual 121, 3) := by decide +kernel
theorem dX7_readOne_212 : decode cX7_readOne 212 = .ok (.ifCond .eq 14, 3) := by decide +kernel
theorem dX7_readOne_215 : decode cX7_readOne 215 = .ok (.aload_n 0, 1) := by decide +kernel
theorem dX7_readOne_216 : decode cX7_readOne 216 = .ok (.invokevirtual 130, 3) := by decide +kernel
theorem dX7_readOne_219 : decode cX7_readOne 219 = .ok (.ifCond .eq 7, 3) := by decide +kernel
theorem dX7_readOne_222 : decode cX7_readOne 222 = .ok (.iconst 1, 1) := by decide +kernel
theorem dX7_readOne_223 : decode cX7_readOne 223 = .ok (.goto 4, 3) := by decide +kernel
theorem dX7_readOne_226 : decode cX7_readOne 226 = .ok (.iconst 0, 1) := by decide +kernel
theorem dX7_readOne_227 : decode cX7_readOne 227 = .ok (.ireturn, 1) := by decide +kernel
theorem dX7_readOne_228 : decode cX7_readOne 228 = .ok (.aload_n 0, 1) := by decide +kernel
theorem dX7_readOne_229 : decode cX7_readOne 229 = .ok (.invokevirtual 127, 3) := by decide +kernel
theorem dX7_readOne_232 : decode cX7_readOne 232 = .ok (.ifCond .eq 34, 3) := by decide +kernel
theorem dX7_readOne_235 : decode cX7_readOne 235 = .ok (.aload_n 0, 1) := by decide +kernel
theorem dX7_readOne_236 : decode cX7_readOne 236 = .ok (.invokevirtual 124, 3) := by decide +kernel
theorem dX7_readOne_239 : decode cX7_readOne 239 = .ok (.ifCond .eq 27, 3) := by decide +kernel
theorem dX7_readOne_242 : decode cX7_readOne 242 = .ok (.aload_n 0, 1) := by decide +kernel
theorem dX7_readOne_243 : decode cX7_readOne 243 = .ok (.getfield 18, 3) := by decide +kernel
theorem dX7_readOne_246 : decode cX7_readOne 246 = .ok (.bipush 30, 2) := by decide +kernel
theorem dX7_readOne_248 : decode cX7_readOne 248 = .ok (.iconst 0, 1) := by decide +kernel
theorem dX7_readOne_249 : decode cX7_readOne 249 = .ok (.invokevirtual 121, 3) := by decide +kernel
theorem dX7_readOne_252 : decode cX7_readOne 252 = .ok (.ifCond .eq 14, 3) := by decide +kernel
theorem dX7_readOne_255 : decode cX7_readOne 255 = .ok (.aload_n 0, 1) := by decide +kernel
theorem dX7_readOne_256 : decode cX7_readOne 256 = .ok (.invokevirtual 130, 3) := by decide +kernel
theorem dX7_readOne_259 : decode cX7_readOne 259 = .ok (.ifCond .eq 7, 3) := by decide +kernel
theorem dX7_readOne_262 : decode cX7_readOne 262 = .ok (.iconst 1, 1) := by decide +kernel
theorem dX7_readOne_263 : decode cX7_readOne 263 = .ok (.goto 4, 3) := by decide +kernel
theorem dX7_readOne_266 : decode cX7_readOne 266 = .ok (.iconst 0, 1) := by decide +kernel
theorem dX7_readOne_267 : decode cX7_readOne 267 = .ok (.ireturn, 1) := by decide +kernel
theorem dX7_readOne_268 : decode cX7_readOne 268 = .ok (.aload_n 0, 1) := by decide +kernel
theorem dX7_readOne_269 : decode cX7_readOne 269 = .ok (.invokevirtual 133, 3) := by decide +kernel
theorem dX7_readOne_272 : decode cX7_readOne 272 = .ok (.ireturn, 1) := by decide +kernel
theorem dX7_readOne_273 : decode cX7_readOne 273 = .ok (.aload_n 0, 1) := by decide +kernel
theorem dX7_readOne_274 : decode cX7_readOne 274 = .ok (.invokevirtual 136, 3) := by decide +kernel
theorem dX7_readOne_277 : decode cX7_readOne 277 = .ok (.ireturn, 1) := by decide +kernel
theorem dX7_readName_0 : decode cX7_readName 0 = .ok (.aload_n 0, 1) := by decide +kernel
theorem dX7_readName_1 : decode cX7_readName 1 = .ok (.invokevirtual 48, 3) := by decide +kernel
theorem dX7_readName_4 : decode cX7_readName 4 = .ok (.invokestatic 139, 3) := by decide +kernel
theorem dX7_readName_7 : decode cX7_readName 7 = .ok (.istore_n 1, 1) := by decide +kernel
theorem dX7_readName_8 : decode cX7_readName 8 = .ok (.iload_n 1, 1) := by decide +kernel
theorem dX7_readName_9 : decode cX7_readName 9 = .ok (.iconst (-1), 1) := by decide +kernel
theorem dX7_readName_10 : decode cX7_readName 10 = .ok (.if_icmp .ne 9, 3) := by decide +kernel
theorem dX7_readName_13 : decode cX7_readName 13 = .ok (.aload_n 0, 1) := by decide +kernel
theorem dX7_readName_14 : decode cX7_readName 14 = .ok (.iconst 1, 1) := by decide +kernel
theorem dX7_readName_15 : decode cX7_readName 15 = .ok (.invokevirtual 63, 3) := by decide +kernel
theorem dX7_readName_18 : decode cX7_readName 18 = .ok (.ireturn, 1) := by decide +kernel
theorem dX7_readName_19 : decode cX7_readName 19 = .ok (.iload_n 1, 1) := by decide +kernel
theorem dX7_readName_20 : decode cX7_readName 20 = .ok (.bipush 7, 2) := by decide +kernel
theorem dX7_readName_22 : decode cX7_readName 22 = .ok (.if_icmp .lt 18, 3) := by decide +kernel
theorem dX7_readName_25 : decode cX7_readName 25 = .ok (.aload_n 0, 1) := by decide +kernel
theorem dX7_readName_26 : decode cX7_readName 26 = .ok (.getfield 91, 3) := by decide +kernel
theorem dX7_readName_29 : decode cX7_readName 29 = .ok (.bipush 16, 2) := by decide +kernel
theorem dX7_readName_31 : decode cX7_readName 31 = .ok (.if_icmp .eq 9, 3) := by decide +kernel
theorem dX7_readName_34 : decode cX7_readName 34 = .ok (.aload_n 0, 1) := by decide +kernel
theorem dX7_readName_35 : decode cX7_readName 35 = .ok (.iconst 5, 1) := by decide +kernel
theorem dX7_readName_36 : decode cX7_readName 36 = .ok (.invokevirtual 63, 3) := by decide +kernel
theorem dX7_readName_39 : decode cX7_readName 39 = .ok (.ireturn, 1) := by decide +kernel
theorem dX7_readName_40 : decode cX7_readName 40 = .ok (.aload_n 0, 1) := by decide +kernel
theorem dX7_readName_41 : decode cX7_readName 41 = .ok (.dup, 1) := by decide +kernel
theorem dX7_readName_42 : decode cX7_readName 42 = .ok (.getfield 31, 3) := by decide +kernel
theorem dX7_readName_45 : decode cX7_readName 45 = .ok (.iconst 1, 1) := by decide +kernel
theorem dX7_readName_46 : decode cX7_readName 46 = .ok (.iadd, 1) := by decide +kernel
theorem dX7_readName_47 : decode cX7_readName 47 = .ok (.putfield 31, 3) := by decide +kernel
theorem dX7_readName_50 : decode cX7_readName 50 = .ok (.aload_n 0, 1) := by decide +kernel
theorem dX7_readName_51 : decode cX7_readName 51 = .ok (.getfield 18, 3) := by decide +kernel
theorem dX7_readName_54 : decode cX7_readName 54 = .ok (.bipush 45, 2) := by decide +kernel
theorem dX7_readName_56 : decode cX7_readName 56 = .ok (.iload_n 1, 1) := by decide +kernel
theorem dX7_readName_57 : decode cX7_readName 57 = .ok (.invokevirtual 121, 3) := by decide +kernel
theorem dX7_readName_60 : decode cX7_readName 60 = .ok (.ireturn, 1) := by decide +kernel
theorem dX7_nameOf_0 : decode cX7_nameOf 0 = .ok (.iload_n 0, 1) := by decide +kernel
theorem dX7_nameOf_1 : decode cX7_nameOf 1 = .ok (.tableswitch 147 18 44 #[141, 147, 147, 147, 147, 129, 147, 147, 147, 147, 123, 147, 147, 147, 147, 147, 147, 147, 147, 147, 125, 127, 131, 133, 135, 138, 144], 123) := by decide +kernel
theorem dX7_nameOf_124 : decode cX7_nameOf 124 = .ok (.iconst 0, 1) := by decide +kernel
theorem dX7_nameOf_125 : decode cX7_nameOf 125 = .ok (.ireturn, 1) := by decide +kernel
theorem dX7_nameOf_126 : decode cX7_nameOf 126 = .ok (.iconst 1, 1) := by decide +kernel
theorem dX7_nameOf_127 : decode cX7_nameOf 127 = .ok (.ireturn, 1) := by decide +kernel
theorem dX7_nameOf_128 : decode cX7_nameOf 128 = .ok (.iconst 2, 1) := by decide +kernel
theorem dX7_nameOf_129 : decode cX7_nameOf 129 = .ok (.ireturn, 1) := by decide +kernel
theorem dX7_nameOf_130 : decode cX7_nameOf 130 = .ok (.iconst 3, 1) := by decide +kernel
theorem dX7_nameOf_131 : decode cX7_nameOf 131 = .ok (.ireturn, 1) := by decide +kernel
theorem dX7_nameOf_132 : decode cX7_nameOf 132 = .ok (.iconst 4, 1) := by decide +kernel
theorem dX7_nameOf_133 : decode cX7_nameOf 133 = .ok (.ireturn, 1) := by decide +kernel
theorem dX7_nameOf_134 : decode cX7_nameOf 134 = .ok (.iconst 5, 1) := by decide +kernel
theorem dX7_nameOf_135 : decode cX7_nameOf 135 = .ok (.ireturn, 1) := by decide +kernel
theorem dX7_nameOf_136 : decode cX7_nameOf 136 = .ok (.bipush 6, 2) := by decide +kernel
theorem dX7_nameOf_138 : decode cX7_nameOf 138 = .ok (.ireturn, 1) := by decide +kernel
theorem dX7_nameOf_139 : decode cX7_nameOf 139 = .ok (.bipush 7, 2) := by decide +kernel
theorem dX7_nameOf_141 : decode cX7_nameOf 141 = .ok (.ireturn, 1) := by decide +kernel
theorem dX7_nameOf_142 : decode cX7_nameOf 142 = .ok (.bipush 8, 2) := by decide +kernel
theorem dX7_nameOf_144 : decode cX7_nameOf 144 = .ok (.ireturn, 1) := by decide +kernel
theorem dX7_nameOf_145 : decode cX7_nameOf 145 = .ok (.bipush 9, 2) := by decide +kernel
theorem dX7_nameOf_147 : decode cX7_nameOf 147 = .ok (.ireturn, 1) := by decide +kernel
theorem dX7_nameOf_148 : decode cX7_nameOf 148 = .ok (.iconst (-1), 1) := by decide +kernel
theorem dX7_nameOf_149 : decode cX7_nameOf 149 = .ok (.ireturn, 1) := by decide +kernel
theorem dX7_readChoice_0 : decode cX7_readChoice 0 = .ok (.aload_n 0, 1) := by decide +kernel
theorem dX7_readChoice_1 : decode cX7_readChoice 1 = .ok (.invokevirtual 127, 3) := by decide +kernel
theorem dX7_readChoice_4 : decode cX7_readChoice 4 = .ok (.ifCond .eq 19, 3) := by decide +kernel
theorem dX7_readChoice_7 : decode cX7_readChoice 7 = .ok (.aload_n 0, 1) := by decide +kernel
theorem dX7_readChoice_8 : decode cX7_readChoice 8 = .ok (.invokevirtual 144, 3) := by decide +kernel
theorem dX7_readChoice_11 : decode cX7_readChoice 11 = .ok (.ifCond .eq 12, 3) := by decide +kernel
theorem dX7_readChoice_14 : decode cX7_readChoice 14 = .ok (.aload_n 0, 1) := by decide +kernel
theorem dX7_readChoice_15 : decode cX7_readChoice 15 = .ok (.bipush 32, 2) := by decide +kernel
theorem dX7_readChoice_17 : decode cX7_readChoice 17 = .ok (.invokevirtual 97, 3) := by decide +kernel
theorem dX7_readChoice_20 : decode cX7_readChoice 20 = .ok (.ifCond .ne 5, 3) := by decide +kernel
theorem dX7_readChoice_23 : decode cX7_readChoice 23 = .ok (.iconst 0, 1) := by decide +kernel
theorem dX7_readChoice_24 : decode cX7_readChoice 24 = .ok (.ireturn, 1) := by decide +kernel
theorem dX7_readChoice_25 : decode cX7_readChoice 25 = .ok (.aload_n 0, 1) := by decide +kernel
theorem dX7_readChoice_26 : decode cX7_readChoice 26 = .ok (.getfield 18, 3) := by decide +kernel
theorem dX7_readChoice_29 : decode cX7_readChoice 29 = .ok (.getfield 88, 3) := by decide +kernel
theorem dX7_readChoice_32 : decode cX7_readChoice 32 = .ok (.istore_n 1, 1) := by decide +kernel
theorem dX7_readChoice_33 : decode cX7_readChoice 33 = .ok (.aload_n 0, 1) := by decide +kernel
theorem dX7_readChoice_34 : decode cX7_readChoice 34 = .ok (.getfield 18, 3) := by decide +kernel
theorem dX7_readChoice_37 : decode cX7_readChoice 37 = .ok (.bipush 32, 2) := by decide +kernel
theorem dX7_readChoice_39 : decode cX7_readChoice 39 = .ok (.iconst 0, 1) := by decide +kernel
theorem dX7_readChoice_40 : decode cX7_readChoice 40 = .ok (.invokevirtual 121, 3) := by decide +kernel
theorem dX7_readChoice_43 : decode cX7_readChoice 43 = .ok (.ifCond .eq 19, 3) := by decide +kernel
theorem dX7_readChoice_46 : decode cX7_readChoice 46 = .ok (.aload_n 0, 1) := by decide +kernel
theorem dX7_readChoice_47 : decode cX7_readChoice 47 = .ok (.invokevirtual 94, 3) := by decide +kernel
theorem dX7_readChoice_50 : decode cX7_readChoice 50 = .ok (.ifCond .eq 12, 3) := by decide +kernel
theorem dX7_readChoice_53 : decode cX7_readChoice 53 = .ok (.aload_n 0, 1) := by decide +kernel
theorem dX7_readChoice_54 : decode cX7_readChoice 54 = .ok (.bipush 33, 2) := by decide +kernel
theorem dX7_readChoice_56 : decode cX7_readChoice 56 = .ok (.invokevirtual 97, 3) := by decide +kernel
theorem dX7_readChoice_59 : decode cX7_readChoice 59 = .ok (.ifCond .ne 5, 3) := by decide +kernel
theorem dX7_readChoice_62 : decode cX7_readChoice 62 = .ok (.iconst 0, 1) := by decide +kernel
theorem dX7_readChoice_63 : decode cX7_readChoice 63 = .ok (.ireturn, 1) := by decide +kernel
theorem dX7_readChoice_64 : decode cX7_readChoice 64 = .ok (.aload_n 0, 1) := by decide +kernel
theorem dX7_readChoice_65 : decode cX7_readChoice 65 = .ok (.getfield 18, 3) := by decide +kernel
theorem dX7_readChoice_68 : decode cX7_readChoice 68 = .ok (.getfield 88, 3) := by decide +kernel
theorem dX7_readChoice_71 : decode cX7_readChoice 71 = .ok (.istore_n 2, 1) := by decide +kernel
theorem dX7_readChoice_72 : decode cX7_readChoice 72 = .ok (.aload_n 0, 1) := by decide +kernel
theorem dX7_readChoice_73 : decode cX7_readChoice 73 = .ok (.getfield 18, 3) := by decide +kernel
theorem dX7_readChoice_76 : decode cX7_readChoice 76 = .ok (.bipush 33, 2) := by decide +kernel
theorem dX7_readChoice_78 : decode cX7_readChoice 78 = .ok (.iconst 0, 1) := by decide +kernel
theorem dX7_readChoice_79 : decode cX7_readChoice 79 = .ok (.invokevirtual 121, 3) := by decide +kernel
theorem dX7_readChoice_82 : decode cX7_readChoice 82 = .ok (.ifCond .ne 5, 3) := by decide +kernel
theorem dX7_readChoice_85 : decode cX7_readChoice 85 = .ok (.iconst 0, 1) := by decide +kernel
theorem dX7_readChoice_86 : decode cX7_readChoice 86 = .ok (.ireturn, 1) := by decide +kernel
theorem dX7_readChoice_87 : decode cX7_readChoice 87 = .ok (.aload_n 0, 1) := by decide +kernel
theorem dX7_readChoice_88 : decode cX7_readChoice 88 = .ok (.getfield 18, 3) := by decide +kernel
theorem dX7_readChoice_91 : decode cX7_readChoice 91 = .ok (.iload_n 1, 1) := by decide +kernel
theorem dX7_readChoice_92 : decode cX7_readChoice 92 = .ok (.invokevirtual 147, 3) := by decide +kernel
theorem dX7_readChoice_95 : decode cX7_readChoice 95 = .ok (.aload_n 0, 1) := by decide +kernel
theorem dX7_readChoice_96 : decode cX7_readChoice 96 = .ok (.invokevirtual 94, 3) := by decide +kernel
theorem dX7_readChoice_99 : decode cX7_readChoice 99 = .ok (.ifCond .eq 12, 3) := by decide +kernel
theorem dX7_readChoice_102 : decode cX7_readChoice 102 = .ok (.aload_n 0, 1) := by decide +kernel
theorem dX7_readChoice_103 : decode cX7_readChoice 103 = .ok (.bipush 34, 2) := by decide +kernel
theorem dX7_readChoice_105 : decode cX7_readChoice 105 = .ok (.invokevirtual 97, 3) := by decide +kernel
theorem dX7_readChoice_108 : decode cX7_readChoice 108 = .ok (.ifCond .ne 5, 3) := by decide +kernel
theorem dX7_readChoice_111 : decode cX7_readChoice 111 = .ok (.iconst 0, 1) := by decide +kernel
theorem dX7_readChoice_112 : decode cX7_readChoice 112 = .ok (.ireturn, 1) := by decide +kernel
theorem dX7_readChoice_113 : decode cX7_readChoice 113 = .ok (.aload_n 0, 1) := by decide +kernel
theorem dX7_readChoice_114 : decode cX7_readChoice 114 = .ok (.getfield 18, 3) := by decide +kernel
theorem dX7_readChoice_117 : decode cX7_readChoice 117 = .ok (.iload_n 2, 1) := by decide +kernel
theorem dX7_readChoice_118 : decode cX7_readChoice 118 = .ok (.invokevirtual 147, 3) := by decide +kernel
theorem dX7_readChoice_121 : decode cX7_readChoice 121 = .ok (.aload_n 0, 1) := by decide +kernel
theorem dX7_readChoice_122 : decode cX7_readChoice 122 = .ok (.invokevirtual 130, 3) := by decide +kernel
theorem dX7_readChoice_125 : decode cX7_readChoice 125 = .ok (.ireturn, 1) := by decide +kernel
theorem dX7_readEither_0 : decode cX7_readEither 0 = .ok (.aload_n 0, 1) := by decide +kernel
theorem dX7_readEither_1 : decode cX7_readEither 1 = .ok (.invokevirtual 151, 3) := by decide +kernel
theorem dX7_readEither_4 : decode cX7_readEither 4 = .ok (.ifCond .ne 5, 3) := by decide +kernel
theorem dX7_readEither_7 : decode cX7_readEither 7 = .ok (.iconst 0, 1) := by decide +kernel
theorem dX7_readEither_8 : decode cX7_readEither 8 = .ok (.ireturn, 1) := by decide +kernel
theorem dX7_readEither_9 : decode cX7_readEither 9 = .ok (.iconst 0, 1) := by decide +kernel
theorem dX7_readEither_10 : decode cX7_readEither 10 = .ok (.istore_n 1, 1) := by decide +kernel
theorem dX7_readEither_11 : decode cX7_readEither 11 = .ok (.iload_n 1, 1) := by decide +kernel
theorem dX7_readEither_12 : decode cX7_readEither 12 = .ok (.sipush 300, 3) := by decide +kernel
theorem dX7_readEither_15 : decode cX7_readEither 15 = .ok (.if_icmp .ge 50, 3) := by decide +kernel
theorem dX7_readEither_18 : decode cX7_readEither 18 = .ok (.aload_n 0, 1) := by decide +kernel
theorem dX7_readEither_19 : decode cX7_readEither 19 = .ok (.invokevirtual 48, 3) := by decide +kernel
theorem dX7_readEither_22 : decode cX7_readEither 22 = .ok (.bipush 35, 2) := by decide +kernel
theorem dX7_readEither_24 : decode cX7_readEither 24 = .ok (.if_icmp .ne 41, 3) := by decide +kernel
theorem dX7_readEither_27 : decode cX7_readEither 27 = .ok (.aload_n 0, 1) := by decide +kernel
theorem dX7_readEither_28 : decode cX7_readEither 28 = .ok (.dup, 1) := by decide +kernel
theorem dX7_readEither_29 : decode cX7_readEither 29 = .ok (.getfield 31, 3) := by decide +kernel
theorem dX7_readEither_32 : decode cX7_readEither 32 = .ok (.iconst 1, 1) := by decide +kernel
theorem dX7_readEither_33 : decode cX7_readEither 33 = .ok (.iadd, 1) := by decide +kernel
theorem dX7_readEither_34 : decode cX7_readEither 34 = .ok (.putfield 31, 3) := by decide +kernel
theorem dX7_readEither_37 : decode cX7_readEither 37 = .ok (.aload_n 0, 1) := by decide +kernel
theorem dX7_readEither_38 : decode cX7_readEither 38 = .ok (.invokevirtual 151, 3) := by decide +kernel
theorem dX7_readEither_41 : decode cX7_readEither 41 = .ok (.ifCond .eq 16, 3) := by decide +kernel
theorem dX7_readEither_44 : decode cX7_readEither 44 = .ok (.aload_n 0, 1) := by decide +kernel
theorem dX7_readEither_45 : decode cX7_readEither 45 = .ok (.getfield 18, 3) := by decide +kernel
theorem dX7_readEither_48 : decode cX7_readEither 48 = .ok (.bipush 35, 2) := by decide +kernel
theorem dX7_readEither_50 : decode cX7_readEither 50 = .ok (.iconst 0, 1) := by decide +kernel
theorem dX7_readEither_51 : decode cX7_readEither 51 = .ok (.invokevirtual 121, 3) := by decide +kernel
theorem dX7_readEither_54 : decode cX7_readEither 54 = .ok (.ifCond .ne 5, 3) := by decide +kernel
theorem dX7_readEither_57 : decode cX7_readEither 57 = .ok (.iconst 0, 1) := by decide +kernel
theorem dX7_readEither_58 : decode cX7_readEither 58 = .ok (.ireturn, 1) := by decide +kernel
theorem dX7_readEither_59 : decode cX7_readEither 59 = .ok (.iinc 1 1, 3) := by decide +kernel
theorem dX7_readEither_62 : decode cX7_readEither 62 = .ok (.goto (-51), 3) := by decide +kernel
theorem dX7_readEither_65 : decode cX7_readEither 65 = .ok (.iconst 1, 1) := by decide +kernel
theorem dX7_readEither_66 : decode cX7_readEither 66 = .ok (.ireturn, 1) := by decide +kernel
theorem dX7_readBoth_0 : decode cX7_readBoth 0 = .ok (.aload_n 0, 1) := by decide +kernel
theorem dX7_readBoth_1 : decode cX7_readBoth 1 = .ok (.invokevirtual 154, 3) := by decide +kernel
theorem dX7_readBoth_4 : decode cX7_readBoth 4 = .ok (.ifCond .ne 5, 3) := by decide +kernel
theorem dX7_readBoth_7 : decode cX7_readBoth 7 = .ok (.iconst 0, 1) := by decide +kernel
theorem dX7_readBoth_8 : decode cX7_readBoth 8 = .ok (.ireturn, 1) := by decide +kernel
theorem dX7_readBoth_9 : decode cX7_readBoth 9 = .ok (.iconst 0, 1) := by decide +kernel
theorem dX7_readBoth_10 : decode cX7_readBoth 10 = .ok (.istore_n 1, 1) := by decide +kernel
theorem dX7_readBoth_11 : decode cX7_readBoth 11 = .ok (.iload_n 1, 1) := by decide +kernel
theorem dX7_readBoth_12 : decode cX7_readBoth 12 = .ok (.sipush 300, 3) := by decide +kernel
theorem dX7_readBoth_15 : decode cX7_readBoth 15 = .ok (.if_icmp .ge 50, 3) := by decide +kernel
theorem dX7_readBoth_18 : decode cX7_readBoth 18 = .ok (.aload_n 0, 1) := by decide +kernel
theorem dX7_readBoth_19 : decode cX7_readBoth 19 = .ok (.invokevirtual 48, 3) := by decide +kernel
theorem dX7_readBoth_22 : decode cX7_readBoth 22 = .ok (.bipush 36, 2) := by decide +kernel
theorem dX7_readBoth_24 : decode cX7_readBoth 24 = .ok (.if_icmp .ne 41, 3) := by decide +kernel
theorem dX7_readBoth_27 : decode cX7_readBoth 27 = .ok (.aload_n 0, 1) := by decide +kernel
theorem dX7_readBoth_28 : decode cX7_readBoth 28 = .ok (.dup, 1) := by decide +kernel
theorem dX7_readBoth_29 : decode cX7_readBoth 29 = .ok (.getfield 31, 3) := by decide +kernel
theorem dX7_readBoth_32 : decode cX7_readBoth 32 = .ok (.iconst 1, 1) := by decide +kernel
theorem dX7_readBoth_33 : decode cX7_readBoth 33 = .ok (.iadd, 1) := by decide +kernel
theorem dX7_readBoth_34 : decode cX7_readBoth 34 = .ok (.putfield 31, 3) := by decide +kernel
theorem dX7_readBoth_37 : decode cX7_readBoth 37 = .ok (.aload_n 0, 1) := by decide +kernel
theorem dX7_readBoth_38 : decode cX7_readBoth 38 = .ok (.invokevirtual 154, 3) := by decide +kernel
theorem dX7_readBoth_41 : decode cX7_readBoth 41 = .ok (.ifCond .eq 16, 3) := by decide +kernel
theorem dX7_readBoth_44 : decode cX7_readBoth 44 = .ok (.aload_n 0, 1) := by decide +kernel
theorem dX7_readBoth_45 : decode cX7_readBoth 45 = .ok (.getfield 18, 3) := by decide +kernel
theorem dX7_readBoth_48 : decode cX7_readBoth 48 = .ok (.bipush 36, 2) := by decide +kernel
theorem dX7_readBoth_50 : decode cX7_readBoth 50 = .ok (.iconst 0, 1) := by decide +kernel
theorem dX7_readBoth_51 : decode cX7_readBoth 51 = .ok (.invokevirtual 121, 3) := by decide +kernel
theorem dX7_readBoth_54 : decode cX7_readBoth 54 = .ok (.ifCond .ne 5, 3) := by decide +kernel
theorem dX7_readBoth_57 : decode cX7_readBoth 57 = .ok (.iconst 0, 1) := by decide +kernel
theorem dX7_readBoth_58 : decode cX7_readBoth 58 = .ok (.ireturn, 1) := by decide +kernel
theorem dX7_readBoth_59 : decode cX7_readBoth 59 = .ok (.iinc 1 1, 3) := by decide +kernel
theorem dX7_readBoth_62 : decode cX7_readBoth 62 = .ok (.goto (-51), 3) := by decide +kernel
theorem dX7_readBoth_65 : decode cX7_readBoth 65 = .ok (.iconst 1, 1) := by decide +kernel
theorem dX7_readBoth_66 : decode cX7_readBoth 66 = .ok (.ireturn, 1) := by decide +kernel
theorem dX7_readAsk_0 : decode cX7_readAsk 0 = .ok (.aload_n 0, 1) := by decide +kernel
theorem dX7_readAsk_1 : decode cX7_readAsk 1 = .ok (.invokevirtual 48, 3) := by decide +kernel
theorem dX7_readAsk_4 : decode cX7_readAsk 4 = .ok (.bipush 37, 2) := by decide +kernel
theorem dX7_readAsk_6 : decode cX7_readAsk 6 = .ok (.if_icmp .ne 43, 3) := by decide +kernel
theorem dX7_readAsk_9 : decode cX7_readAsk 9 = .ok (.aload_n 0, 1) := by decide +kernel
theorem dX7_readAsk_10 : decode cX7_readAsk 10 = .ok (.invokevirtual 127, 3) := by decide +kernel
theorem dX7_readAsk_13 : decode cX7_readAsk 13 = .ok (.ifCond .eq 34, 3) := by decide +kernel
theorem dX7_readAsk_16 : decode cX7_readAsk 16 = .ok (.aload_n 0, 1) := by decide +kernel
theorem dX7_readAsk_17 : decode cX7_readAsk 17 = .ok (.invokevirtual 154, 3) := by decide +kernel
theorem dX7_readAsk_20 : decode cX7_readAsk 20 = .ok (.ifCond .eq 27, 3) := by decide +kernel
theorem dX7_readAsk_23 : decode cX7_readAsk 23 = .ok (.aload_n 0, 1) := by decide +kernel
theorem dX7_readAsk_24 : decode cX7_readAsk 24 = .ok (.getfield 18, 3) := by decide +kernel
theorem dX7_readAsk_27 : decode cX7_readAsk 27 = .ok (.bipush 37, 2) := by decide +kernel
theorem dX7_readAsk_29 : decode cX7_readAsk 29 = .ok (.iconst 0, 1) := by decide +kernel
theorem dX7_readAsk_30 : decode cX7_readAsk 30 = .ok (.invokevirtual 121, 3) := by decide +kernel
theorem dX7_readAsk_33 : decode cX7_readAsk 33 = .ok (.ifCond .eq 14, 3) := by decide +kernel
theorem dX7_readAsk_36 : decode cX7_readAsk 36 = .ok (.aload_n 0, 1) := by decide +kernel
theorem dX7_readAsk_37 : decode cX7_readAsk 37 = .ok (.invokevirtual 130, 3) := by decide +kernel
theorem dX7_readAsk_40 : decode cX7_readAsk 40 = .ok (.ifCond .eq 7, 3) := by decide +kernel
theorem dX7_readAsk_43 : decode cX7_readAsk 43 = .ok (.iconst 1, 1) := by decide +kernel
theorem dX7_readAsk_44 : decode cX7_readAsk 44 = .ok (.goto 4, 3) := by decide +kernel
theorem dX7_readAsk_47 : decode cX7_readAsk 47 = .ok (.iconst 0, 1) := by decide +kernel
theorem dX7_readAsk_48 : decode cX7_readAsk 48 = .ok (.ireturn, 1) := by decide +kernel
theorem dX7_readAsk_49 : decode cX7_readAsk 49 = .ok (.aload_n 0, 1) := by decide +kernel
theorem dX7_readAsk_50 : decode cX7_readAsk 50 = .ok (.invokevirtual 94, 3) := by decide +kernel
theorem dX7_readAsk_53 : decode cX7_readAsk 53 = .ok (.ifCond .ne 5, 3) := by decide +kernel
theorem dX7_readAsk_56 : decode cX7_readAsk 56 = .ok (.iconst 0, 1) := by decide +kernel
theorem dX7_readAsk_57 : decode cX7_readAsk 57 = .ok (.ireturn, 1) := by decide +kernel
theorem dX7_readAsk_58 : decode cX7_readAsk 58 = .ok (.aload_n 0, 1) := by decide +kernel
theorem dX7_readAsk_59 : decode cX7_readAsk 59 = .ok (.invokevirtual 48, 3) := by decide +kernel
theorem dX7_readAsk_62 : decode cX7_readAsk 62 = .ok (.istore_n 1, 1) := by decide +kernel
theorem dX7_readAsk_63 : decode cX7_readAsk 63 = .ok (.iload_n 1, 1) := by decide +kernel
theorem dX7_readAsk_64 : decode cX7_readAsk 64 = .ok (.iconst 3, 1) := by decide +kernel
theorem dX7_readAsk_65 : decode cX7_readAsk 65 = .ok (.if_icmp .lt 9, 3) := by decide +kernel
theorem dX7_readAsk_68 : decode cX7_readAsk 68 = .ok (.iload_n 1, 1) := by decide +kernel
theorem dX7_readAsk_69 : decode cX7_readAsk 69 = .ok (.bipush 8, 2) := by decide +kernel
theorem dX7_readAsk_71 : decode cX7_readAsk 71 = .ok (.if_icmp .le 9, 3) := by decide +kernel
theorem dX7_readAsk_74 : decode cX7_readAsk 74 = .ok (.aload_n 0, 1) := by decide +kernel
theorem dX7_readAsk_75 : decode cX7_readAsk 75 = .ok (.iconst 1, 1) := by decide +kernel
theorem dX7_readAsk_76 : decode cX7_readAsk 76 = .ok (.invokevirtual 63, 3) := by decide +kernel
theorem dX7_readAsk_79 : decode cX7_readAsk 79 = .ok (.ireturn, 1) := by decide +kernel
theorem dX7_readAsk_80 : decode cX7_readAsk 80 = .ok (.aload_n 0, 1) := by decide +kernel
theorem dX7_readAsk_81 : decode cX7_readAsk 81 = .ok (.dup, 1) := by decide +kernel
theorem dX7_readAsk_82 : decode cX7_readAsk 82 = .ok (.getfield 31, 3) := by decide +kernel
theorem dX7_readAsk_85 : decode cX7_readAsk 85 = .ok (.iconst 1, 1) := by decide +kernel
theorem dX7_readAsk_86 : decode cX7_readAsk 86 = .ok (.iadd, 1) := by decide +kernel
theorem dX7_readAsk_87 : decode cX7_readAsk 87 = .ok (.putfield 31, 3) := by decide +kernel
theorem dX7_readAsk_90 : decode cX7_readAsk 90 = .ok (.aload_n 0, 1) := by decide +kernel
theorem dX7_readAsk_91 : decode cX7_readAsk 91 = .ok (.invokevirtual 94, 3) := by decide +kernel
theorem dX7_readAsk_94 : decode cX7_readAsk 94 = .ok (.ifCond .eq 19, 3) := by decide +kernel
theorem dX7_readAsk_97 : decode cX7_readAsk 97 = .ok (.aload_n 0, 1) := by decide +kernel
theorem dX7_readAsk_98 : decode cX7_readAsk 98 = .ok (.getfield 18, 3) := by decide +kernel
theorem dX7_readAsk_101 : decode cX7_readAsk 101 = .ok (.iload_n 1, 1) := by decide +kernel
theorem dX7_readAsk_102 : decode cX7_readAsk 102 = .ok (.iconst 0, 1) := by decide +kernel
theorem dX7_readAsk_103 : decode cX7_readAsk 103 = .ok (.invokevirtual 121, 3) := by decide +kernel
theorem dX7_readAsk_106 : decode cX7_readAsk 106 = .ok (.ifCond .eq 7, 3) := by decide +kernel
theorem dX7_readAsk_109 : decode cX7_readAsk 109 = .ok (.iconst 1, 1) := by decide +kernel
theorem dX7_readAsk_110 : decode cX7_readAsk 110 = .ok (.goto 4, 3) := by decide +kernel
theorem dX7_readAsk_113 : decode cX7_readAsk 113 = .ok (.iconst 0, 1) := by decide +kernel
theorem dX7_readAsk_114 : decode cX7_readAsk 114 = .ok (.ireturn, 1) := by decide +kernel
theorem dX8_init_0 : decode cX8_init 0 = .ok (.aload_n 0, 1) := by decide +kernel
theorem dX8_init_1 : decode cX8_init 1 = .ok (.invokespecial 3, 3) := by decide +kernel
theorem dX8_init_4 : decode cX8_init 4 = .ok (.aload_n 0, 1) := by decide +kernel
theorem dX8_init_5 : decode cX8_init 5 = .ok (.bipush 24, 2) := by decide +kernel
theorem dX8_init_7 : decode cX8_init 7 = .ok (.newarray .int, 2) := by decide +kernel
theorem dX8_init_9 : decode cX8_init 9 = .ok (.putfield 9, 3) := by decide +kernel
theorem dX8_init_12 : decode cX8_init 12 = .ok (.aload_n 0, 1) := by decide +kernel
theorem dX8_init_13 : decode cX8_init 13 = .ok (.bipush 24, 2) := by decide +kernel
theorem dX8_init_15 : decode cX8_init 15 = .ok (.newarray .int, 2) := by decide +kernel
theorem dX8_init_17 : decode cX8_init 17 = .ok (.putfield 15, 3) := by decide +kernel
theorem dX8_init_20 : decode cX8_init 20 = .ok (.aload_n 0, 1) := by decide +kernel
theorem dX8_init_21 : decode cX8_init 21 = .ok (.bipush 24, 2) := by decide +kernel
theorem dX8_init_23 : decode cX8_init 23 = .ok (.newarray .int, 2) := by decide +kernel
theorem dX8_init_25 : decode cX8_init 25 = .ok (.putfield 18, 3) := by decide +kernel
theorem dX8_init_28 : decode cX8_init 28 = .ok (.aload_n 0, 1) := by decide +kernel
theorem dX8_init_29 : decode cX8_init 29 = .ok (.sipush 300, 3) := by decide +kernel
theorem dX8_init_32 : decode cX8_init 32 = .ok (.newarray .int, 2) := by decide +kernel
theorem dX8_init_34 : decode cX8_init 34 = .ok (.putfield 21, 3) := by decide +kernel
theorem dX8_init_37 : decode cX8_init 37 = .ok (.aload_n 0, 1) := by decide +kernel
theorem dX8_init_38 : decode cX8_init 38 = .ok (.sipush 300, 3) := by decide +kernel
theorem dX8_init_41 : decode cX8_init 41 = .ok (.newarray .int, 2) := by decide +kernel
theorem dX8_init_43 : decode cX8_init 43 = .ok (.putfield 24, 3) := by decide +kernel
theorem dX8_init_46 : decode cX8_init 46 = .ok (.return_, 1) := by decide +kernel
theorem dX8_clear_0 : decode cX8_clear 0 = .ok (.aload_n 0, 1) := by decide +kernel
theorem dX8_clear_1 : decode cX8_clear 1 = .ok (.iconst 0, 1) := by decide +kernel
theorem dX8_clear_2 : decode cX8_clear 2 = .ok (.putfield 27, 3) := by decide +kernel
theorem dX8_clear_5 : decode cX8_clear 5 = .ok (.aload_n 0, 1) := by decide +kernel
theorem dX8_clear_6 : decode cX8_clear 6 = .ok (.iconst 0, 1) := by decide +kernel
theorem dX8_clear_7 : decode cX8_clear 7 = .ok (.putfield 31, 3) := by decide +kernel
theorem dX8_clear_10 : decode cX8_clear 10 = .ok (.aload_n 0, 1) := by decide +kernel
theorem dX8_clear_11 : decode cX8_clear 11 = .ok (.iconst 0, 1) := by decide +kernel
theorem dX8_clear_12 : decode cX8_clear 12 = .ok (.putfield 34, 3) := by decide +kernel
theorem dX8_clear_15 : decode cX8_clear 15 = .ok (.aload_n 0, 1) := by decide +kernel
theorem dX8_clear_16 : decode cX8_clear 16 = .ok (.iconst 0, 1) := by decide +kernel
theorem dX8_clear_17 : decode cX8_clear 17 = .ok (.putfield 37, 3) := by decide +kernel
theorem dX8_clear_20 : decode cX8_clear 20 = .ok (.aload_n 0, 1) := by decide +kernel
theorem dX8_clear_21 : decode cX8_clear 21 = .ok (.iconst 0, 1) := by decide +kernel
theorem dX8_clear_22 : decode cX8_clear 22 = .ok (.putfield 40, 3) := by decide +kernel
theorem dX8_clear_25 : decode cX8_clear 25 = .ok (.aload_n 0, 1) := by decide +kernel
theorem dX8_clear_26 : decode cX8_clear 26 = .ok (.iconst 0, 1) := by decide +kernel
theorem dX8_clear_27 : decode cX8_clear 27 = .ok (.putfield 43, 3) := by decide +kernel
theorem dX8_clear_30 : decode cX8_clear 30 = .ok (.return_, 1) := by decide +kernel
theorem dX8_addClause_0 : decode cX8_addClause 0 = .ok (.aload_n 0, 1) := by decide +kernel
theorem dX8_addClause_1 : decode cX8_addClause 1 = .ok (.getfield 27, 3) := by decide +kernel
theorem dX8_addClause_4 : decode cX8_addClause 4 = .ok (.ifCond .lt 12, 3) := by decide +kernel
theorem dX8_addClause_7 : decode cX8_addClause 7 = .ok (.aload_n 0, 1) := by decide +kernel
theorem dX8_addClause_8 : decode cX8_addClause 8 = .ok (.getfield 27, 3) := by decide +kernel
theorem dX8_addClause_11 : decode cX8_addClause 11 = .ok (.bipush 24, 2) := by decide +kernel
theorem dX8_addClause_13 : decode cX8_addClause 13 = .ok (.if_icmp .lt 5, 3) := by decide +kernel
theorem dX8_addClause_16 : decode cX8_addClause 16 = .ok (.iconst 0, 1) := by decide +kernel
theorem dX8_addClause_17 : decode cX8_addClause 17 = .ok (.ireturn, 1) := by decide +kernel
theorem dX8_addClause_18 : decode cX8_addClause 18 = .ok (.aload_n 0, 1) := by decide +kernel
theorem dX8_addClause_19 : decode cX8_addClause 19 = .ok (.getfield 9, 3) := by decide +kernel
theorem dX8_addClause_22 : decode cX8_addClause 22 = .ok (.aload_n 0, 1) := by decide +kernel
theorem dX8_addClause_23 : decode cX8_addClause 23 = .ok (.getfield 27, 3) := by decide +kernel
theorem dX8_addClause_26 : decode cX8_addClause 26 = .ok (.iload_n 1, 1) := by decide +kernel
theorem dX8_addClause_27 : decode cX8_addClause 27 = .ok (.iastore, 1) := by decide +kernel
theorem dX8_addClause_28 : decode cX8_addClause 28 = .ok (.aload_n 0, 1) := by decide +kernel
theorem dX8_addClause_29 : decode cX8_addClause 29 = .ok (.getfield 15, 3) := by decide +kernel
theorem dX8_addClause_32 : decode cX8_addClause 32 = .ok (.aload_n 0, 1) := by decide +kernel
theorem dX8_addClause_33 : decode cX8_addClause 33 = .ok (.getfield 27, 3) := by decide +kernel
theorem dX8_addClause_36 : decode cX8_addClause 36 = .ok (.iload_n 2, 1) := by decide +kernel
theorem dX8_addClause_37 : decode cX8_addClause 37 = .ok (.iastore, 1) := by decide +kernel
theorem dX8_addClause_38 : decode cX8_addClause 38 = .ok (.aload_n 0, 1) := by decide +kernel
theorem dX8_addClause_39 : decode cX8_addClause 39 = .ok (.getfield 18, 3) := by decide +kernel
theorem dX8_addClause_42 : decode cX8_addClause 42 = .ok (.aload_n 0, 1) := by decide +kernel
theorem dX8_addClause_43 : decode cX8_addClause 43 = .ok (.getfield 27, 3) := by decide +kernel
theorem dX8_addClause_46 : decode cX8_addClause 46 = .ok (.iload_n 3, 1) := by decide +kernel
theorem dX8_addClause_47 : decode cX8_addClause 47 = .ok (.iastore, 1) := by decide +kernel
theorem dX8_addClause_48 : decode cX8_addClause 48 = .ok (.aload_n 0, 1) := by decide +kernel
theorem dX8_addClause_49 : decode cX8_addClause 49 = .ok (.dup, 1) := by decide +kernel
theorem dX8_addClause_50 : decode cX8_addClause 50 = .ok (.getfield 27, 3) := by decide +kernel
theorem dX8_addClause_53 : decode cX8_addClause 53 = .ok (.iconst 1, 1) := by decide +kernel
theorem dX8_addClause_54 : decode cX8_addClause 54 = .ok (.iadd, 1) := by decide +kernel
theorem dX8_addClause_55 : decode cX8_addClause 55 = .ok (.putfield 27, 3) := by decide +kernel
theorem dX8_addClause_58 : decode cX8_addClause 58 = .ok (.iconst 1, 1) := by decide +kernel
theorem dX8_addClause_59 : decode cX8_addClause 59 = .ok (.ireturn, 1) := by decide +kernel
theorem dX8_addStep_0 : decode cX8_addStep 0 = .ok (.aload_n 0, 1) := by decide +kernel
theorem dX8_addStep_1 : decode cX8_addStep 1 = .ok (.getfield 31, 3) := by decide +kernel
theorem dX8_addStep_4 : decode cX8_addStep 4 = .ok (.ifCond .lt 13, 3) := by decide +kernel
theorem dX8_addStep_7 : decode cX8_addStep 7 = .ok (.aload_n 0, 1) := by decide +kernel
theorem dX8_addStep_8 : decode cX8_addStep 8 = .ok (.getfield 31, 3) := by decide +kernel
theorem dX8_addStep_11 : decode cX8_addStep 11 = .ok (.sipush 300, 3) := by decide +kernel
theorem dX8_addStep_14 : decode cX8_addStep 14 = .ok (.if_icmp .lt 5, 3) := by decide +kernel
theorem dX8_addStep_17 : decode cX8_addStep 17 = .ok (.iconst 0, 1) := by decide +kernel
theorem dX8_addStep_18 : decode cX8_addStep 18 = .ok (.ireturn, 1) := by decide +kernel
theorem dX8_addStep_19 : decode cX8_addStep 19 = .ok (.aload_n 0, 1) := by decide +kernel
theorem dX8_addStep_20 : decode cX8_addStep 20 = .ok (.getfield 21, 3) := by decide +kernel
theorem dX8_addStep_23 : decode cX8_addStep 23 = .ok (.aload_n 0, 1) := by decide +kernel
theorem dX8_addStep_24 : decode cX8_addStep 24 = .ok (.getfield 31, 3) := by decide +kernel
theorem dX8_addStep_27 : decode cX8_addStep 27 = .ok (.iload_n 1, 1) := by decide +kernel
theorem dX8_addStep_28 : decode cX8_addStep 28 = .ok (.iastore, 1) := by decide +kernel
theorem dX8_addStep_29 : decode cX8_addStep 29 = .ok (.aload_n 0, 1) := by decide +kernel
theorem dX8_addStep_30 : decode cX8_addStep 30 = .ok (.getfield 24, 3) := by decide +kernel
theorem dX8_addStep_33 : decode cX8_addStep 33 = .ok (.aload_n 0, 1) := by decide +kernel
theorem dX8_addStep_34 : decode cX8_addStep 34 = .ok (.getfield 31, 3) := by decide +kernel
theorem dX8_addStep_37 : decode cX8_addStep 37 = .ok (.iload_n 2, 1) := by decide +kernel
theorem dX8_addStep_38 : decode cX8_addStep 38 = .ok (.iastore, 1) := by decide +kernel
theorem dX8_addStep_39 : decode cX8_addStep 39 = .ok (.aload_n 0, 1) := by decide +kernel
theorem dX8_addStep_40 : decode cX8_addStep 40 = .ok (.dup, 1) := by decide +kernel
theorem dX8_addStep_41 : decode cX8_addStep 41 = .ok (.getfield 31, 3) := by decide +kernel
theorem dX8_addStep_44 : decode cX8_addStep 44 = .ok (.iconst 1, 1) := by decide +kernel
theorem dX8_addStep_45 : decode cX8_addStep 45 = .ok (.iadd, 1) := by decide +kernel
theorem dX8_addStep_46 : decode cX8_addStep 46 = .ok (.putfield 31, 3) := by decide +kernel
theorem dX8_addStep_49 : decode cX8_addStep 49 = .ok (.iconst 1, 1) := by decide +kernel
theorem dX8_addStep_50 : decode cX8_addStep 50 = .ok (.ireturn, 1) := by decide +kernel
theorem dX8_leadHere_0 : decode cX8_leadHere 0 = .ok (.iload_n 1, 1) := by decide +kernel
theorem dX8_leadHere_1 : decode cX8_leadHere 1 = .ok (.ifCond .lt 20, 3) := by decide +kernel
theorem dX8_leadHere_4 : decode cX8_leadHere 4 = .ok (.iload_n 1, 1) := by decide +kernel
theorem dX8_leadHere_5 : decode cX8_leadHere 5 = .ok (.sipush 300, 3) := by decide +kernel
theorem dX8_leadHere_8 : decode cX8_leadHere 8 = .ok (.if_icmp .ge 13, 3) := by decide +kernel
theorem dX8_leadHere_11 : decode cX8_leadHere 11 = .ok (.aload_n 0, 1) := by decide +kernel
theorem dX8_leadHere_12 : decode cX8_leadHere 12 = .ok (.getfield 24, 3) := by decide +kernel
theorem dX8_leadHere_15 : decode cX8_leadHere 15 = .ok (.iload_n 1, 1) := by decide +kernel
theorem dX8_leadHere_16 : decode cX8_leadHere 16 = .ok (.aload_n 0, 1) := by decide +kernel
theorem dX8_leadHere_17 : decode cX8_leadHere 17 = .ok (.getfield 31, 3) := by decide +kernel
theorem dX8_leadHere_20 : decode cX8_leadHere 20 = .ok (.iastore, 1) := by decide +kernel
theorem dX8_leadHere_21 : decode cX8_leadHere 21 = .ok (.return_, 1) := by decide +kernel
theorem dX8_hasLaw_0 : decode cX8_hasLaw 0 = .ok (.iload_n 1, 1) := by decide +kernel
theorem dX8_hasLaw_1 : decode cX8_hasLaw 1 = .ok (.bipush 16, 2) := by decide +kernel
theorem dX8_hasLaw_3 : decode cX8_hasLaw 3 = .ok (.if_icmp .ne 10, 3) := by decide +kernel
theorem dX8_hasLaw_6 : decode cX8_hasLaw 6 = .ok (.aload_n 0, 1) := by decide +kernel
theorem dX8_hasLaw_7 : decode cX8_hasLaw 7 = .ok (.getfield 37, 3) := by decide +kernel
theorem dX8_hasLaw_10 : decode cX8_hasLaw 10 = .ok (.ifCond .gt 16, 3) := by decide +kernel
theorem dX8_hasLaw_13 : decode cX8_hasLaw 13 = .ok (.iload_n 1, 1) := by decide +kernel
theorem dX8_hasLaw_14 : decode cX8_hasLaw 14 = .ok (.bipush 17, 2) := by decide +kernel
theorem dX8_hasLaw_16 : decode cX8_hasLaw 16 = .ok (.if_icmp .ne 14, 3) := by decide +kernel
theorem dX8_hasLaw_19 : decode cX8_hasLaw 19 = .ok (.aload_n 0, 1) := by decide +kernel
theorem dX8_hasLaw_20 : decode cX8_hasLaw 20 = .ok (.getfield 43, 3) := by decide +kernel
theorem dX8_hasLaw_23 : decode cX8_hasLaw 23 = .ok (.ifCond .le 7, 3) := by decide +kernel
theorem dX8_hasLaw_26 : decode cX8_hasLaw 26 = .ok (.iconst 1, 1) := by decide +kernel
theorem dX8_hasLaw_27 : decode cX8_hasLaw 27 = .ok (.goto 4, 3) := by decide +kernel
theorem dX8_hasLaw_30 : decode cX8_hasLaw 30 = .ok (.iconst 0, 1) := by decide +kernel
theorem dX8_hasLaw_31 : decode cX8_hasLaw 31 = .ok (.ireturn, 1) := by decide +kernel
theorem dX8_setLaw_0 : decode cX8_setLaw 0 = .ok (.iload_n 1, 1) := by decide +kernel
theorem dX8_setLaw_1 : decode cX8_setLaw 1 = .ok (.bipush 16, 2) := by decide +kernel
theorem dX8_setLaw_3 : decode cX8_setLaw 3 = .ok (.if_icmp .ne 19, 3) := by decide +kernel
theorem dX8_setLaw_6 : decode cX8_setLaw 6 = .ok (.aload_n 0, 1) := by decide +kernel
theorem dX8_setLaw_7 : decode cX8_setLaw 7 = .ok (.iload_n 2, 1) := by decide +kernel
theorem dX8_setLaw_8 : decode cX8_setLaw 8 = .ok (.putfield 34, 3) := by decide +kernel
theorem dX8_setLaw_11 : decode cX8_setLaw 11 = .ok (.aload_n 0, 1) := by decide +kernel
theorem dX8_setLaw_12 : decode cX8_setLaw 12 = .ok (.aload_n 0, 1) := by decide +kernel
theorem dX8_setLaw_13 : decode cX8_setLaw 13 = .ok (.getfield 31, 3) := by decide +kernel
theorem dX8_setLaw_16 : decode cX8_setLaw 16 = .ok (.putfield 37, 3) := by decide +kernel
theorem dX8_setLaw_19 : decode cX8_setLaw 19 = .ok (.goto 16, 3) := by decide +kernel
theorem dX8_setLaw_22 : decode cX8_setLaw 22 = .ok (.aload_n 0, 1) := by decide +kernel
theorem dX8_setLaw_23 : decode cX8_setLaw 23 = .ok (.iload_n 2, 1) := by decide +kernel
theorem dX8_setLaw_24 : decode cX8_setLaw 24 = .ok (.putfield 40, 3) := by decide +kernel
theorem dX8_setLaw_27 : decode cX8_setLaw 27 = .ok (.aload_n 0, 1) := by decide +kernel
theorem dX8_setLaw_28 : decode cX8_setLaw 28 = .ok (.aload_n 0, 1) := by decide +kernel
theorem dX8_setLaw_29 : decode cX8_setLaw 29 = .ok (.getfield 31, 3) := by decide +kernel
theorem dX8_setLaw_32 : decode cX8_setLaw 32 = .ok (.putfield 43, 3) := by decide +kernel
theorem dX8_setLaw_35 : decode cX8_setLaw 35 = .ok (.return_, 1) := by decide +kernel
theorem dX9_init_0 : decode cX9_init 0 = .ok (.aload_n 0, 1) := by decide +kernel
theorem dX9_init_1 : decode cX9_init 1 = .ok (.invokespecial 3, 3) := by decide +kernel
theorem dX9_init_4 : decode cX9_init 4 = .ok (.aload_n 0, 1) := by decide +kernel
theorem dX9_init_5 : decode cX9_init 5 = .ok (.sipush 301, 3) := by decide +kernel
theorem dX9_init_8 : decode cX9_init 8 = .ok (.newarray .int, 2) := by decide +kernel
theorem dX9_init_10 : decode cX9_init 10 = .ok (.putfield 9, 3) := by decide +kernel
theorem dX9_init_13 : decode cX9_init 13 = .ok (.aload_n 0, 1) := by decide +kernel
theorem dX9_init_14 : decode cX9_init 14 = .ok (.sipush 301, 3) := by decide +kernel
theorem dX9_init_17 : decode cX9_init 17 = .ok (.newarray .int, 2) := by decide +kernel
theorem dX9_init_19 : decode cX9_init 19 = .ok (.putfield 15, 3) := by decide +kernel
theorem dX9_init_22 : decode cX9_init 22 = .ok (.aload_n 0, 1) := by decide +kernel
theorem dX9_init_23 : decode cX9_init 23 = .ok (.sipush 301, 3) := by decide +kernel
theorem dX9_init_26 : decode cX9_init 26 = .ok (.newarray .int, 2) := by decide +kernel
theorem dX9_init_28 : decode cX9_init 28 = .ok (.putfield 18, 3) := by decide +kernel
theorem dX9_init_31 : decode cX9_init 31 = .ok (.return_, 1) := by decide +kernel
theorem dX9_scan_0 : decode cX9_scan 0 = .ok (.aload_n 0, 1) := by decide +kernel
theorem dX9_scan_1 : decode cX9_scan 1 = .ok (.iconst 0, 1) := by decide +kernel
theorem dX9_scan_2 : decode cX9_scan 2 = .ok (.putfield 21, 3) := by decide +kernel
theorem dX9_scan_5 : decode cX9_scan 5 = .ok (.iconst 0, 1) := by decide +kernel
theorem dX9_scan_6 : decode cX9_scan 6 = .ok (.istore_n 3, 1) := by decide +kernel
theorem dX9_scan_7 : decode cX9_scan 7 = .ok (.iconst 0, 1) := by decide +kernel
theorem dX9_scan_8 : decode cX9_scan 8 = .ok (.istore 4, 2) := by decide +kernel
theorem dX9_scan_10 : decode cX9_scan 10 = .ok (.iload 4, 2) := by decide +kernel
theorem dX9_scan_12 : decode cX9_scan 12 = .ok (.sipush 300, 3) := by decide +kernel
theorem dX9_scan_15 : decode cX9_scan 15 = .ok (.if_icmp .ge 67, 3) := by decide +kernel
theorem dX9_scan_18 : decode cX9_scan 18 = .ok (.iload_n 3, 1) := by decide +kernel
theorem dX9_scan_19 : decode cX9_scan 19 = .ok (.iload_n 2, 1) := by decide +kernel
theorem dX9_scan_20 : decode cX9_scan 20 = .ok (.if_icmp .ge 62, 3) := by decide +kernel
theorem dX9_scan_23 : decode cX9_scan 23 = .ok (.iload_n 3, 1) := by decide +kernel
theorem dX9_scan_24 : decode cX9_scan 24 = .ok (.aload_n 1, 1) := by decide +kernel
theorem dX9_scan_25 : decode cX9_scan 25 = .ok (.arraylength, 1) := by decide +kernel
theorem dX9_scan_26 : decode cX9_scan 26 = .ok (.if_icmp .ge 56, 3) := by decide +kernel
theorem dX9_scan_29 : decode cX9_scan 29 = .ok (.aload_n 1, 1) := by decide +kernel
theorem dX9_scan_30 : decode cX9_scan 30 = .ok (.iload_n 3, 1) := by decide +kernel
theorem dX9_scan_31 : decode cX9_scan 31 = .ok (.iaload, 1) := by decide +kernel
theorem dX9_scan_32 : decode cX9_scan 32 = .ok (.bipush 32, 2) := by decide +kernel
theorem dX9_scan_34 : decode cX9_scan 34 = .ok (.if_icmp .eq 11, 3) := by decide +kernel
theorem dX9_scan_37 : decode cX9_scan 37 = .ok (.aload_n 1, 1) := by decide +kernel
theorem dX9_scan_38 : decode cX9_scan 38 = .ok (.iload_n 3, 1) := by decide +kernel
theorem dX9_scan_39 : decode cX9_scan 39 = .ok (.iaload, 1) := by decide +kernel
theorem dX9_scan_40 : decode cX9_scan 40 = .ok (.bipush 10, 2) := by decide +kernel
theorem dX9_scan_42 : decode cX9_scan 42 = .ok (.if_icmp .ne 7, 3) := by decide +kernel
theorem dX9_scan_45 : decode cX9_scan 45 = .ok (.iconst 1, 1) := by decide +kernel
theorem dX9_scan_46 : decode cX9_scan 46 = .ok (.goto 4, 3) := by decide +kernel
theorem dX9_scan_49 : decode cX9_scan 49 = .ok (.iconst 0, 1) := by decide +kernel
theorem dX9_scan_50 : decode cX9_scan 50 = .ok (.istore 5, 2) := by decide +kernel
theorem dX9_scan_52 : decode cX9_scan 52 = .ok (.iload_n 3, 1) := by decide +kernel
theorem dX9_scan_53 : decode cX9_scan 53 = .ok (.iload 5, 2) := by decide +kernel
theorem dX9_scan_55 : decode cX9_scan 55 = .ok (.ifCond .eq 7, 3) := by decide +kernel
theorem dX9_scan_58 : decode cX9_scan 58 = .ok (.iconst 1, 1) := by decide +kernel
theorem dX9_scan_59 : decode cX9_scan 59 = .ok (.goto 15, 3) := by decide +kernel
theorem dX9_scan_62 : decode cX9_scan 62 = .ok (.aload_n 0, 1) := by decide +kernel
theorem dX9_scan_63 : decode cX9_scan 63 = .ok (.aload_n 1, 1) := by decide +kernel
theorem dX9_scan_64 : decode cX9_scan 64 = .ok (.iload_n 3, 1) := by decide +kernel
theorem dX9_scan_65 : decode cX9_scan 65 = .ok (.iload_n 2, 1) := by decide +kernel
theorem dX9_scan_66 : decode cX9_scan 66 = .ok (.aload_n 1, 1) := by decide +kernel
theorem dX9_scan_67 : decode cX9_scan 67 = .ok (.arraylength, 1) := by decide +kernel
theorem dX9_scan_68 : decode cX9_scan 68 = .ok (.invokestatic 25, 3) := by decide +kernel
theorem dX9_scan_71 : decode cX9_scan 71 = .ok (.invokevirtual 31, 3) := by decide +kernel
theorem dX9_scan_74 : decode cX9_scan 74 = .ok (.iadd, 1) := by decide +kernel
theorem dX9_scan_75 : decode cX9_scan 75 = .ok (.istore_n 3, 1) := by decide +kernel
theorem dX9_scan_76 : decode cX9_scan 76 = .ok (.iinc 4 1, 3) := by decide +kernel
theorem dX9_scan_79 : decode cX9_scan 79 = .ok (.goto (-69), 3) := by decide +kernel
theorem dX9_scan_82 : decode cX9_scan 82 = .ok (.aload_n 0, 1) := by decide +kernel
theorem dX9_scan_83 : decode cX9_scan 83 = .ok (.iconst 0, 1) := by decide +kernel
theorem dX9_scan_84 : decode cX9_scan 84 = .ok (.iload_n 2, 1) := by decide +kernel
theorem dX9_scan_85 : decode cX9_scan 85 = .ok (.iconst 0, 1) := by decide +kernel
theorem dX9_scan_86 : decode cX9_scan 86 = .ok (.invokevirtual 35, 3) := by decide +kernel
theorem dX9_scan_89 : decode cX9_scan 89 = .ok (.return_, 1) := by decide +kernel
theorem dX9_kindAt_0 : decode cX9_kindAt 0 = .ok (.iload_n 1, 1) := by decide +kernel
theorem dX9_kindAt_1 : decode cX9_kindAt 1 = .ok (.ifCond .lt 27, 3) := by decide +kernel
theorem dX9_kindAt_4 : decode cX9_kindAt 4 = .ok (.iload_n 1, 1) := by decide +kernel
theorem dX9_kindAt_5 : decode cX9_kindAt 5 = .ok (.aload_n 0, 1) := by decide +kernel
theorem dX9_kindAt_6 : decode cX9_kindAt 6 = .ok (.getfield 21, 3) := by decide +kernel
theorem dX9_kindAt_9 : decode cX9_kindAt 9 = .ok (.if_icmp .ge 19, 3) := by decide +kernel
theorem dX9_kindAt_12 : decode cX9_kindAt 12 = .ok (.iload_n 1, 1) := by decide +kernel
theorem dX9_kindAt_13 : decode cX9_kindAt 13 = .ok (.sipush 300, 3) := by decide +kernel
theorem dX9_kindAt_16 : decode cX9_kindAt 16 = .ok (.if_icmp .gt 12, 3) := by decide +kernel
theorem dX9_kindAt_19 : decode cX9_kindAt 19 = .ok (.aload_n 0, 1) := by decide +kernel
theorem dX9_kindAt_20 : decode cX9_kindAt 20 = .ok (.getfield 9, 3) := by decide +kernel
theorem dX9_kindAt_23 : decode cX9_kindAt 23 = .ok (.iload_n 1, 1) := by decide +kernel
theorem dX9_kindAt_24 : decode cX9_kindAt 24 = .ok (.iaload, 1) := by decide +kernel
theorem dX9_kindAt_25 : decode cX9_kindAt 25 = .ok (.goto 4, 3) := by decide +kernel
theorem dX9_kindAt_28 : decode cX9_kindAt 28 = .ok (.iconst 0, 1) := by decide +kernel
theorem dX9_kindAt_29 : decode cX9_kindAt 29 = .ok (.ireturn, 1) := by decide +kernel
theorem dX9_placeAt_0 : decode cX9_placeAt 0 = .ok (.iload_n 1, 1) := by decide +kernel
theorem dX9_placeAt_1 : decode cX9_placeAt 1 = .ok (.ifCond .lt 27, 3) := by decide +kernel
theorem dX9_placeAt_4 : decode cX9_placeAt 4 = .ok (.iload_n 1, 1) := by decide +kernel
theorem dX9_placeAt_5 : decode cX9_placeAt 5 = .ok (.aload_n 0, 1) := by decide +kernel
theorem dX9_placeAt_6 : decode cX9_placeAt 6 = .ok (.getfield 21, 3) := by decide +kernel
theorem dX9_placeAt_9 : decode cX9_placeAt 9 = .ok (.if_icmp .ge 19, 3) := by decide +kernel
theorem dX9_placeAt_12 : decode cX9_placeAt 12 = .ok (.iload_n 1, 1) := by decide +kernel
theorem dX9_placeAt_13 : decode cX9_placeAt 13 = .ok (.sipush 300, 3) := by decide +kernel
theorem dX9_placeAt_16 : decode cX9_placeAt 16 = .ok (.if_icmp .gt 12, 3) := by decide +kernel
theorem dX9_placeAt_19 : decode cX9_placeAt 19 = .ok (.aload_n 0, 1) := by decide +kernel
theorem dX9_placeAt_20 : decode cX9_placeAt 20 = .ok (.getfield 15, 3) := by decide +kernel
theorem dX9_placeAt_23 : decode cX9_placeAt 23 = .ok (.iload_n 1, 1) := by decide +kernel
theorem dX9_placeAt_24 : decode cX9_placeAt 24 = .ok (.iaload, 1) := by decide +kernel
theorem dX9_placeAt_25 : decode cX9_placeAt 25 = .ok (.goto 4, 3) := by decide +kernel
theorem dX9_placeAt_28 : decode cX9_placeAt 28 = .ok (.iconst (-1), 1) := by decide +kernel
theorem dX9_placeAt_29 : decode cX9_placeAt 29 = .ok (.ireturn, 1) := by decide +kernel
theorem dX9_numberAt_0 : decode cX9_numberAt 0 = .ok (.iload_n 1, 1) := by decide +kernel
theorem dX9_numberAt_1 : decode cX9_numberAt 1 = .ok (.ifCond .lt 27, 3) := by decide +kernel
theorem dX9_numberAt_4 : decode cX9_numberAt 4 = .ok (.iload_n 1, 1) := by decide +kernel
theorem dX9_numberAt_5 : decode cX9_numberAt 5 = .ok (.aload_n 0, 1) := by decide +kernel
theorem dX9_numberAt_6 : decode cX9_numberAt 6 = .ok (.getfield 21, 3) := by decide +kernel
theorem dX9_numberAt_9 : decode cX9_numberAt 9 = .ok (.if_icmp .ge 19, 3) := by decide +kernel
theorem dX9_numberAt_12 : decode cX9_numberAt 12 = .ok (.iload_n 1, 1) := by decide +kernel
theorem dX9_numberAt_13 : decode cX9_numberAt 13 = .ok (.sipush 300, 3) := by decide +kernel
theorem dX9_numberAt_16 : decode cX9_numberAt 16 = .ok (.if_icmp .gt 12, 3) := by decide +kernel
theorem dX9_numberAt_19 : decode cX9_numberAt 19 = .ok (.aload_n 0, 1) := by decide +kernel
theorem dX9_numberAt_20 : decode cX9_numberAt 20 = .ok (.getfield 18, 3) := by decide +kernel
theorem dX9_numberAt_23 : decode cX9_numberAt 23 = .ok (.iload_n 1, 1) := by decide +kernel
theorem dX9_numberAt_24 : decode cX9_numberAt 24 = .ok (.iaload, 1) := by decide +kernel
theorem dX9_numberAt_25 : decode cX9_numberAt 25 = .ok (.goto 4, 3) := by decide +kernel
theorem dX9_numberAt_28 : decode cX9_numberAt 28 = .ok (.iconst 0, 1) := by decide +kernel
theorem dX9_numberAt_29 : decode cX9_numberAt 29 = .ok (.ireturn, 1) := by decide +kernel
theorem dX9_put_0 : decode cX9_put 0 = .ok (.aload_n 0, 1) := by decide +kernel
theorem dX9_put_1 : decode cX9_put 1 = .ok (.getfield 21, 3) := by decide +kernel
theorem dX9_put_4 : decode cX9_put 4 = .ok (.ifCond .lt 53, 3) := by decide +kernel
theorem dX9_put_7 : decode cX9_put 7 = .ok (.aload_n 0, 1) := by decide +kernel
theorem dX9_put_8 : decode cX9_put 8 = .ok (.getfield 21, 3) := by decide +kernel
theorem dX9_put_11 : decode cX9_put 11 = .ok (.sipush 300, 3) := by decide +kernel
theorem dX9_put_14 : decode cX9_put 14 = .ok (.if_icmp .gt 43, 3) := by decide +kernel
theorem dX9_put_17 : decode cX9_put 17 = .ok (.aload_n 0, 1) := by decide +kernel
theorem dX9_put_18 : decode cX9_put 18 = .ok (.getfield 9, 3) := by decide +kernel
theorem dX9_put_21 : decode cX9_put 21 = .ok (.aload_n 0, 1) := by decide +kernel
theorem dX9_put_22 : decode cX9_put 22 = .ok (.getfield 21, 3) := by decide +kernel
theorem dX9_put_25 : decode cX9_put 25 = .ok (.iload_n 1, 1) := by decide +kernel
theorem dX9_put_26 : decode cX9_put 26 = .ok (.iastore, 1) := by decide +kernel
theorem dX9_put_27 : decode cX9_put 27 = .ok (.aload_n 0, 1) := by decide +kernel
theorem dX9_put_28 : decode cX9_put 28 = .ok (.getfield 15, 3) := by decide +kernel
theorem dX9_put_31 : decode cX9_put 31 = .ok (.aload_n 0, 1) := by decide +kernel
theorem dX9_put_32 : decode cX9_put 32 = .ok (.getfield 21, 3) := by decide +kernel
theorem dX9_put_35 : decode cX9_put 35 = .ok (.iload_n 2, 1) := by decide +kernel
theorem dX9_put_36 : decode cX9_put 36 = .ok (.iastore, 1) := by decide +kernel
theorem dX9_put_37 : decode cX9_put 37 = .ok (.aload_n 0, 1) := by decide +kernel
theorem dX9_put_38 : decode cX9_put 38 = .ok (.getfield 18, 3) := by decide +kernel
theorem dX9_put_41 : decode cX9_put 41 = .ok (.aload_n 0, 1) := by decide +kernel
theorem dX9_put_42 : decode cX9_put 42 = .ok (.getfield 21, 3) := by decide +kernel
theorem dX9_put_45 : decode cX9_put 45 = .ok (.iload_n 3, 1) := by decide +kernel
theorem dX9_put_46 : decode cX9_put 46 = .ok (.iastore, 1) := by decide +kernel
theorem dX9_put_47 : decode cX9_put 47 = .ok (.aload_n 0, 1) := by decide +kernel
theorem dX9_put_48 : decode cX9_put 48 = .ok (.dup, 1) := by decide +kernel
theorem dX9_put_49 : decode cX9_put 49 = .ok (.getfield 21, 3) := by decide +kernel
theorem dX9_put_52 : decode cX9_put 52 = .ok (.iconst 1, 1) := by decide +kernel
theorem dX9_put_53 : decode cX9_put 53 = .ok (.iadd, 1) := by decide +kernel
theorem dX9_put_54 : decode cX9_put 54 = .ok (.putfield 21, 3) := by decide +kernel
theorem dX9_put_57 : decode cX9_put 57 = .ok (.return_, 1) := by decide +kernel
theorem dX9_scanOne_0 : decode cX9_scanOne 0 = .ok (.aload_n 1, 1) := by decide +kernel
theorem dX9_scanOne_1 : decode cX9_scanOne 1 = .ok (.iload_n 2, 1) := by decide +kernel
theorem dX9_scanOne_2 : decode cX9_scanOne 2 = .ok (.iaload, 1) := by decide +kernel
theorem dX9_scanOne_3 : decode cX9_scanOne 3 = .ok (.istore 4, 2) := by decide +kernel
theorem dX9_scanOne_5 : decode cX9_scanOne 5 = .ok (.iload_n 2, 1) := by decide +kernel
theorem dX9_scanOne_6 : decode cX9_scanOne 6 = .ok (.iconst 1, 1) := by decide +kernel
theorem dX9_scanOne_7 : decode cX9_scanOne 7 = .ok (.iadd, 1) := by decide +kernel
theorem dX9_scanOne_8 : decode cX9_scanOne 8 = .ok (.istore 5, 2) := by decide +kernel
theorem dX9_scanOne_10 : decode cX9_scanOne 10 = .ok (.iload 4, 2) := by decide +kernel
theorem dX9_scanOne_12 : decode cX9_scanOne 12 = .ok (.invokestatic 39, 3) := by decide +kernel
theorem dX9_scanOne_15 : decode cX9_scanOne 15 = .ok (.ifCond .eq 41, 3) := by decide +kernel
theorem dX9_scanOne_18 : decode cX9_scanOne 18 = .ok (.iload 5, 2) := by decide +kernel
theorem dX9_scanOne_20 : decode cX9_scanOne 20 = .ok (.iload_n 3, 1) := by decide +kernel
theorem dX9_scanOne_21 : decode cX9_scanOne 21 = .ok (.if_icmp .ge 19, 3) := by decide +kernel
theorem dX9_scanOne_24 : decode cX9_scanOne 24 = .ok (.aload_n 1, 1) := by decide +kernel
theorem dX9_scanOne_25 : decode cX9_scanOne 25 = .ok (.iload 5, 2) := by decide +kernel
theorem dX9_scanOne_27 : decode cX9_scanOne 27 = .ok (.iaload, 1) := by decide +kernel
theorem dX9_scanOne_28 : decode cX9_scanOne 28 = .ok (.invokestatic 39, 3) := by decide +kernel
theorem dX9_scanOne_31 : decode cX9_scanOne 31 = .ok (.ifCond .eq 9, 3) := by decide +kernel
theorem dX9_scanOne_34 : decode cX9_scanOne 34 = .ok (.iinc 5 1, 3) := by decide +kernel
theorem dX9_scanOne_37 : decode cX9_scanOne 37 = .ok (.goto (-19), 3) := by decide +kernel
theorem dX9_scanOne_40 : decode cX9_scanOne 40 = .ok (.aload_n 0, 1) := by decide +kernel
theorem dX9_scanOne_41 : decode cX9_scanOne 41 = .ok (.aload_n 1, 1) := by decide +kernel
theorem dX9_scanOne_42 : decode cX9_scanOne 42 = .ok (.iload_n 2, 1) := by decide +kernel
theorem dX9_scanOne_43 : decode cX9_scanOne 43 = .ok (.iload 5, 2) := by decide +kernel
theorem dX9_scanOne_45 : decode cX9_scanOne 45 = .ok (.invokestatic 43, 3) := by decide +kernel
theorem dX9_scanOne_48 : decode cX9_scanOne 48 = .ok (.iload_n 2, 1) := by decide +kernel
theorem dX9_scanOne_49 : decode cX9_scanOne 49 = .ok (.iconst 0, 1) := by decide +kernel
theorem dX9_scanOne_50 : decode cX9_scanOne 50 = .ok (.invokevirtual 35, 3) := by decide +kernel
theorem dX9_scanOne_53 : decode cX9_scanOne 53 = .ok (.goto 149, 3) := by decide +kernel
theorem dX9_scanOne_56 : decode cX9_scanOne 56 = .ok (.iload 4, 2) := by decide +kernel
theorem dX9_scanOne_58 : decode cX9_scanOne 58 = .ok (.invokestatic 46, 3) := by decide +kernel
theorem dX9_scanOne_61 : decode cX9_scanOne 61 = .ok (.ifCond .eq 64, 3) := by decide +kernel
theorem dX9_scanOne_64 : decode cX9_scanOne 64 = .ok (.iload 4, 2) := by decide +kernel
theorem dX9_scanOne_66 : decode cX9_scanOne 66 = .ok (.bipush 48, 2) := by decide +kernel
theorem dX9_scanOne_68 : decode cX9_scanOne 68 = .ok (.isub, 1) := by decide +kernel
theorem dX9_scanOne_69 : decode cX9_scanOne 69 = .ok (.istore 6, 2) := by decide +kernel
theorem dX9_scanOne_71 : decode cX9_scanOne 71 = .ok (.iload 5, 2) := by decide +kernel
theorem dX9_scanOne_73 : decode cX9_scanOne 73 = .ok (.iload_n 3, 1) := by decide +kernel
theorem dX9_scanOne_74 : decode cX9_scanOne 74 = .ok (.if_icmp .ge 40, 3) := by decide +kernel
theorem dX9_scanOne_77 : decode cX9_scanOne 77 = .ok (.aload_n 1, 1) := by decide +kernel
theorem dX9_scanOne_78 : decode cX9_scanOne 78 = .ok (.iload 5, 2) := by decide +kernel
theorem dX9_scanOne_80 : decode cX9_scanOne 80 = .ok (.iaload, 1) := by decide +kernel
theorem dX9_scanOne_81 : decode cX9_scanOne 81 = .ok (.invokestatic 46, 3) := by decide +kernel
theorem dX9_scanOne_84 : decode cX9_scanOne 84 = .ok (.ifCond .eq 30, 3) := by decide +kernel
theorem dX9_scanOne_87 : decode cX9_scanOne 87 = .ok (.sipush 10000, 3) := by decide +kernel
theorem dX9_scanOne_90 : decode cX9_scanOne 90 = .ok (.iload 6, 2) := by decide +kernel
theorem dX9_scanOne_92 : decode cX9_scanOne 92 = .ok (.bipush 10, 2) := by decide +kernel
theorem dX9_scanOne_94 : decode cX9_scanOne 94 = .ok (.imul, 1) := by decide +kernel
theorem dX9_scanOne_95 : decode cX9_scanOne 95 = .ok (.aload_n 1, 1) := by decide +kernel
theorem dX9_scanOne_96 : decode cX9_scanOne 96 = .ok (.iload 5, 2) := by decide +kernel
theorem dX9_scanOne_98 : decode cX9_scanOne 98 = .ok (.iaload, 1) := by decide +kernel
theorem dX9_scanOne_99 : decode cX9_scanOne 99 = .ok (.iadd, 1) := by decide +kernel
theorem dX9_scanOne_100 : decode cX9_scanOne 100 = .ok (.bipush 48, 2) := by decide +kernel
theorem dX9_scanOne_102 : decode cX9_scanOne 102 = .ok (.isub, 1) := by decide +kernel
theorem dX9_scanOne_103 : decode cX9_scanOne 103 = .ok (.invokestatic 25, 3) := by decide +kernel
theorem dX9_scanOne_106 : decode cX9_scanOne 106 = .ok (.istore 6, 2) := by decide +kernel
theorem dX9_scanOne_108 : decode cX9_scanOne 108 = .ok (.iinc 5 1, 3) := by decide +kernel
theorem dX9_scanOne_111 : decode cX9_scanOne 111 = .ok (.goto (-40), 3) := by decide +kernel
theorem dX9_scanOne_114 : decode cX9_scanOne 114 = .ok (.aload_n 0, 1) := by decide +kernel
theorem dX9_scanOne_115 : decode cX9_scanOne 115 = .ok (.iconst 2, 1) := by decide +kernel
theorem dX9_scanOne_116 : decode cX9_scanOne 116 = .ok (.iload_n 2, 1) := by decide +kernel
theorem dX9_scanOne_117 : decode cX9_scanOne 117 = .ok (.iload 6, 2) := by decide +kernel
theorem dX9_scanOne_119 : decode cX9_scanOne 119 = .ok (.invokevirtual 35, 3) := by decide +kernel
theorem dX9_scanOne_122 : decode cX9_scanOne 122 = .ok (.goto 80, 3) := by decide +kernel
theorem dX9_scanOne_125 : decode cX9_scanOne 125 = .ok (.iload 4, 2) := by decide +kernel
theorem dX9_scanOne_127 : decode cX9_scanOne 127 = .ok (.bipush 60, 2) := by decide +kernel
theorem dX9_scanOne_129 : decode cX9_scanOne 129 = .ok (.if_icmp .eq 10, 3) := by decide +kernel
theorem dX9_scanOne_132 : decode cX9_scanOne 132 = .ok (.iload 4, 2) := by decide +kernel
theorem dX9_scanOne_134 : decode cX9_scanOne 134 = .ok (.bipush 62, 2) := by decide +kernel
theorem dX9_scanOne_136 : decode cX9_scanOne 136 = .ok (.if_icmp .ne 22, 3) := by decide +kernel
theorem dX9_scanOne_139 : decode cX9_scanOne 139 = .ok (.iload 5, 2) := by decide +kernel
theorem dX9_scanOne_141 : decode cX9_scanOne 141 = .ok (.iload_n 3, 1) := by decide +kernel
theorem dX9_scanOne_142 : decode cX9_scanOne 142 = .ok (.if_icmp .ge 16, 3) := by decide +kernel
theorem dX9_scanOne_145 : decode cX9_scanOne 145 = .ok (.aload_n 1, 1) := by decide +kernel
theorem dX9_scanOne_146 : decode cX9_scanOne 146 = .ok (.iload 5, 2) := by decide +kernel
theorem dX9_scanOne_148 : decode cX9_scanOne 148 = .ok (.iaload, 1) := by decide +kernel
theorem dX9_scanOne_149 : decode cX9_scanOne 149 = .ok (.bipush 61, 2) := by decide +kernel
theorem dX9_scanOne_151 : decode cX9_scanOne 151 = .ok (.if_icmp .ne 7, 3) := by decide +kernel
theorem dX9_scanOne_154 : decode cX9_scanOne 154 = .ok (.iconst 1, 1) := by decide +kernel
theorem dX9_scanOne_155 : decode cX9_scanOne 155 = .ok (.goto 4, 3) := by decide +kernel
theorem dX9_scanOne_158 : decode cX9_scanOne 158 = .ok (.iconst 0, 1) := by decide +kernel
theorem dX9_scanOne_159 : decode cX9_scanOne 159 = .ok (.istore 6, 2) := by decide +kernel
theorem dX9_scanOne_161 : decode cX9_scanOne 161 = .ok (.aload_n 0, 1) := by decide +kernel
theorem dX9_scanOne_162 : decode cX9_scanOne 162 = .ok (.iload 6, 2) := by decide +kernel
theorem dX9_scanOne_164 : decode cX9_scanOne 164 = .ok (.ifCond .eq 13, 3) := by decide +kernel
theorem dX9_scanOne_167 : decode cX9_scanOne 167 = .ok (.iload 4, 2) := by decide +kernel
theorem dX9_scanOne_169 : decode cX9_scanOne 169 = .ok (.invokestatic 49, 3) := by decide +kernel
theorem dX9_scanOne_172 : decode cX9_scanOne 172 = .ok (.iconst 1, 1) := by decide +kernel
theorem dX9_scanOne_173 : decode cX9_scanOne 173 = .ok (.iadd, 1) := by decide +kernel
theorem dX9_scanOne_174 : decode cX9_scanOne 174 = .ok (.goto 8, 3) := by decide +kernel
theorem dX9_scanOne_177 : decode cX9_scanOne 177 = .ok (.iload 4, 2) := by decide +kernel
theorem dX9_scanOne_179 : decode cX9_scanOne 179 = .ok (.invokestatic 49, 3) := by decide +kernel
theorem dX9_scanOne_182 : decode cX9_scanOne 182 = .ok (.iload_n 2, 1) := by decide +kernel
theorem dX9_scanOne_183 : decode cX9_scanOne 183 = .ok (.iconst 0, 1) := by decide +kernel
theorem dX9_scanOne_184 : decode cX9_scanOne 184 = .ok (.invokevirtual 35, 3) := by decide +kernel
theorem dX9_scanOne_187 : decode cX9_scanOne 187 = .ok (.iload 5, 2) := by decide +kernel
theorem dX9_scanOne_189 : decode cX9_scanOne 189 = .ok (.iload 6, 2) := by decide +kernel
theorem dX9_scanOne_191 : decode cX9_scanOne 191 = .ok (.ifCond .eq 7, 3) := by decide +kernel
theorem dX9_scanOne_194 : decode cX9_scanOne 194 = .ok (.iconst 1, 1) := by decide +kernel
theorem dX9_scanOne_195 : decode cX9_scanOne 195 = .ok (.goto 4, 3) := by decide +kernel
theorem dX9_scanOne_198 : decode cX9_scanOne 198 = .ok (.iconst 0, 1) := by decide +kernel
theorem dX9_scanOne_199 : decode cX9_scanOne 199 = .ok (.iadd, 1) := by decide +kernel
theorem dX9_scanOne_200 : decode cX9_scanOne 200 = .ok (.istore 5, 2) := by decide +kernel
theorem dX9_scanOne_202 : decode cX9_scanOne 202 = .ok (.iload 5, 2) := by decide +kernel
theorem dX9_scanOne_204 : decode cX9_scanOne 204 = .ok (.iload_n 2, 1) := by decide +kernel
theorem dX9_scanOne_205 : decode cX9_scanOne 205 = .ok (.isub, 1) := by decide +kernel
theorem dX9_scanOne_206 : decode cX9_scanOne 206 = .ok (.ireturn, 1) := by decide +kernel
theorem dX9_isLetter_0 : decode cX9_isLetter 0 = .ok (.iload_n 0, 1) := by decide +kernel
theorem dX9_isLetter_1 : decode cX9_isLetter 1 = .ok (.bipush 97, 2) := by decide +kernel
theorem dX9_isLetter_3 : decode cX9_isLetter 3 = .ok (.if_icmp .lt 9, 3) := by decide +kernel
theorem dX9_isLetter_6 : decode cX9_isLetter 6 = .ok (.iload_n 0, 1) := by decide +kernel
theorem dX9_isLetter_7 : decode cX9_isLetter 7 = .ok (.bipush 122, 2) := by decide +kernel
theorem dX9_isLetter_9 : decode cX9_isLetter 9 = .ok (.if_icmp .le 15, 3) := by decide +kernel
theorem dX9_isLetter_12 : decode cX9_isLetter 12 = .ok (.iload_n 0, 1) := by decide +kernel
theorem dX9_isLetter_13 : decode cX9_isLetter 13 = .ok (.bipush 65, 2) := by decide +kernel
theorem dX9_isLetter_15 : decode cX9_isLetter 15 = .ok (.if_icmp .lt 13, 3) := by decide +kernel
theorem dX9_isLetter_18 : decode cX9_isLetter 18 = .ok (.iload_n 0, 1) := by decide +kernel
theorem dX9_isLetter_19 : decode cX9_isLetter 19 = .ok (.bipush 90, 2) := by decide +kernel
theorem dX9_isLetter_21 : decode cX9_isLetter 21 = .ok (.if_icmp .gt 7, 3) := by decide +kernel
theorem dX9_isLetter_24 : decode cX9_isLetter 24 = .ok (.iconst 1, 1) := by decide +kernel
theorem dX9_isLetter_25 : decode cX9_isLetter 25 = .ok (.goto 4, 3) := by decide +kernel
theorem dX9_isLetter_28 : decode cX9_isLetter 28 = .ok (.iconst 0, 1) := by decide +kernel
theorem dX9_isLetter_29 : decode cX9_isLetter 29 = .ok (.ireturn, 1) := by decide +kernel
theorem dX9_isDigit_0 : decode cX9_isDigit 0 = .ok (.iload_n 0, 1) := by decide +kernel
theorem dX9_isDigit_1 : decode cX9_isDigit 1 = .ok (.bipush 48, 2) := by decide +kernel
theorem dX9_isDigit_3 : decode cX9_isDigit 3 = .ok (.if_icmp .lt 13, 3) := by decide +kernel
theorem dX9_isDigit_6 : decode cX9_isDigit 6 = .ok (.iload_n 0, 1) := by decide +kernel
theorem dX9_isDigit_7 : decode cX9_isDigit 7 = .ok (.bipush 57, 2) := by decide +kernel
theorem dX9_isDigit_9 : decode cX9_isDigit 9 = .ok (.if_icmp .gt 7, 3) := by decide +kernel
theorem dX9_isDigit_12 : decode cX9_isDigit 12 = .ok (.iconst 1, 1) := by decide +kernel
theorem dX9_isDigit_13 : decode cX9_isDigit 13 = .ok (.goto 4, 3) := by decide +kernel
theorem dX9_isDigit_16 : decode cX9_isDigit 16 = .ok (.iconst 0, 1) := by decide +kernel
theorem dX9_isDigit_17 : decode cX9_isDigit 17 = .ok (.ireturn, 1) := by decide +kernel
theorem dX9_signKind_0 : decode cX9_signKind 0 = .ok (.iload_n 0, 1) := by decide +kernel
theorem dX9_signKind_1 : decode cX9_signKind 1 = .ok (.tableswitch 158 35 62 #[134, 158, 158, 158, 158, 149, 152, 143, 137, 158, 140, 158, 146, 158, 158, 158, 158, 158, 158, 158, 158, 158, 158, 158, 155, 127, 131, 129], 127) := by decide +kernel
theorem dX9_signKind_128 : decode cX9_signKind 128 = .ok (.iconst 3, 1) := by decide +kernel
theorem dX9_signKind_129 : decode cX9_signKind 129 = .ok (.ireturn, 1) := by decide +kernel
theorem dX9_signKind_130 : decode cX9_signKind 130 = .ok (.iconst 5, 1) := by decide +kernel
theorem dX9_signKind_131 : decode cX9_signKind 131 = .ok (.ireturn, 1) := by decide +kernel
theorem dX9_signKind_132 : decode cX9_signKind 132 = .ok (.bipush 7, 2) := by decide +kernel
theorem dX9_signKind_134 : decode cX9_signKind 134 = .ok (.ireturn, 1) := by decide +kernel
theorem dX9_signKind_135 : decode cX9_signKind 135 = .ok (.bipush 8, 2) := by decide +kernel
theorem dX9_signKind_137 : decode cX9_signKind 137 = .ok (.ireturn, 1) := by decide +kernel
theorem dX9_signKind_138 : decode cX9_signKind 138 = .ok (.bipush 9, 2) := by decide +kernel
theorem dX9_signKind_140 : decode cX9_signKind 140 = .ok (.ireturn, 1) := by decide +kernel
theorem dX9_signKind_141 : decode cX9_signKind 141 = .ok (.bipush 10, 2) := by decide +kernel
theorem dX9_signKind_143 : decode cX9_signKind 143 = .ok (.ireturn, 1) := by decide +kernel
theorem dX9_signKind_144 : decode cX9_signKind 144 = .ok (.bipush 11, 2) := by decide +kernel
theorem dX9_signKind_146 : decode cX9_signKind 146 = .ok (.ireturn, 1) := by decide +kernel
theorem dX9_signKind_147 : decode cX9_signKind 147 = .ok (.bipush 12, 2) := by decide +kernel
theorem dX9_signKind_149 : decode cX9_signKind 149 = .ok (.ireturn, 1) := by decide +kernel
theorem dX9_signKind_150 : decode cX9_signKind 150 = .ok (.bipush 13, 2) := by decide +kernel
theorem dX9_signKind_152 : decode cX9_signKind 152 = .ok (.ireturn, 1) := by decide +kernel
theorem dX9_signKind_153 : decode cX9_signKind 153 = .ok (.bipush 14, 2) := by decide +kernel
theorem dX9_signKind_155 : decode cX9_signKind 155 = .ok (.ireturn, 1) := by decide +kernel
theorem dX9_signKind_156 : decode cX9_signKind 156 = .ok (.bipush 15, 2) := by decide +kernel
theorem dX9_signKind_158 : decode cX9_signKind 158 = .ok (.ireturn, 1) := by decide +kernel
theorem dX9_signKind_159 : decode cX9_signKind 159 = .ok (.iconst 1, 1) := by decide +kernel
theorem dX9_signKind_160 : decode cX9_signKind 160 = .ok (.ireturn, 1) := by decide +kernel
theorem dX9_wordKind_0 : decode cX9_wordKind 0 = .ok (.iload_n 2, 1) := by decide +kernel
theorem dX9_wordKind_1 : decode cX9_wordKind 1 = .ok (.iload_n 1, 1) := by decide +kernel
theorem dX9_wordKind_2 : decode cX9_wordKind 2 = .ok (.isub, 1) := by decide +kernel
theorem dX9_wordKind_3 : decode cX9_wordKind 3 = .ok (.tableswitch 110 2 7 #[37, 43, 49, 55, 61, 93], 37) := by decide +kernel
theorem dX9_wordKind_40 : decode cX9_wordKind 40 = .ok (.aload_n 0, 1) := by decide +kernel
theorem dX9_wordKind_41 : decode cX9_wordKind 41 = .ok (.iload_n 1, 1) := by decide +kernel
theorem dX9_wordKind_42 : decode cX9_wordKind 42 = .ok (.invokestatic 53, 3) := by decide +kernel
theorem dX9_wordKind_45 : decode cX9_wordKind 45 = .ok (.ireturn, 1) := by decide +kernel
theorem dX9_wordKind_46 : decode cX9_wordKind 46 = .ok (.aload_n 0, 1) := by decide +kernel
theorem dX9_wordKind_47 : decode cX9_wordKind 47 = .ok (.iload_n 1, 1) := by decide +kernel
theorem dX9_wordKind_48 : decode cX9_wordKind 48 = .ok (.invokestatic 57, 3) := by decide +kernel
theorem dX9_wordKind_51 : decode cX9_wordKind 51 = .ok (.ireturn, 1) := by decide +kernel
theorem dX9_wordKind_52 : decode cX9_wordKind 52 = .ok (.aload_n 0, 1) := by decide +kernel
theorem dX9_wordKind_53 : decode cX9_wordKind 53 = .ok (.iload_n 1, 1) := by decide +kernel
theorem dX9_wordKind_54 : decode cX9_wordKind 54 = .ok (.invokestatic 60, 3) := by decide +kernel
theorem dX9_wordKind_57 : decode cX9_wordKind 57 = .ok (.ireturn, 1) := by decide +kernel
theorem dX9_wordKind_58 : decode cX9_wordKind 58 = .ok (.aload_n 0, 1) := by decide +kernel
theorem dX9_wordKind_59 : decode cX9_wordKind 59 = .ok (.iload_n 1, 1) := by decide +kernel
theorem dX9_wordKind_60 : decode cX9_wordKind 60 = .ok (.invokestatic 63, 3) := by decide +kernel
theorem dX9_wordKind_63 : decode cX9_wordKind 63 = .ok (.ireturn, 1) := by decide +kernel
theorem dX9_wordKind_64 : decode cX9_wordKind 64 = .ok (.aload_n 0, 1) := by decide +kernel
theorem dX9_wordKind_65 : decode cX9_wordKind 65 = .ok (.iload_n 1, 1) := by decide +kernel
theorem dX9_wordKind_66 : decode cX9_wordKind 66 = .ok (.ldc 66, 2) := by decide +kernel
theorem dX9_wordKind_68 : decode cX9_wordKind 68 = .ok (.invokestatic 68, 3) := by decide +kernel
theorem dX9_wordKind_71 : decode cX9_wordKind 71 = .ok (.ifCond .eq 8, 3) := by decide +kernel
theorem dX9_wordKind_74 : decode cX9_wordKind 74 = .ok (.bipush 22, 2) := by decide +kernel
theorem dX9_wordKind_76 : decode cX9_wordKind 76 = .ok (.goto 19, 3) := by decide +kernel
theorem dX9_wordKind_79 : decode cX9_wordKind 79 = .ok (.aload_n 0, 1) := by decide +kernel
theorem dX9_wordKind_80 : decode cX9_wordKind 80 = .ok (.iload_n 1, 1) := by decide +kernel
theorem dX9_wordKind_81 : decode cX9_wordKind 81 = .ok (.ldc 72, 2) := by decide +kernel
theorem dX9_wordKind_83 : decode cX9_wordKind 83 = .ok (.invokestatic 68, 3) := by decide +kernel
theorem dX9_wordKind_86 : decode cX9_wordKind 86 = .ok (.ifCond .eq 8, 3) := by decide +kernel
theorem dX9_wordKind_89 : decode cX9_wordKind 89 = .ok (.bipush 29, 2) := by decide +kernel
theorem dX9_wordKind_91 : decode cX9_wordKind 91 = .ok (.goto 4, 3) := by decide +kernel
theorem dX9_wordKind_94 : decode cX9_wordKind 94 = .ok (.iconst 1, 1) := by decide +kernel
theorem dX9_wordKind_95 : decode cX9_wordKind 95 = .ok (.ireturn, 1) := by decide +kernel
theorem dX9_wordKind_96 : decode cX9_wordKind 96 = .ok (.aload_n 0, 1) := by decide +kernel
theorem dX9_wordKind_97 : decode cX9_wordKind 97 = .ok (.iload_n 1, 1) := by decide +kernel
theorem dX9_wordKind_98 : decode cX9_wordKind 98 = .ok (.ldc 74, 2) := by decide +kernel
theorem dX9_wordKind_100 : decode cX9_wordKind 100 = .ok (.invokestatic 68, 3) := by decide +kernel
theorem dX9_wordKind_103 : decode cX9_wordKind 103 = .ok (.ifCond .eq 8, 3) := by decide +kernel
theorem dX9_wordKind_106 : decode cX9_wordKind 106 = .ok (.bipush 40, 2) := by decide +kernel
theorem dX9_wordKind_108 : decode cX9_wordKind 108 = .ok (.goto 4, 3) := by decide +kernel
theorem dX9_wordKind_111 : decode cX9_wordKind 111 = .ok (.iconst 1, 1) := by decide +kernel
theorem dX9_wordKind_112 : decode cX9_wordKind 112 = .ok (.ireturn, 1) := by decide +kernel
theorem dX9_wordKind_113 : decode cX9_wordKind 113 = .ok (.iconst 1, 1) := by decide +kernel
theorem dX9_wordKind_114 : decode cX9_wordKind 114 = .ok (.ireturn, 1) := by decide +kernel
theorem dX9_twoLetters_0 : decode cX9_twoLetters 0 = .ok (.aload_n 0, 1) := by decide +kernel
theorem dX9_twoLetters_1 : decode cX9_twoLetters 1 = .ok (.iload_n 1, 1) := by decide +kernel
theorem dX9_twoLetters_2 : decode cX9_twoLetters 2 = .ok (.ldc 76, 2) := by decide +kernel
theorem dX9_twoLetters_4 : decode cX9_twoLetters 4 = .ok (.invokestatic 68, 3) := by decide +kernel
theorem dX9_twoLetters_7 : decode cX9_twoLetters 7 = .ok (.ifCond .eq 6, 3) := by decide +kernel
theorem dX9_twoLetters_10 : decode cX9_twoLetters 10 = .ok (.bipush 19, 2) := by decide +kernel
theorem dX9_twoLetters_12 : decode cX9_twoLetters 12 = .ok (.ireturn, 1) := by decide +kernel
theorem dX9_twoLetters_13 : decode cX9_twoLetters 13 = .ok (.aload_n 0, 1) := by decide +kernel
theorem dX9_twoLetters_14 : decode cX9_twoLetters 14 = .ok (.iload_n 1, 1) := by decide +kernel
theorem dX9_twoLetters_15 : decode cX9_twoLetters 15 = .ok (.ldc 78, 2) := by decide +kernel
theorem dX9_twoLetters_17 : decode cX9_twoLetters 17 = .ok (.invokestatic 68, 3) := by decide +kernel
theorem dX9_twoLetters_20 : decode cX9_twoLetters 20 = .ok (.ifCond .eq 6, 3) := by decide +kernel
theorem dX9_twoLetters_23 : decode cX9_twoLetters 23 = .ok (.bipush 21, 2) := by decide +kernel
theorem dX9_twoLetters_25 : decode cX9_twoLetters 25 = .ok (.ireturn, 1) := by decide +kernel
theorem dX9_twoLetters_26 : decode cX9_twoLetters 26 = .ok (.aload_n 0, 1) := by decide +kernel
theorem dX9_twoLetters_27 : decode cX9_twoLetters 27 = .ok (.iload_n 1, 1) := by decide +kernel
theorem dX9_twoLetters_28 : decode cX9_twoLetters 28 = .ok (.ldc 80, 2) := by decide +kernel
theorem dX9_twoLetters_30 : decode cX9_twoLetters 30 = .ok (.invokestatic 68, 3) := by decide +kernel
theorem dX9_twoLetters_33 : decode cX9_twoLetters 33 = .ok (.ifCond .eq 6, 3) := by decide +kernel
theorem dX9_twoLetters_36 : decode cX9_twoLetters 36 = .ok (.bipush 26, 2) := by decide +kernel
theorem dX9_twoLetters_38 : decode cX9_twoLetters 38 = .ok (.ireturn, 1) := by decide +kernel
theorem dX9_twoLetters_39 : decode cX9_twoLetters 39 = .ok (.aload_n 0, 1) := by decide +kernel
theorem dX9_twoLetters_40 : decode cX9_twoLetters 40 = .ok (.iload_n 1, 1) := by decide +kernel
theorem dX9_twoLetters_41 : decode cX9_twoLetters 41 = .ok (.ldc 82, 2) := by decide +kernel
theorem dX9_twoLetters_43 : decode cX9_twoLetters 43 = .ok (.invokestatic 68, 3) := by decide +kernel
theorem dX9_twoLetters_46 : decode cX9_twoLetters 46 = .ok (.ifCond .eq 6, 3) := by decide +kernel
theorem dX9_twoLetters_49 : decode cX9_twoLetters 49 = .ok (.bipush 31, 2) := by decide +kernel
theorem dX9_twoLetters_51 : decode cX9_twoLetters 51 = .ok (.ireturn, 1) := by decide +kernel
theorem dX9_twoLetters_52 : decode cX9_twoLetters 52 = .ok (.aload_n 0, 1) := by decide +kernel
theorem dX9_twoLetters_53 : decode cX9_twoLetters 53 = .ok (.iload_n 1, 1) := by decide +kernel
theorem dX9_twoLetters_54 : decode cX9_twoLetters 54 = .ok (.ldc 84, 2) := by decide +kernel
theorem dX9_twoLetters_56 : decode cX9_twoLetters 56 = .ok (.invokestatic 68, 3) := by decide +kernel
theorem dX9_twoLetters_59 : decode cX9_twoLetters 59 = .ok (.ifCond .eq 8, 3) := by decide +kernel
theorem dX9_twoLetters_62 : decode cX9_twoLetters 62 = .ok (.bipush 35, 2) := by decide +kernel
theorem dX9_twoLetters_64 : decode cX9_twoLetters 64 = .ok (.goto 4, 3) := by decide +kernel
theorem dX9_twoLetters_67 : decode cX9_twoLetters 67 = .ok (.iconst 1, 1) := by decide +kernel
theorem dX9_twoLetters_68 : decode cX9_twoLetters 68 = .ok (.ireturn, 1) := by decide +kernel
theorem dX9_threeLetters_0 : decode cX9_threeLetters 0 = .ok (.aload_n 0, 1) := by decide +kernel
theorem dX9_threeLetters_1 : decode cX9_threeLetters 1 = .ok (.iload_n 1, 1) := by decide +kernel
theorem dX9_threeLetters_2 : decode cX9_threeLetters 2 = .ok (.ldc 86, 2) := by decide +kernel
theorem dX9_threeLetters_4 : decode cX9_threeLetters 4 = .ok (.invokestatic 68, 3) := by decide +kernel
theorem dX9_threeLetters_7 : decode cX9_threeLetters 7 = .ok (.ifCond .eq 6, 3) := by decide +kernel
theorem dX9_threeLetters_10 : decode cX9_threeLetters 10 = .ok (.bipush 24, 2) := by decide +kernel
theorem dX9_threeLetters_12 : decode cX9_threeLetters 12 = .ok (.ireturn, 1) := by decide +kernel
theorem dX9_threeLetters_13 : decode cX9_threeLetters 13 = .ok (.aload_n 0, 1) := by decide +kernel
theorem dX9_threeLetters_14 : decode cX9_threeLetters 14 = .ok (.iload_n 1, 1) := by decide +kernel
theorem dX9_threeLetters_15 : decode cX9_threeLetters 15 = .ok (.ldc 88, 2) := by decide +kernel
theorem dX9_threeLetters_17 : decode cX9_threeLetters 17 = .ok (.invokestatic 68, 3) := by decide +kernel
theorem dX9_threeLetters_20 : decode cX9_threeLetters 20 = .ok (.ifCond .eq 6, 3) := by decide +kernel
theorem dX9_threeLetters_23 : decode cX9_threeLetters 23 = .ok (.bipush 28, 2) := by decide +kernel
theorem dX9_threeLetters_25 : decode cX9_threeLetters 25 = .ok (.ireturn, 1) := by decide +kernel
theorem dX9_threeLetters_26 : decode cX9_threeLetters 26 = .ok (.aload_n 0, 1) := by decide +kernel
theorem dX9_threeLetters_27 : decode cX9_threeLetters 27 = .ok (.iload_n 1, 1) := by decide +kernel
theorem dX9_threeLetters_28 : decode cX9_threeLetters 28 = .ok (.ldc 90, 2) := by decide +kernel
theorem dX9_threeLetters_30 : decode cX9_threeLetters 30 = .ok (.invokestatic 68, 3) := by decide +kernel
theorem dX9_threeLetters_33 : decode cX9_threeLetters 33 = .ok (.ifCond .eq 6, 3) := by decide +kernel
theorem dX9_threeLetters_36 : decode cX9_threeLetters 36 = .ok (.bipush 34, 2) := by decide +kernel
theorem dX9_threeLetters_38 : decode cX9_threeLetters 38 = .ok (.ireturn, 1) := by decide +kernel
theorem dX9_threeLetters_39 : decode cX9_threeLetters 39 = .ok (.aload_n 0, 1) := by decide +kernel
theorem dX9_threeLetters_40 : decode cX9_threeLetters 40 = .ok (.iload_n 1, 1) := by decide +kernel
theorem dX9_threeLetters_41 : decode cX9_threeLetters 41 = .ok (.ldc 92, 2) := by decide +kernel
theorem dX9_threeLetters_43 : decode cX9_threeLetters 43 = .ok (.invokestatic 68, 3) := by decide +kernel
theorem dX9_threeLetters_46 : decode cX9_threeLetters 46 = .ok (.ifCond .eq 6, 3) := by decide +kernel
theorem dX9_threeLetters_49 : decode cX9_threeLetters 49 = .ok (.bipush 36, 2) := by decide +kernel
theorem dX9_threeLetters_51 : decode cX9_threeLetters 51 = .ok (.ireturn, 1) := by decide +kernel
theorem dX9_threeLetters_52 : decode cX9_threeLetters 52 = .ok (.aload_n 0, 1) := by decide +kernel
theorem dX9_threeLetters_53 : decode cX9_threeLetters 53 = .ok (.iload_n 1, 1) := by decide +kernel
theorem dX9_threeLetters_54 : decode cX9_threeLetters 54 = .ok (.ldc 94, 2) := by decide +kernel
theorem dX9_threeLetters_56 : decode cX9_threeLetters 56 = .ok (.invokestatic 68, 3) := by decide +kernel
theorem dX9_threeLetters_59 : decode cX9_threeLetters 59 = .ok (.ifCond .eq 6, 3) := by decide +kernel
theorem dX9_threeLetters_62 : decode cX9_threeLetters 62 = .ok (.bipush 37, 2) := by decide +kernel
theorem dX9_threeLetters_64 : decode cX9_threeLetters 64 = .ok (.ireturn, 1) := by decide +kernel
theorem dX9_threeLetters_65 : decode cX9_threeLetters 65 = .ok (.aload_n 0, 1) := by decide +kernel
theorem dX9_threeLetters_66 : decode cX9_threeLetters 66 = .ok (.iload_n 1, 1) := by decide +kernel
theorem dX9_threeLetters_67 : decode cX9_threeLetters 67 = .ok (.ldc 96, 2) := by decide +kernel
theorem dX9_threeLetters_69 : decode cX9_threeLetters 69 = .ok (.invokestatic 68, 3) := by decide +kernel
theorem dX9_threeLetters_72 : decode cX9_threeLetters 72 = .ok (.ifCond .eq 8, 3) := by decide +kernel
theorem dX9_threeLetters_75 : decode cX9_threeLetters 75 = .ok (.bipush 38, 2) := by decide +kernel
theorem dX9_threeLetters_77 : decode cX9_threeLetters 77 = .ok (.goto 4, 3) := by decide +kernel
theorem dX9_threeLetters_80 : decode cX9_threeLetters 80 = .ok (.iconst 1, 1) := by decide +kernel
theorem dX9_threeLetters_81 : decode cX9_threeLetters 81 = .ok (.ireturn, 1) := by decide +kernel
theorem dX9_fourLetters_0 : decode cX9_fourLetters 0 = .ok (.aload_n 0, 1) := by decide +kernel
theorem dX9_fourLetters_1 : decode cX9_fourLetters 1 = .ok (.iload_n 1, 1) := by decide +kernel
theorem dX9_fourLetters_2 : decode cX9_fourLetters 2 = .ok (.ldc 98, 2) := by decide +kernel
theorem dX9_fourLetters_4 : decode cX9_fourLetters 4 = .ok (.invokestatic 68, 3) := by decide +kernel
theorem dX9_fourLetters_7 : decode cX9_fourLetters 7 = .ok (.ifCond .eq 6, 3) := by decide +kernel
theorem dX9_fourLetters_10 : decode cX9_fourLetters 10 = .ok (.bipush 18, 2) := by decide +kernel
theorem dX9_fourLetters_12 : decode cX9_fourLetters 12 = .ok (.ireturn, 1) := by decide +kernel
theorem dX9_fourLetters_13 : decode cX9_fourLetters 13 = .ok (.aload_n 0, 1) := by decide +kernel
theorem dX9_fourLetters_14 : decode cX9_fourLetters 14 = .ok (.iload_n 1, 1) := by decide +kernel
theorem dX9_fourLetters_15 : decode cX9_fourLetters 15 = .ok (.ldc 100, 2) := by decide +kernel
theorem dX9_fourLetters_17 : decode cX9_fourLetters 17 = .ok (.invokestatic 68, 3) := by decide +kernel
theorem dX9_fourLetters_20 : decode cX9_fourLetters 20 = .ok (.ifCond .eq 6, 3) := by decide +kernel
theorem dX9_fourLetters_23 : decode cX9_fourLetters 23 = .ok (.bipush 20, 2) := by decide +kernel
theorem dX9_fourLetters_25 : decode cX9_fourLetters 25 = .ok (.ireturn, 1) := by decide +kernel
theorem dX9_fourLetters_26 : decode cX9_fourLetters 26 = .ok (.aload_n 0, 1) := by decide +kernel
theorem dX9_fourLetters_27 : decode cX9_fourLetters 27 = .ok (.iload_n 1, 1) := by decide +kernel
theorem dX9_fourLetters_28 : decode cX9_fourLetters 28 = .ok (.ldc 102, 2) := by decide +kernel
theorem dX9_fourLetters_30 : decode cX9_fourLetters 30 = .ok (.invokestatic 68, 3) := by decide +kernel
theorem dX9_fourLetters_33 : decode cX9_fourLetters 33 = .ok (.ifCond .eq 6, 3) := by decide +kernel
theorem dX9_fourLetters_36 : decode cX9_fourLetters 36 = .ok (.bipush 25, 2) := by decide +kernel
theorem dX9_fourLetters_38 : decode cX9_fourLetters 38 = .ok (.ireturn, 1) := by decide +kernel
theorem dX9_fourLetters_39 : decode cX9_fourLetters 39 = .ok (.aload_n 0, 1) := by decide +kernel
theorem dX9_fourLetters_40 : decode cX9_fourLetters 40 = .ok (.iload_n 1, 1) := by decide +kernel
theorem dX9_fourLetters_41 : decode cX9_fourLetters 41 = .ok (.ldc 104, 2) := by decide +kernel
theorem dX9_fourLetters_43 : decode cX9_fourLetters 43 = .ok (.invokestatic 68, 3) := by decide +kernel
theorem dX9_fourLetters_46 : decode cX9_fourLetters 46 = .ok (.ifCond .eq 6, 3) := by decide +kernel
theorem dX9_fourLetters_49 : decode cX9_fourLetters 49 = .ok (.bipush 32, 2) := by decide +kernel
theorem dX9_fourLetters_51 : decode cX9_fourLetters 51 = .ok (.ireturn, 1) := by decide +kernel
theorem dX9_fourLetters_52 : decode cX9_fourLetters 52 = .ok (.aload_n 0, 1) := by decide +kernel
theorem dX9_fourLetters_53 : decode cX9_fourLetters 53 = .ok (.iload_n 1, 1) := by decide +kernel
theorem dX9_fourLetters_54 : decode cX9_fourLetters 54 = .ok (.ldc 106, 2) := by decide +kernel
theorem dX9_fourLetters_56 : decode cX9_fourLetters 56 = .ok (.invokestatic 68, 3) := by decide +kernel
theorem dX9_fourLetters_59 : decode cX9_fourLetters 59 = .ok (.ifCond .eq 6, 3) := by decide +kernel
theorem dX9_fourLetters_62 : decode cX9_fourLetters 62 = .ok (.bipush 33, 2) := by decide +kernel
theorem dX9_fourLetters_64 : decode cX9_fourLetters 64 = .ok (.ireturn, 1) := by decide +kernel
theorem dX9_fourLetters_65 : decode cX9_fourLetters 65 = .ok (.aload_n 0, 1) := by decide +kernel
theorem dX9_fourLetters_66 : decode cX9_fourLetters 66 = .ok (.iload_n 1, 1) := by decide +kernel
theorem dX9_fourLetters_67 : decode cX9_fourLetters 67 = .ok (.ldc 108, 2) := by decide +kernel
theorem dX9_fourLetters_69 : decode cX9_fourLetters 69 = .ok (.invokestatic 68, 3) := by decide +kernel
theorem dX9_fourLetters_72 : decode cX9_fourLetters 72 = .ok (.ifCond .eq 6, 3) := by decide +kernel
theorem dX9_fourLetters_75 : decode cX9_fourLetters 75 = .ok (.bipush 41, 2) := by decide +kernel
theorem dX9_fourLetters_77 : decode cX9_fourLetters 77 = .ok (.ireturn, 1) := by decide +kernel
theorem dX9_fourLetters_78 : decode cX9_fourLetters 78 = .ok (.aload_n 0, 1) := by decide +kernel
theorem dX9_fourLetters_79 : decode cX9_fourLetters 79 = .ok (.iload_n 1, 1) := by decide +kernel
theorem dX9_fourLetters_80 : decode cX9_fourLetters 80 = .ok (.ldc 110, 2) := by decide +kernel
theorem dX9_fourLetters_82 : decode cX9_fourLetters 82 = .ok (.invokestatic 68, 3) := by decide +kernel
theorem dX9_fourLetters_85 : decode cX9_fourLetters 85 = .ok (.ifCond .eq 8, 3) := by decide +kernel
theorem dX9_fourLetters_88 : decode cX9_fourLetters 88 = .ok (.bipush 43, 2) := by decide +kernel
theorem dX9_fourLetters_90 : decode cX9_fourLetters 90 = .ok (.goto 4, 3) := by decide +kernel
theorem dX9_fourLetters_93 : decode cX9_fourLetters 93 = .ok (.iconst 1, 1) := by decide +kernel
theorem dX9_fourLetters_94 : decode cX9_fourLetters 94 = .ok (.ireturn, 1) := by decide +kernel
theorem dX9_fiveLetters_0 : decode cX9_fiveLetters 0 = .ok (.aload_n 0, 1) := by decide +kernel
theorem dX9_fiveLetters_1 : decode cX9_fiveLetters 1 = .ok (.iload_n 1, 1) := by decide +kernel
theorem dX9_fiveLetters_2 : decode cX9_fiveLetters 2 = .ok (.ldc 112, 2) := by decide +kernel
theorem dX9_fiveLetters_4 : decode cX9_fiveLetters 4 = .ok (.invokestatic 68, 3) := by decide +kernel
theorem dX9_fiveLetters_7 : decode cX9_fiveLetters 7 = .ok (.ifCond .eq 6, 3) := by decide +kernel
theorem dX9_fiveLetters_10 : decode cX9_fiveLetters 10 = .ok (.bipush 16, 2) := by decide +kernel
theorem dX9_fiveLetters_12 : decode cX9_fiveLetters 12 = .ok (.ireturn, 1) := by decide +kernel
theorem dX9_fiveLetters_13 : decode cX9_fiveLetters 13 = .ok (.aload_n 0, 1) := by decide +kernel
theorem dX9_fiveLetters_14 : decode cX9_fiveLetters 14 = .ok (.iload_n 1, 1) := by decide +kernel
theorem dX9_fiveLetters_15 : decode cX9_fiveLetters 15 = .ok (.ldc 114, 2) := by decide +kernel
theorem dX9_fiveLetters_17 : decode cX9_fiveLetters 17 = .ok (.invokestatic 68, 3) := by decide +kernel
theorem dX9_fiveLetters_20 : decode cX9_fiveLetters 20 = .ok (.ifCond .eq 6, 3) := by decide +kernel
theorem dX9_fiveLetters_23 : decode cX9_fiveLetters 23 = .ok (.bipush 17, 2) := by decide +kernel
theorem dX9_fiveLetters_25 : decode cX9_fiveLetters 25 = .ok (.ireturn, 1) := by decide +kernel
theorem dX9_fiveLetters_26 : decode cX9_fiveLetters 26 = .ok (.aload_n 0, 1) := by decide +kernel
theorem dX9_fiveLetters_27 : decode cX9_fiveLetters 27 = .ok (.iload_n 1, 1) := by decide +kernel
theorem dX9_fiveLetters_28 : decode cX9_fiveLetters 28 = .ok (.ldc 116, 2) := by decide +kernel
theorem dX9_fiveLetters_30 : decode cX9_fiveLetters 30 = .ok (.invokestatic 68, 3) := by decide +kernel
theorem dX9_fiveLetters_33 : decode cX9_fiveLetters 33 = .ok (.ifCond .eq 6, 3) := by decide +kernel
theorem dX9_fiveLetters_36 : decode cX9_fiveLetters 36 = .ok (.bipush 23, 2) := by decide +kernel
theorem dX9_fiveLetters_38 : decode cX9_fiveLetters 38 = .ok (.ireturn, 1) := by decide +kernel
theorem dX9_fiveLetters_39 : decode cX9_fiveLetters 39 = .ok (.aload_n 0, 1) := by decide +kernel
theorem dX9_fiveLetters_40 : decode cX9_fiveLetters 40 = .ok (.iload_n 1, 1) := by decide +kernel
theorem dX9_fiveLetters_41 : decode cX9_fiveLetters 41 = .ok (.ldc 118, 2) := by decide +kernel
theorem dX9_fiveLetters_43 : decode cX9_fiveLetters 43 = .ok (.invokestatic 68, 3) := by decide +kernel
theorem dX9_fiveLetters_46 : decode cX9_fiveLetters 46 = .ok (.ifCond .eq 6, 3) := by decide +kernel
theorem dX9_fiveLetters_49 : decode cX9_fiveLetters 49 = .ok (.bipush 27, 2) := by decide +kernel
theorem dX9_fiveLetters_51 : decode cX9_fiveLetters 51 = .ok (.ireturn, 1) := by decide +kernel
theorem dX9_fiveLetters_52 : decode cX9_fiveLetters 52 = .ok (.aload_n 0, 1) := by decide +kernel
theorem dX9_fiveLetters_53 : decode cX9_fiveLetters 53 = .ok (.iload_n 1, 1) := by decide +kernel
theorem dX9_fiveLetters_54 : decode cX9_fiveLetters 54 = .ok (.ldc 120, 2) := by decide +kernel
theorem dX9_fiveLetters_56 : decode cX9_fiveLetters 56 = .ok (.invokestatic 68, 3) := by decide +kernel
theorem dX9_fiveLetters_59 : decode cX9_fiveLetters 59 = .ok (.ifCond .eq 6, 3) := by decide +kernel
theorem dX9_fiveLetters_62 : decode cX9_fiveLetters 62 = .ok (.bipush 30, 2) := by decide +kernel
theorem dX9_fiveLetters_64 : decode cX9_fiveLetters 64 = .ok (.ireturn, 1) := by decide +kernel
theorem dX9_fiveLetters_65 : decode cX9_fiveLetters 65 = .ok (.aload_n 0, 1) := by decide +kernel
theorem dX9_fiveLetters_66 : decode cX9_fiveLetters 66 = .ok (.iload_n 1, 1) := by decide +kernel
theorem dX9_fiveLetters_67 : decode cX9_fiveLetters 67 = .ok (.ldc 122, 2) := by decide +kernel
theorem dX9_fiveLetters_69 : decode cX9_fiveLetters 69 = .ok (.invokestatic 68, 3) := by decide +kernel
theorem dX9_fiveLetters_72 : decode cX9_fiveLetters 72 = .ok (.ifCond .eq 6, 3) := by decide +kernel
theorem dX9_fiveLetters_75 : decode cX9_fiveLetters 75 = .ok (.bipush 39, 2) := by decide +kernel
theorem dX9_fiveLetters_77 : decode cX9_fiveLetters 77 = .ok (.ireturn, 1) := by decide +kernel
theorem dX9_fiveLetters_78 : decode cX9_fiveLetters 78 = .ok (.aload_n 0, 1) := by decide +kernel
theorem dX9_fiveLetters_79 : decode cX9_fiveLetters 79 = .ok (.iload_n 1, 1) := by decide +kernel
theorem dX9_fiveLetters_80 : decode cX9_fiveLetters 80 = .ok (.ldc 124, 2) := by decide +kernel
theorem dX9_fiveLetters_82 : decode cX9_fiveLetters 82 = .ok (.invokestatic 68, 3) := by decide +kernel
theorem dX9_fiveLetters_85 : decode cX9_fiveLetters 85 = .ok (.ifCond .eq 6, 3) := by decide +kernel
theorem dX9_fiveLetters_88 : decode cX9_fiveLetters 88 = .ok (.bipush 42, 2) := by decide +kernel
theorem dX9_fiveLetters_90 : decode cX9_fiveLetters 90 = .ok (.ireturn, 1) := by decide +kernel
theorem dX9_fiveLetters_91 : decode cX9_fiveLetters 91 = .ok (.aload_n 0, 1) := by decide +kernel
theorem dX9_fiveLetters_92 : decode cX9_fiveLetters 92 = .ok (.iload_n 1, 1) := by decide +kernel
theorem dX9_fiveLetters_93 : decode cX9_fiveLetters 93 = .ok (.ldc 126, 2) := by decide +kernel
theorem dX9_fiveLetters_95 : decode cX9_fiveLetters 95 = .ok (.invokestatic 68, 3) := by decide +kernel
theorem dX9_fiveLetters_98 : decode cX9_fiveLetters 98 = .ok (.ifCond .eq 8, 3) := by decide +kernel
theorem dX9_fiveLetters_101 : decode cX9_fiveLetters 101 = .ok (.bipush 44, 2) := by decide +kernel
theorem dX9_fiveLetters_103 : decode cX9_fiveLetters 103 = .ok (.goto 4, 3) := by decide +kernel
theorem dX9_fiveLetters_106 : decode cX9_fiveLetters 106 = .ok (.iconst 1, 1) := by decide +kernel
theorem dX9_fiveLetters_107 : decode cX9_fiveLetters 107 = .ok (.ireturn, 1) := by decide +kernel
theorem dX9_spells_0 : decode cX9_spells 0 = .ok (.iload_n 1, 1) := by decide +kernel
theorem dX9_spells_1 : decode cX9_spells 1 = .ok (.ifCond .lt 14, 3) := by decide +kernel
theorem dX9_spells_4 : decode cX9_spells 4 = .ok (.iload_n 1, 1) := by decide +kernel
theorem dX9_spells_5 : decode cX9_spells 5 = .ok (.aload_n 2, 1) := by decide +kernel
theorem dX9_spells_6 : decode cX9_spells 6 = .ok (.invokevirtual 128, 3) := by decide +kernel
theorem dX9_spells_9 : decode cX9_spells 9 = .ok (.iadd, 1) := by decide +kernel
theorem dX9_spells_10 : decode cX9_spells 10 = .ok (.aload_n 0, 1) := by decide +kernel
theorem dX9_spells_11 : decode cX9_spells 11 = .ok (.arraylength, 1) := by decide +kernel
theorem dX9_spells_12 : decode cX9_spells 12 = .ok (.if_icmp .le 5, 3) := by decide +kernel
theorem dX9_spells_15 : decode cX9_spells 15 = .ok (.iconst 0, 1) := by decide +kernel
theorem dX9_spells_16 : decode cX9_spells 16 = .ok (.ireturn, 1) := by decide +kernel
theorem dX9_spells_17 : decode cX9_spells 17 = .ok (.iconst 0, 1) := by decide +kernel
theorem dX9_spells_18 : decode cX9_spells 18 = .ok (.istore_n 3, 1) := by decide +kernel
theorem dX9_spells_19 : decode cX9_spells 19 = .ok (.iload_n 3, 1) := by decide +kernel
theorem dX9_spells_20 : decode cX9_spells 20 = .ok (.aload_n 2, 1) := by decide +kernel
theorem dX9_spells_21 : decode cX9_spells 21 = .ok (.invokevirtual 128, 3) := by decide +kernel
theorem dX9_spells_24 : decode cX9_spells 24 = .ok (.if_icmp .ge 24, 3) := by decide +kernel
theorem dX9_spells_27 : decode cX9_spells 27 = .ok (.aload_n 0, 1) := by decide +kernel
theorem dX9_spells_28 : decode cX9_spells 28 = .ok (.iload_n 1, 1) := by decide +kernel
theorem dX9_spells_29 : decode cX9_spells 29 = .ok (.iload_n 3, 1) := by decide +kernel
theorem dX9_spells_30 : decode cX9_spells 30 = .ok (.iadd, 1) := by decide +kernel
theorem dX9_spells_31 : decode cX9_spells 31 = .ok (.iaload, 1) := by decide +kernel
theorem dX9_spells_32 : decode cX9_spells 32 = .ok (.aload_n 2, 1) := by decide +kernel
theorem dX9_spells_33 : decode cX9_spells 33 = .ok (.iload_n 3, 1) := by decide +kernel
theorem dX9_spells_34 : decode cX9_spells 34 = .ok (.invokevirtual 134, 3) := by decide +kernel
theorem dX9_spells_37 : decode cX9_spells 37 = .ok (.if_icmp .eq 5, 3) := by decide +kernel
theorem dX9_spells_40 : decode cX9_spells 40 = .ok (.iconst 0, 1) := by decide +kernel
theorem dX9_spells_41 : decode cX9_spells 41 = .ok (.ireturn, 1) := by decide +kernel
theorem dX9_spells_42 : decode cX9_spells 42 = .ok (.iinc 3 1, 3) := by decide +kernel
theorem dX9_spells_45 : decode cX9_spells 45 = .ok (.goto (-26), 3) := by decide +kernel
theorem dX9_spells_48 : decode cX9_spells 48 = .ok (.iconst 1, 1) := by decide +kernel
theorem dX9_spells_49 : decode cX9_spells 49 = .ok (.ireturn, 1) := by decide +kernel
theorem dX10_init_0 : decode cX10_init 0 = .ok (.aload_n 0, 1) := by decide +kernel
theorem dX10_init_1 : decode cX10_init 1 = .ok (.invokespecial 3, 3) := by decide +kernel
theorem dX10_init_4 : decode cX10_init 4 = .ok (.aload_n 0, 1) := by decide +kernel
theorem dX10_init_5 : decode cX10_init 5 = .ok (.bipush 12, 2) := by decide +kernel
theorem dX10_init_7 : decode cX10_init 7 = .ok (.newarray .int, 2) := by decide +kernel
theorem dX10_init_9 : decode cX10_init 9 = .ok (.putfield 9, 3) := by decide +kernel
theorem dX10_init_12 : decode cX10_init 12 = .ok (.aload_n 0, 1) := by decide +kernel
theorem dX10_init_13 : decode cX10_init 13 = .ok (.bipush 12, 2) := by decide +kernel
