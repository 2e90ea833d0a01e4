theorem dX4_init_5 : decode cX4_init 5 = .ok (.iconst 5, 1) := by decide +kernel
theorem dX4_init_6 : decode cX4_init 6 = .ok (.newarray .int, 2) := by decide +kernel
theorem dX4_init_8 : decode cX4_init 8 = .ok (.putfield 9, 3) := by decide +kernel
theorem dX4_init_11 : decode cX4_init 11 = .ok (.aload_n 0, 1) := by decide +kernel
theorem dX4_init_12 : decode cX4_init 12 = .ok (.iconst 5, 1) := by decide +kernel
theorem dX4_init_13 : decode cX4_init 13 = .ok (.newarray .int, 2) := by decide +kernel
theorem dX4_init_15 : decode cX4_init 15 = .ok (.putfield 15, 3) := by decide +kernel
theorem dX4_init_18 : decode cX4_init 18 = .ok (.aload_n 0, 1) := by decide +kernel
theorem dX4_init_19 : decode cX4_init 19 = .ok (.iconst 5, 1) := by decide +kernel
theorem dX4_init_20 : decode cX4_init 20 = .ok (.newarray .int, 2) := by decide +kernel
theorem dX4_init_22 : decode cX4_init 22 = .ok (.putfield 18, 3) := by decide +kernel
theorem dX4_init_25 : decode cX4_init 25 = .ok (.aload_n 0, 1) := by decide +kernel
theorem dX4_init_26 : decode cX4_init 26 = .ok (.iconst 5, 1) := by decide +kernel
theorem dX4_init_27 : decode cX4_init 27 = .ok (.newarray .int, 2) := by decide +kernel
theorem dX4_init_29 : decode cX4_init 29 = .ok (.putfield 21, 3) := by decide +kernel
theorem dX4_init_32 : decode cX4_init 32 = .ok (.aload_n 0, 1) := by decide +kernel
theorem dX4_init_33 : decode cX4_init 33 = .ok (.iconst 5, 1) := by decide +kernel
theorem dX4_init_34 : decode cX4_init 34 = .ok (.newarray .int, 2) := by decide +kernel
theorem dX4_init_36 : decode cX4_init 36 = .ok (.putfield 24, 3) := by decide +kernel
theorem dX4_init_39 : decode cX4_init 39 = .ok (.aload_n 0, 1) := by decide +kernel
theorem dX4_init_40 : decode cX4_init 40 = .ok (.iconst 5, 1) := by decide +kernel
theorem dX4_init_41 : decode cX4_init 41 = .ok (.newarray .int, 2) := by decide +kernel
theorem dX4_init_43 : decode cX4_init 43 = .ok (.putfield 27, 3) := by decide +kernel
theorem dX4_init_46 : decode cX4_init 46 = .ok (.aload_n 0, 1) := by decide +kernel
theorem dX4_init_47 : decode cX4_init 47 = .ok (.bipush 30, 2) := by decide +kernel
theorem dX4_init_49 : decode cX4_init 49 = .ok (.newarray .int, 2) := by decide +kernel
theorem dX4_init_51 : decode cX4_init 51 = .ok (.putfield 30, 3) := by decide +kernel
theorem dX4_init_54 : decode cX4_init 54 = .ok (.aload_n 0, 1) := by decide +kernel
theorem dX4_init_55 : decode cX4_init 55 = .ok (.sipush 251, 3) := by decide +kernel
theorem dX4_init_58 : decode cX4_init 58 = .ok (.putfield 33, 3) := by decide +kernel
theorem dX4_init_61 : decode cX4_init 61 = .ok (.return_, 1) := by decide +kernel
theorem dX4_copyFrom_0 : decode cX4_copyFrom 0 = .ok (.aload_n 1, 1) := by decide +kernel
theorem dX4_copyFrom_1 : decode cX4_copyFrom 1 = .ok (.getfield 9, 3) := by decide +kernel
theorem dX4_copyFrom_4 : decode cX4_copyFrom 4 = .ok (.iconst 0, 1) := by decide +kernel
theorem dX4_copyFrom_5 : decode cX4_copyFrom 5 = .ok (.aload_n 0, 1) := by decide +kernel
theorem dX4_copyFrom_6 : decode cX4_copyFrom 6 = .ok (.getfield 9, 3) := by decide +kernel
theorem dX4_copyFrom_9 : decode cX4_copyFrom 9 = .ok (.iconst 0, 1) := by decide +kernel
theorem dX4_copyFrom_10 : decode cX4_copyFrom 10 = .ok (.iconst 5, 1) := by decide +kernel
theorem dX4_copyFrom_11 : decode cX4_copyFrom 11 = .ok (.invokestatic 37, 3) := by decide +kernel
theorem dX4_copyFrom_14 : decode cX4_copyFrom 14 = .ok (.aload_n 1, 1) := by decide +kernel
theorem dX4_copyFrom_15 : decode cX4_copyFrom 15 = .ok (.getfield 15, 3) := by decide +kernel
theorem dX4_copyFrom_18 : decode cX4_copyFrom 18 = .ok (.iconst 0, 1) := by decide +kernel
theorem dX4_copyFrom_19 : decode cX4_copyFrom 19 = .ok (.aload_n 0, 1) := by decide +kernel
theorem dX4_copyFrom_20 : decode cX4_copyFrom 20 = .ok (.getfield 15, 3) := by decide +kernel
theorem dX4_copyFrom_23 : decode cX4_copyFrom 23 = .ok (.iconst 0, 1) := by decide +kernel
theorem dX4_copyFrom_24 : decode cX4_copyFrom 24 = .ok (.iconst 5, 1) := by decide +kernel
theorem dX4_copyFrom_25 : decode cX4_copyFrom 25 = .ok (.invokestatic 37, 3) := by decide +kernel
theorem dX4_copyFrom_28 : decode cX4_copyFrom 28 = .ok (.aload_n 1, 1) := by decide +kernel
theorem dX4_copyFrom_29 : decode cX4_copyFrom 29 = .ok (.getfield 18, 3) := by decide +kernel
theorem dX4_copyFrom_32 : decode cX4_copyFrom 32 = .ok (.iconst 0, 1) := by decide +kernel
theorem dX4_copyFrom_33 : decode cX4_copyFrom 33 = .ok (.aload_n 0, 1) := by decide +kernel
theorem dX4_copyFrom_34 : decode cX4_copyFrom 34 = .ok (.getfield 18, 3) := by decide +kernel
theorem dX4_copyFrom_37 : decode cX4_copyFrom 37 = .ok (.iconst 0, 1) := by decide +kernel
theorem dX4_copyFrom_38 : decode cX4_copyFrom 38 = .ok (.iconst 5, 1) := by decide +kernel
theorem dX4_copyFrom_39 : decode cX4_copyFrom 39 = .ok (.invokestatic 37, 3) := by decide +kernel
theorem dX4_copyFrom_42 : decode cX4_copyFrom 42 = .ok (.aload_n 1, 1) := by decide +kernel
theorem dX4_copyFrom_43 : decode cX4_copyFrom 43 = .ok (.getfield 21, 3) := by decide +kernel
theorem dX4_copyFrom_46 : decode cX4_copyFrom 46 = .ok (.iconst 0, 1) := by decide +kernel
theorem dX4_copyFrom_47 : decode cX4_copyFrom 47 = .ok (.aload_n 0, 1) := by decide +kernel
theorem dX4_copyFrom_48 : decode cX4_copyFrom 48 = .ok (.getfield 21, 3) := by decide +kernel
theorem dX4_copyFrom_51 : decode cX4_copyFrom 51 = .ok (.iconst 0, 1) := by decide +kernel
theorem dX4_copyFrom_52 : decode cX4_copyFrom 52 = .ok (.iconst 5, 1) := by decide +kernel
theorem dX4_copyFrom_53 : decode cX4_copyFrom 53 = .ok (.invokestatic 37, 3) := by decide +kernel
theorem dX4_copyFrom_56 : decode cX4_copyFrom 56 = .ok (.aload_n 1, 1) := by decide +kernel
theorem dX4_copyFrom_57 : decode cX4_copyFrom 57 = .ok (.getfield 24, 3) := by decide +kernel
theorem dX4_copyFrom_60 : decode cX4_copyFrom 60 = .ok (.iconst 0, 1) := by decide +kernel
theorem dX4_copyFrom_61 : decode cX4_copyFrom 61 = .ok (.aload_n 0, 1) := by decide +kernel
theorem dX4_copyFrom_62 : decode cX4_copyFrom 62 = .ok (.getfield 24, 3) := by decide +kernel
theorem dX4_copyFrom_65 : decode cX4_copyFrom 65 = .ok (.iconst 0, 1) := by decide +kernel
theorem dX4_copyFrom_66 : decode cX4_copyFrom 66 = .ok (.iconst 5, 1) := by decide +kernel
theorem dX4_copyFrom_67 : decode cX4_copyFrom 67 = .ok (.invokestatic 37, 3) := by decide +kernel
theorem dX4_copyFrom_70 : decode cX4_copyFrom 70 = .ok (.aload_n 1, 1) := by decide +kernel
theorem dX4_copyFrom_71 : decode cX4_copyFrom 71 = .ok (.getfield 27, 3) := by decide +kernel
theorem dX4_copyFrom_74 : decode cX4_copyFrom 74 = .ok (.iconst 0, 1) := by decide +kernel
theorem dX4_copyFrom_75 : decode cX4_copyFrom 75 = .ok (.aload_n 0, 1) := by decide +kernel
theorem dX4_copyFrom_76 : decode cX4_copyFrom 76 = .ok (.getfield 27, 3) := by decide +kernel
theorem dX4_copyFrom_79 : decode cX4_copyFrom 79 = .ok (.iconst 0, 1) := by decide +kernel
theorem dX4_copyFrom_80 : decode cX4_copyFrom 80 = .ok (.iconst 5, 1) := by decide +kernel
theorem dX4_copyFrom_81 : decode cX4_copyFrom 81 = .ok (.invokestatic 37, 3) := by decide +kernel
theorem dX4_copyFrom_84 : decode cX4_copyFrom 84 = .ok (.aload_n 1, 1) := by decide +kernel
theorem dX4_copyFrom_85 : decode cX4_copyFrom 85 = .ok (.getfield 30, 3) := by decide +kernel
theorem dX4_copyFrom_88 : decode cX4_copyFrom 88 = .ok (.iconst 0, 1) := by decide +kernel
theorem dX4_copyFrom_89 : decode cX4_copyFrom 89 = .ok (.aload_n 0, 1) := by decide +kernel
theorem dX4_copyFrom_90 : decode cX4_copyFrom 90 = .ok (.getfield 30, 3) := by decide +kernel
theorem dX4_copyFrom_93 : decode cX4_copyFrom 93 = .ok (.iconst 0, 1) := by decide +kernel
theorem dX4_copyFrom_94 : decode cX4_copyFrom 94 = .ok (.bipush 30, 2) := by decide +kernel
theorem dX4_copyFrom_96 : decode cX4_copyFrom 96 = .ok (.invokestatic 37, 3) := by decide +kernel
theorem dX4_copyFrom_99 : decode cX4_copyFrom 99 = .ok (.aload_n 0, 1) := by decide +kernel
theorem dX4_copyFrom_100 : decode cX4_copyFrom 100 = .ok (.aload_n 1, 1) := by decide +kernel
theorem dX4_copyFrom_101 : decode cX4_copyFrom 101 = .ok (.getfield 43, 3) := by decide +kernel
theorem dX4_copyFrom_104 : decode cX4_copyFrom 104 = .ok (.putfield 43, 3) := by decide +kernel
theorem dX4_copyFrom_107 : decode cX4_copyFrom 107 = .ok (.aload_n 0, 1) := by decide +kernel
theorem dX4_copyFrom_108 : decode cX4_copyFrom 108 = .ok (.aload_n 1, 1) := by decide +kernel
theorem dX4_copyFrom_109 : decode cX4_copyFrom 109 = .ok (.getfield 46, 3) := by decide +kernel
theorem dX4_copyFrom_112 : decode cX4_copyFrom 112 = .ok (.putfield 46, 3) := by decide +kernel
theorem dX4_copyFrom_115 : decode cX4_copyFrom 115 = .ok (.aload_n 0, 1) := by decide +kernel
theorem dX4_copyFrom_116 : decode cX4_copyFrom 116 = .ok (.aload_n 1, 1) := by decide +kernel
theorem dX4_copyFrom_117 : decode cX4_copyFrom 117 = .ok (.getfield 49, 3) := by decide +kernel
theorem dX4_copyFrom_120 : decode cX4_copyFrom 120 = .ok (.putfield 49, 3) := by decide +kernel
theorem dX4_copyFrom_123 : decode cX4_copyFrom 123 = .ok (.aload_n 0, 1) := by decide +kernel
theorem dX4_copyFrom_124 : decode cX4_copyFrom 124 = .ok (.aload_n 1, 1) := by decide +kernel
theorem dX4_copyFrom_125 : decode cX4_copyFrom 125 = .ok (.getfield 52, 3) := by decide +kernel
theorem dX4_copyFrom_128 : decode cX4_copyFrom 128 = .ok (.putfield 52, 3) := by decide +kernel
theorem dX4_copyFrom_131 : decode cX4_copyFrom 131 = .ok (.aload_n 0, 1) := by decide +kernel
theorem dX4_copyFrom_132 : decode cX4_copyFrom 132 = .ok (.aload_n 1, 1) := by decide +kernel
theorem dX4_copyFrom_133 : decode cX4_copyFrom 133 = .ok (.getfield 33, 3) := by decide +kernel
theorem dX4_copyFrom_136 : decode cX4_copyFrom 136 = .ok (.putfield 33, 3) := by decide +kernel
theorem dX4_copyFrom_139 : decode cX4_copyFrom 139 = .ok (.return_, 1) := by decide +kernel
theorem dX4_isThere_0 : decode cX4_isThere 0 = .ok (.iload_n 1, 1) := by decide +kernel
theorem dX4_isThere_1 : decode cX4_isThere 1 = .ok (.ifCond .lt 20, 3) := by decide +kernel
theorem dX4_isThere_4 : decode cX4_isThere 4 = .ok (.iload_n 1, 1) := by decide +kernel
theorem dX4_isThere_5 : decode cX4_isThere 5 = .ok (.aload_n 0, 1) := by decide +kernel
theorem dX4_isThere_6 : decode cX4_isThere 6 = .ok (.getfield 46, 3) := by decide +kernel
theorem dX4_isThere_9 : decode cX4_isThere 9 = .ok (.if_icmp .ge 12, 3) := by decide +kernel
theorem dX4_isThere_12 : decode cX4_isThere 12 = .ok (.iload_n 1, 1) := by decide +kernel
theorem dX4_isThere_13 : decode cX4_isThere 13 = .ok (.iconst 5, 1) := by decide +kernel
theorem dX4_isThere_14 : decode cX4_isThere 14 = .ok (.if_icmp .ge 7, 3) := by decide +kernel
theorem dX4_isThere_17 : decode cX4_isThere 17 = .ok (.iconst 1, 1) := by decide +kernel
theorem dX4_isThere_18 : decode cX4_isThere 18 = .ok (.goto 4, 3) := by decide +kernel
theorem dX4_isThere_21 : decode cX4_isThere 21 = .ok (.iconst 0, 1) := by decide +kernel
theorem dX4_isThere_22 : decode cX4_isThere 22 = .ok (.ireturn, 1) := by decide +kernel
set_option maxRecDepth 20000 in
theorem ggX4_doesWait_X4_isThere : GoodIn wsX4_doesWait wsX4_isThere := goodIn_r _ [6, 7, 8, 9, 10, 11, 12, 13, 14, 15, 16, 17, 18, 19] (by decide +kernel) (by decide +kernel)
set_option maxRecDepth 20000 in
theorem gX4_doesWait_X4_isThere : GoodIn wsX4_doesWait (wsV RX4 55 RX4 yX4_isThere wsX4_isThere) := goodIn_app (goodIn_of _ (by decide +kernel)) ggX4_doesWait_X4_isThere
theorem dX4_doesWait_0 : decode cX4_doesWait 0 = .ok (.aload_n 0, 1) := by decide +kernel
theorem dX4_doesWait_1 : decode cX4_doesWait 1 = .ok (.iload_n 1, 1) := by decide +kernel
theorem dX4_doesWait_2 : decode cX4_doesWait 2 = .ok (.invokevirtual 55, 3) := by decide +kernel
theorem dX4_doesWait_5 : decode cX4_doesWait 5 = .ok (.ifCond .eq 16, 3) := by decide +kernel
theorem dX4_doesWait_8 : decode cX4_doesWait 8 = .ok (.aload_n 0, 1) := by decide +kernel
theorem dX4_doesWait_9 : decode cX4_doesWait 9 = .ok (.getfield 15, 3) := by decide +kernel
theorem dX4_doesWait_12 : decode cX4_doesWait 12 = .ok (.iload_n 1, 1) := by decide +kernel
theorem dX4_doesWait_13 : decode cX4_doesWait 13 = .ok (.iaload, 1) := by decide +kernel
theorem dX4_doesWait_14 : decode cX4_doesWait 14 = .ok (.ifCond .ne 7, 3) := by decide +kernel
theorem dX4_doesWait_17 : decode cX4_doesWait 17 = .ok (.iconst 1, 1) := by decide +kernel
theorem dX4_doesWait_18 : decode cX4_doesWait 18 = .ok (.goto 4, 3) := by decide +kernel
theorem dX4_doesWait_21 : decode cX4_doesWait 21 = .ok (.iconst 0, 1) := by decide +kernel
theorem dX4_doesWait_22 : decode cX4_doesWait 22 = .ok (.ireturn, 1) := by decide +kernel
set_option maxRecDepth 20000 in
theorem ggX4_allWaiting_X4_doesWait : GoodIn wsX4_allWaiting wsX4_doesWait := goodIn_r _ [5, 6, 7, 8, 9, 4, 10, 11, 12, 13, 14, 15, 16, 17, 18, 19, 20, 21, 22, 23] (by decide +kernel) (by decide +kernel)
set_option maxRecDepth 20000 in
theorem gX4_allWaiting_X4_doesWait : GoodIn wsX4_allWaiting (wsV RX4 59 RX4 yX4_doesWait wsX4_doesWait) := goodIn_app (goodIn_of _ (by decide +kernel)) ggX4_allWaiting_X4_doesWait
theorem dX4_allWaiting_0 : decode cX4_allWaiting 0 = .ok (.iconst 0, 1) := by decide +kernel
theorem dX4_allWaiting_1 : decode cX4_allWaiting 1 = .ok (.istore_n 1, 1) := by decide +kernel
theorem dX4_allWaiting_2 : decode cX4_allWaiting 2 = .ok (.iconst 0, 1) := by decide +kernel
theorem dX4_allWaiting_3 : decode cX4_allWaiting 3 = .ok (.istore_n 2, 1) := by decide +kernel
theorem dX4_allWaiting_4 : decode cX4_allWaiting 4 = .ok (.iload_n 2, 1) := by decide +kernel
theorem dX4_allWaiting_5 : decode cX4_allWaiting 5 = .ok (.iconst 5, 1) := by decide +kernel
theorem dX4_allWaiting_6 : decode cX4_allWaiting 6 = .ok (.if_icmp .ge 23, 3) := by decide +kernel
theorem dX4_allWaiting_9 : decode cX4_allWaiting 9 = .ok (.aload_n 0, 1) := by decide +kernel
theorem dX4_allWaiting_10 : decode cX4_allWaiting 10 = .ok (.iload_n 2, 1) := by decide +kernel
theorem dX4_allWaiting_11 : decode cX4_allWaiting 11 = .ok (.invokevirtual 59, 3) := by decide +kernel
theorem dX4_allWaiting_14 : decode cX4_allWaiting 14 = .ok (.ifCond .eq 9, 3) := by decide +kernel
theorem dX4_allWaiting_17 : decode cX4_allWaiting 17 = .ok (.iload_n 1, 1) := by decide +kernel
theorem dX4_allWaiting_18 : decode cX4_allWaiting 18 = .ok (.iconst 1, 1) := by decide +kernel
theorem dX4_allWaiting_19 : decode cX4_allWaiting 19 = .ok (.iload_n 2, 1) := by decide +kernel
theorem dX4_allWaiting_20 : decode cX4_allWaiting 20 = .ok (.ishl, 1) := by decide +kernel
theorem dX4_allWaiting_21 : decode cX4_allWaiting 21 = .ok (.ior, 1) := by decide +kernel
theorem dX4_allWaiting_22 : decode cX4_allWaiting 22 = .ok (.istore_n 1, 1) := by decide +kernel
theorem dX4_allWaiting_23 : decode cX4_allWaiting 23 = .ok (.iinc 2 1, 3) := by decide +kernel
theorem dX4_allWaiting_26 : decode cX4_allWaiting 26 = .ok (.goto (-22), 3) := by decide +kernel
theorem dX4_allWaiting_29 : decode cX4_allWaiting 29 = .ok (.iload_n 1, 1) := by decide +kernel
theorem dX4_allWaiting_30 : decode cX4_allWaiting 30 = .ok (.ireturn, 1) := by decide +kernel
set_option maxRecDepth 20000 in
theorem ggX4_seat_X11_isPerson : GoodIn wsX4_seat wsX11_isPerson := goodIn_r _ [9] (by decide +kernel) (by decide +kernel)
set_option maxRecDepth 20000 in
theorem gX4_seat_X11_isPerson_n62 : GoodIn wsX4_seat (wsX11_isPerson) := ggX4_seat_X11_isPerson
theorem dX4_seat_0 : decode cX4_seat 0 = .ok (.iload_n 1, 1) := by decide +kernel
theorem dX4_seat_1 : decode cX4_seat 1 = .ok (.invokestatic 62, 3) := by decide +kernel
theorem dX4_seat_4 : decode cX4_seat 4 = .ok (.ifCond .eq 45, 3) := by decide +kernel
theorem dX4_seat_7 : decode cX4_seat 7 = .ok (.aload_n 0, 1) := by decide +kernel
theorem dX4_seat_8 : decode cX4_seat 8 = .ok (.getfield 9, 3) := by decide +kernel
theorem dX4_seat_11 : decode cX4_seat 11 = .ok (.iload_n 1, 1) := by decide +kernel
theorem dX4_seat_12 : decode cX4_seat 12 = .ok (.iload_n 2, 1) := by decide +kernel
theorem dX4_seat_13 : decode cX4_seat 13 = .ok (.iastore, 1) := by decide +kernel
theorem dX4_seat_14 : decode cX4_seat 14 = .ok (.aload_n 0, 1) := by decide +kernel
theorem dX4_seat_15 : decode cX4_seat 15 = .ok (.getfield 15, 3) := by decide +kernel
theorem dX4_seat_18 : decode cX4_seat 18 = .ok (.iload_n 1, 1) := by decide +kernel
theorem dX4_seat_19 : decode cX4_seat 19 = .ok (.iconst 0, 1) := by decide +kernel
theorem dX4_seat_20 : decode cX4_seat 20 = .ok (.iastore, 1) := by decide +kernel
theorem dX4_seat_21 : decode cX4_seat 21 = .ok (.aload_n 0, 1) := by decide +kernel
theorem dX4_seat_22 : decode cX4_seat 22 = .ok (.getfield 18, 3) := by decide +kernel
theorem dX4_seat_25 : decode cX4_seat 25 = .ok (.iload_n 1, 1) := by decide +kernel
theorem dX4_seat_26 : decode cX4_seat 26 = .ok (.iconst 0, 1) := by decide +kernel
theorem dX4_seat_27 : decode cX4_seat 27 = .ok (.iastore, 1) := by decide +kernel
theorem dX4_seat_28 : decode cX4_seat 28 = .ok (.aload_n 0, 1) := by decide +kernel
theorem dX4_seat_29 : decode cX4_seat 29 = .ok (.getfield 21, 3) := by decide +kernel
theorem dX4_seat_32 : decode cX4_seat 32 = .ok (.iload_n 1, 1) := by decide +kernel
theorem dX4_seat_33 : decode cX4_seat 33 = .ok (.iload_n 3, 1) := by decide +kernel
theorem dX4_seat_34 : decode cX4_seat 34 = .ok (.iastore, 1) := by decide +kernel
theorem dX4_seat_35 : decode cX4_seat 35 = .ok (.aload_n 0, 1) := by decide +kernel
theorem dX4_seat_36 : decode cX4_seat 36 = .ok (.getfield 24, 3) := by decide +kernel
theorem dX4_seat_39 : decode cX4_seat 39 = .ok (.iload_n 1, 1) := by decide +kernel
theorem dX4_seat_40 : decode cX4_seat 40 = .ok (.iconst 0, 1) := by decide +kernel
theorem dX4_seat_41 : decode cX4_seat 41 = .ok (.iastore, 1) := by decide +kernel
theorem dX4_seat_42 : decode cX4_seat 42 = .ok (.aload_n 0, 1) := by decide +kernel
theorem dX4_seat_43 : decode cX4_seat 43 = .ok (.getfield 27, 3) := by decide +kernel
theorem dX4_seat_46 : decode cX4_seat 46 = .ok (.iload_n 1, 1) := by decide +kernel
theorem dX4_seat_47 : decode cX4_seat 47 = .ok (.iconst 0, 1) := by decide +kernel
theorem dX4_seat_48 : decode cX4_seat 48 = .ok (.iastore, 1) := by decide +kernel
theorem dX4_seat_49 : decode cX4_seat 49 = .ok (.return_, 1) := by decide +kernel
set_option maxRecDepth 20000 in
theorem ggX4_weep_X11_isPerson : GoodIn wsX4_weep wsX11_isPerson := goodIn_r _ [8] (by decide +kernel) (by decide +kernel)
set_option maxRecDepth 20000 in
theorem gX4_weep_X11_isPerson_n62 : GoodIn wsX4_weep (wsX11_isPerson) := ggX4_weep_X11_isPerson
theorem dX4_weep_0 : decode cX4_weep 0 = .ok (.iload_n 1, 1) := by decide +kernel
theorem dX4_weep_1 : decode cX4_weep 1 = .ok (.invokestatic 62, 3) := by decide +kernel
theorem dX4_weep_4 : decode cX4_weep 4 = .ok (.ifCond .eq 23, 3) := by decide +kernel
theorem dX4_weep_7 : decode cX4_weep 7 = .ok (.aload_n 0, 1) := by decide +kernel
theorem dX4_weep_8 : decode cX4_weep 8 = .ok (.getfield 18, 3) := by decide +kernel
theorem dX4_weep_11 : decode cX4_weep 11 = .ok (.iload_n 1, 1) := by decide +kernel
theorem dX4_weep_12 : decode cX4_weep 12 = .ok (.sipush 999, 3) := by decide +kernel
theorem dX4_weep_15 : decode cX4_weep 15 = .ok (.aload_n 0, 1) := by decide +kernel
theorem dX4_weep_16 : decode cX4_weep 16 = .ok (.getfield 18, 3) := by decide +kernel
theorem dX4_weep_19 : decode cX4_weep 19 = .ok (.iload_n 1, 1) := by decide +kernel
theorem dX4_weep_20 : decode cX4_weep 20 = .ok (.iaload, 1) := by decide +kernel
theorem dX4_weep_21 : decode cX4_weep 21 = .ok (.iload_n 2, 1) := by decide +kernel
theorem dX4_weep_22 : decode cX4_weep 22 = .ok (.iadd, 1) := by decide +kernel
theorem dX4_weep_23 : decode cX4_weep 23 = .ok (.invokestatic 65, 3) := by decide +kernel
theorem dX4_weep_26 : decode cX4_weep 26 = .ok (.iastore, 1) := by decide +kernel
theorem dX4_weep_27 : decode cX4_weep 27 = .ok (.return_, 1) := by decide +kernel
theorem dX4_drawLot_0 : decode cX4_drawLot 0 = .ok (.aload_n 0, 1) := by decide +kernel
theorem dX4_drawLot_1 : decode cX4_drawLot 1 = .ok (.getfield 33, 3) := by decide +kernel
theorem dX4_drawLot_4 : decode cX4_drawLot 4 = .ok (.istore_n 1, 1) := by decide +kernel
theorem dX4_drawLot_5 : decode cX4_drawLot 5 = .ok (.aload_n 0, 1) := by decide +kernel
theorem dX4_drawLot_6 : decode cX4_drawLot 6 = .ok (.aload_n 0, 1) := by decide +kernel
theorem dX4_drawLot_7 : decode cX4_drawLot 7 = .ok (.getfield 33, 3) := by decide +kernel
theorem dX4_drawLot_10 : decode cX4_drawLot 10 = .ok (.sipush 491, 3) := by decide +kernel
theorem dX4_drawLot_13 : decode cX4_drawLot 13 = .ok (.imul, 1) := by decide +kernel
theorem dX4_drawLot_14 : decode cX4_drawLot 14 = .ok (.sipush 379, 3) := by decide +kernel
theorem dX4_drawLot_17 : decode cX4_drawLot 17 = .ok (.iadd, 1) := by decide +kernel
theorem dX4_drawLot_18 : decode cX4_drawLot 18 = .ok (.sipush 30677, 3) := by decide +kernel
theorem dX4_drawLot_21 : decode cX4_drawLot 21 = .ok (.irem, 1) := by decide +kernel
theorem dX4_drawLot_22 : decode cX4_drawLot 22 = .ok (.putfield 33, 3) := by decide +kernel
theorem dX4_drawLot_25 : decode cX4_drawLot 25 = .ok (.iload_n 1, 1) := by decide +kernel
theorem dX4_drawLot_26 : decode cX4_drawLot 26 = .ok (.ireturn, 1) := by decide +kernel
set_option maxRecDepth 20000 in
theorem ggX4_dismiss_X11_isPerson : GoodIn wsX4_dismiss wsX11_isPerson := goodIn_r _ [18] (by decide +kernel) (by decide +kernel)
set_option maxRecDepth 20000 in
theorem gX4_dismiss_X11_isPerson_n62 : GoodIn wsX4_dismiss (wsX11_isPerson) := ggX4_dismiss_X11_isPerson
theorem dX4_dismiss_0 : decode cX4_dismiss 0 = .ok (.iload_n 1, 1) := by decide +kernel
theorem dX4_dismiss_1 : decode cX4_dismiss 1 = .ok (.invokestatic 62, 3) := by decide +kernel
theorem dX4_dismiss_4 : decode cX4_dismiss 4 = .ok (.ifCond .ne 4, 3) := by decide +kernel
theorem dX4_dismiss_7 : decode cX4_dismiss 7 = .ok (.return_, 1) := by decide +kernel
theorem dX4_dismiss_8 : decode cX4_dismiss 8 = .ok (.aload_n 0, 1) := by decide +kernel
theorem dX4_dismiss_9 : decode cX4_dismiss 9 = .ok (.getfield 15, 3) := by decide +kernel
theorem dX4_dismiss_12 : decode cX4_dismiss 12 = .ok (.iload_n 1, 1) := by decide +kernel
theorem dX4_dismiss_13 : decode cX4_dismiss 13 = .ok (.iload_n 2, 1) := by decide +kernel
theorem dX4_dismiss_14 : decode cX4_dismiss 14 = .ok (.ifCond .eq 7, 3) := by decide +kernel
theorem dX4_dismiss_17 : decode cX4_dismiss 17 = .ok (.iconst 1, 1) := by decide +kernel
theorem dX4_dismiss_18 : decode cX4_dismiss 18 = .ok (.goto 4, 3) := by decide +kernel
theorem dX4_dismiss_21 : decode cX4_dismiss 21 = .ok (.iconst 2, 1) := by decide +kernel
theorem dX4_dismiss_22 : decode cX4_dismiss 22 = .ok (.iastore, 1) := by decide +kernel
theorem dX4_dismiss_23 : decode cX4_dismiss 23 = .ok (.iload_n 2, 1) := by decide +kernel
theorem dX4_dismiss_24 : decode cX4_dismiss 24 = .ok (.ifCond .eq 39, 3) := by decide +kernel
theorem dX4_dismiss_27 : decode cX4_dismiss 27 = .ok (.aload_n 0, 1) := by decide +kernel
theorem dX4_dismiss_28 : decode cX4_dismiss 28 = .ok (.sipush 9999, 3) := by decide +kernel
theorem dX4_dismiss_31 : decode cX4_dismiss 31 = .ok (.aload_n 0, 1) := by decide +kernel
theorem dX4_dismiss_32 : decode cX4_dismiss 32 = .ok (.getfield 49, 3) := by decide +kernel
theorem dX4_dismiss_35 : decode cX4_dismiss 35 = .ok (.iconst 1, 1) := by decide +kernel
theorem dX4_dismiss_36 : decode cX4_dismiss 36 = .ok (.iadd, 1) := by decide +kernel
theorem dX4_dismiss_37 : decode cX4_dismiss 37 = .ok (.invokestatic 65, 3) := by decide +kernel
theorem dX4_dismiss_40 : decode cX4_dismiss 40 = .ok (.putfield 49, 3) := by decide +kernel
theorem dX4_dismiss_43 : decode cX4_dismiss 43 = .ok (.aload_n 0, 1) := by decide +kernel
theorem dX4_dismiss_44 : decode cX4_dismiss 44 = .ok (.getfield 21, 3) := by decide +kernel
theorem dX4_dismiss_47 : decode cX4_dismiss 47 = .ok (.iload_n 1, 1) := by decide +kernel
theorem dX4_dismiss_48 : decode cX4_dismiss 48 = .ok (.bipush 99, 2) := by decide +kernel
theorem dX4_dismiss_50 : decode cX4_dismiss 50 = .ok (.aload_n 0, 1) := by decide +kernel
theorem dX4_dismiss_51 : decode cX4_dismiss 51 = .ok (.getfield 21, 3) := by decide +kernel
theorem dX4_dismiss_54 : decode cX4_dismiss 54 = .ok (.iload_n 1, 1) := by decide +kernel
theorem dX4_dismiss_55 : decode cX4_dismiss 55 = .ok (.iaload, 1) := by decide +kernel
theorem dX4_dismiss_56 : decode cX4_dismiss 56 = .ok (.bipush 10, 2) := by decide +kernel
theorem dX4_dismiss_58 : decode cX4_dismiss 58 = .ok (.iadd, 1) := by decide +kernel
theorem dX4_dismiss_59 : decode cX4_dismiss 59 = .ok (.invokestatic 65, 3) := by decide +kernel
theorem dX4_dismiss_62 : decode cX4_dismiss 62 = .ok (.iastore, 1) := by decide +kernel
theorem dX4_dismiss_63 : decode cX4_dismiss 63 = .ok (.aload_n 0, 1) := by decide +kernel
theorem dX4_dismiss_64 : decode cX4_dismiss 64 = .ok (.getfield 43, 3) := by decide +kernel
theorem dX4_dismiss_67 : decode cX4_dismiss 67 = .ok (.bipush 30, 2) := by decide +kernel
theorem dX4_dismiss_69 : decode cX4_dismiss 69 = .ok (.if_icmp .lt 24, 3) := by decide +kernel
theorem dX4_dismiss_72 : decode cX4_dismiss 72 = .ok (.aload_n 0, 1) := by decide +kernel
theorem dX4_dismiss_73 : decode cX4_dismiss 73 = .ok (.getfield 30, 3) := by decide +kernel
theorem dX4_dismiss_76 : decode cX4_dismiss 76 = .ok (.iconst 1, 1) := by decide +kernel
theorem dX4_dismiss_77 : decode cX4_dismiss 77 = .ok (.aload_n 0, 1) := by decide +kernel
theorem dX4_dismiss_78 : decode cX4_dismiss 78 = .ok (.getfield 30, 3) := by decide +kernel
theorem dX4_dismiss_81 : decode cX4_dismiss 81 = .ok (.iconst 0, 1) := by decide +kernel
theorem dX4_dismiss_82 : decode cX4_dismiss 82 = .ok (.bipush 29, 2) := by decide +kernel
theorem dX4_dismiss_84 : decode cX4_dismiss 84 = .ok (.invokestatic 37, 3) := by decide +kernel
theorem dX4_dismiss_87 : decode cX4_dismiss 87 = .ok (.aload_n 0, 1) := by decide +kernel
theorem dX4_dismiss_88 : decode cX4_dismiss 88 = .ok (.bipush 29, 2) := by decide +kernel
theorem dX4_dismiss_90 : decode cX4_dismiss 90 = .ok (.putfield 43, 3) := by decide +kernel
theorem dX4_dismiss_93 : decode cX4_dismiss 93 = .ok (.aload_n 0, 1) := by decide +kernel
theorem dX4_dismiss_94 : decode cX4_dismiss 94 = .ok (.getfield 43, 3) := by decide +kernel
theorem dX4_dismiss_97 : decode cX4_dismiss 97 = .ok (.ifCond .lt 52, 3) := by decide +kernel
theorem dX4_dismiss_100 : decode cX4_dismiss 100 = .ok (.aload_n 0, 1) := by decide +kernel
theorem dX4_dismiss_101 : decode cX4_dismiss 101 = .ok (.getfield 30, 3) := by decide +kernel
theorem dX4_dismiss_104 : decode cX4_dismiss 104 = .ok (.aload_n 0, 1) := by decide +kernel
theorem dX4_dismiss_105 : decode cX4_dismiss 105 = .ok (.getfield 43, 3) := by decide +kernel
theorem dX4_dismiss_108 : decode cX4_dismiss 108 = .ok (.aload_n 0, 1) := by decide +kernel
theorem dX4_dismiss_109 : decode cX4_dismiss 109 = .ok (.getfield 52, 3) := by decide +kernel
theorem dX4_dismiss_112 : decode cX4_dismiss 112 = .ok (.iconst 5, 1) := by decide +kernel
theorem dX4_dismiss_113 : decode cX4_dismiss 113 = .ok (.imul, 1) := by decide +kernel
theorem dX4_dismiss_114 : decode cX4_dismiss 114 = .ok (.iload_n 1, 1) := by decide +kernel
theorem dX4_dismiss_115 : decode cX4_dismiss 115 = .ok (.iadd, 1) := by decide +kernel
theorem dX4_dismiss_116 : decode cX4_dismiss 116 = .ok (.bipush 12, 2) := by decide +kernel
theorem dX4_dismiss_118 : decode cX4_dismiss 118 = .ok (.imul, 1) := by decide +kernel
theorem dX4_dismiss_119 : decode cX4_dismiss 119 = .ok (.aload_n 0, 1) := by decide +kernel
theorem dX4_dismiss_120 : decode cX4_dismiss 120 = .ok (.getfield 9, 3) := by decide +kernel
theorem dX4_dismiss_123 : decode cX4_dismiss 123 = .ok (.iload_n 1, 1) := by decide +kernel
theorem dX4_dismiss_124 : decode cX4_dismiss 124 = .ok (.iaload, 1) := by decide +kernel
theorem dX4_dismiss_125 : decode cX4_dismiss 125 = .ok (.iadd, 1) := by decide +kernel
theorem dX4_dismiss_126 : decode cX4_dismiss 126 = .ok (.iconst 2, 1) := by decide +kernel
theorem dX4_dismiss_127 : decode cX4_dismiss 127 = .ok (.imul, 1) := by decide +kernel
theorem dX4_dismiss_128 : decode cX4_dismiss 128 = .ok (.iload_n 2, 1) := by decide +kernel
theorem dX4_dismiss_129 : decode cX4_dismiss 129 = .ok (.ifCond .eq 7, 3) := by decide +kernel
theorem dX4_dismiss_132 : decode cX4_dismiss 132 = .ok (.iconst 1, 1) := by decide +kernel
theorem dX4_dismiss_133 : decode cX4_dismiss 133 = .ok (.goto 4, 3) := by decide +kernel
theorem dX4_dismiss_136 : decode cX4_dismiss 136 = .ok (.iconst 0, 1) := by decide +kernel
theorem dX4_dismiss_137 : decode cX4_dismiss 137 = .ok (.iadd, 1) := by decide +kernel
theorem dX4_dismiss_138 : decode cX4_dismiss 138 = .ok (.iastore, 1) := by decide +kernel
theorem dX4_dismiss_139 : decode cX4_dismiss 139 = .ok (.aload_n 0, 1) := by decide +kernel
theorem dX4_dismiss_140 : decode cX4_dismiss 140 = .ok (.dup, 1) := by decide +kernel
theorem dX4_dismiss_141 : decode cX4_dismiss 141 = .ok (.getfield 43, 3) := by decide +kernel
theorem dX4_dismiss_144 : decode cX4_dismiss 144 = .ok (.iconst 1, 1) := by decide +kernel
theorem dX4_dismiss_145 : decode cX4_dismiss 145 = .ok (.iadd, 1) := by decide +kernel
theorem dX4_dismiss_146 : decode cX4_dismiss 146 = .ok (.putfield 43, 3) := by decide +kernel
theorem dX4_dismiss_149 : decode cX4_dismiss 149 = .ok (.return_, 1) := by decide +kernel
theorem dX4_entry_0 : decode cX4_entry 0 = .ok (.iload_n 1, 1) := by decide +kernel
theorem dX4_entry_1 : decode cX4_entry 1 = .ok (.ifCond .lt 17, 3) := by decide +kernel
theorem dX4_entry_4 : decode cX4_entry 4 = .ok (.iload_n 1, 1) := by decide +kernel
theorem dX4_entry_5 : decode cX4_entry 5 = .ok (.aload_n 0, 1) := by decide +kernel
theorem dX4_entry_6 : decode cX4_entry 6 = .ok (.getfield 43, 3) := by decide +kernel
theorem dX4_entry_9 : decode cX4_entry 9 = .ok (.if_icmp .ge 9, 3) := by decide +kernel
theorem dX4_entry_12 : decode cX4_entry 12 = .ok (.iload_n 1, 1) := by decide +kernel
theorem dX4_entry_13 : decode cX4_entry 13 = .ok (.bipush 30, 2) := by decide +kernel
theorem dX4_entry_15 : decode cX4_entry 15 = .ok (.if_icmp .lt 6, 3) := by decide +kernel
theorem dX4_entry_18 : decode cX4_entry 18 = .ok (.bipush (-2), 2) := by decide +kernel
theorem dX4_entry_20 : decode cX4_entry 20 = .ok (.ireturn, 1) := by decide +kernel
theorem dX4_entry_21 : decode cX4_entry 21 = .ok (.aload_n 0, 1) := by decide +kernel
theorem dX4_entry_22 : decode cX4_entry 22 = .ok (.getfield 30, 3) := by decide +kernel
theorem dX4_entry_25 : decode cX4_entry 25 = .ok (.iload_n 1, 1) := by decide +kernel
theorem dX4_entry_26 : decode cX4_entry 26 = .ok (.iaload, 1) := by decide +kernel
theorem dX4_entry_27 : decode cX4_entry 27 = .ok (.istore_n 3, 1) := by decide +kernel
theorem dX4_entry_28 : decode cX4_entry 28 = .ok (.iload_n 2, 1) := by decide +kernel
theorem dX4_entry_29 : decode cX4_entry 29 = .ok (.tableswitch 54 0 3 #[31, 36, 43, 50], 31) := by decide +kernel
theorem dX4_entry_60 : decode cX4_entry 60 = .ok (.iload_n 3, 1) := by decide +kernel
theorem dX4_entry_61 : decode cX4_entry 61 = .ok (.bipush 120, 2) := by decide +kernel
theorem dX4_entry_63 : decode cX4_entry 63 = .ok (.idiv, 1) := by decide +kernel
theorem dX4_entry_64 : decode cX4_entry 64 = .ok (.ireturn, 1) := by decide +kernel
theorem dX4_entry_65 : decode cX4_entry 65 = .ok (.iload_n 3, 1) := by decide +kernel
theorem dX4_entry_66 : decode cX4_entry 66 = .ok (.bipush 24, 2) := by decide +kernel
theorem dX4_entry_68 : decode cX4_entry 68 = .ok (.idiv, 1) := by decide +kernel
theorem dX4_entry_69 : decode cX4_entry 69 = .ok (.iconst 5, 1) := by decide +kernel
theorem dX4_entry_70 : decode cX4_entry 70 = .ok (.irem, 1) := by decide +kernel
theorem dX4_entry_71 : decode cX4_entry 71 = .ok (.ireturn, 1) := by decide +kernel
theorem dX4_entry_72 : decode cX4_entry 72 = .ok (.iload_n 3, 1) := by decide +kernel
theorem dX4_entry_73 : decode cX4_entry 73 = .ok (.iconst 2, 1) := by decide +kernel
theorem dX4_entry_74 : decode cX4_entry 74 = .ok (.idiv, 1) := by decide +kernel
theorem dX4_entry_75 : decode cX4_entry 75 = .ok (.bipush 12, 2) := by decide +kernel
theorem dX4_entry_77 : decode cX4_entry 77 = .ok (.irem, 1) := by decide +kernel
theorem dX4_entry_78 : decode cX4_entry 78 = .ok (.ireturn, 1) := by decide +kernel
theorem dX4_entry_79 : decode cX4_entry 79 = .ok (.iload_n 3, 1) := by decide +kernel
theorem dX4_entry_80 : decode cX4_entry 80 = .ok (.iconst 2, 1) := by decide +kernel
theorem dX4_entry_81 : decode cX4_entry 81 = .ok (.irem, 1) := by decide +kernel
theorem dX4_entry_82 : decode cX4_entry 82 = .ok (.ireturn, 1) := by decide +kernel
theorem dX4_entry_83 : decode cX4_entry 83 = .ok (.bipush (-2), 2) := by decide +kernel
theorem dX4_entry_85 : decode cX4_entry 85 = .ok (.ireturn, 1) := by decide +kernel
theorem dX5_init_0 : decode cX5_init 0 = .ok (.aload_n 0, 1) := by decide +kernel
theorem dX5_init_1 : decode cX5_init 1 = .ok (.invokespecial 3, 3) := by decide +kernel
theorem dX5_init_4 : decode cX5_init 4 = .ok (.aload_n 0, 1) := by decide +kernel
theorem dX5_init_5 : decode cX5_init 5 = .ok (.bipush 10, 2) := by decide +kernel
theorem dX5_init_7 : decode cX5_init 7 = .ok (.newarray .int, 2) := by decide +kernel
theorem dX5_init_9 : decode cX5_init 9 = .ok (.putfield 11, 3) := by decide +kernel
theorem dX5_init_12 : decode cX5_init 12 = .ok (.aload_n 0, 1) := by decide +kernel
theorem dX5_init_13 : decode cX5_init 13 = .ok (.sipush 300, 3) := by decide +kernel
theorem dX5_init_16 : decode cX5_init 16 = .ok (.newarray .int, 2) := by decide +kernel
theorem dX5_init_18 : decode cX5_init 18 = .ok (.putfield 15, 3) := by decide +kernel
theorem dX5_init_21 : decode cX5_init 21 = .ok (.aload_n 0, 1) := by decide +kernel
theorem dX5_init_22 : decode cX5_init 22 = .ok (.aload_n 1, 1) := by decide +kernel
theorem dX5_init_23 : decode cX5_init 23 = .ok (.putfield 18, 3) := by decide +kernel
theorem dX5_init_26 : decode cX5_init 26 = .ok (.return_, 1) := by decide +kernel
set_option maxRecDepth 20000 in
theorem ggX5_saysNext_X11_isWant : GoodIn wsX5_saysNext wsX11_isWant := goodIn_r _ [16] (by decide +kernel) (by decide +kernel)
set_option maxRecDepth 20000 in
theorem gX5_saysNext_X11_isWant_n22 : GoodIn wsX5_saysNext (wsX11_isWant) := ggX5_saysNext_X11_isWant
set_option maxRecDepth 20000 in
theorem ggX5_saysNext_X4_isThere : GoodIn wsX5_saysNext wsX4_isThere := goodIn_r _ [21, 22, 96, 97, 98, 99, 100, 101, 102, 103, 104, 105, 106, 107] (by decide +kernel) (by decide +kernel)
set_option maxRecDepth 20000 in
theorem gX5_saysNext_X4_isThere : GoodIn wsX5_saysNext (wsV RX5 26 RX4 yX4_isThere wsX4_isThere) := goodIn_app (goodIn_of _ (by decide +kernel)) ggX5_saysNext_X4_isThere
set_option maxRecDepth 20000 in
theorem ggX5_saysNext_X8_hasLaw : GoodIn wsX5_saysNext wsX8_hasLaw := goodIn_r _ [27, 28, 29, 85, 86, 87, 88, 89, 90, 91, 92, 93, 94, 95] (by decide +kernel) (by decide +kernel)
set_option maxRecDepth 20000 in
theorem gX5_saysNext_X8_hasLaw : GoodIn wsX5_saysNext (wsV RX5 33 RX8 yX8_hasLaw wsX8_hasLaw) := goodIn_app (goodIn_of _ (by decide +kernel)) ggX5_saysNext_X8_hasLaw
set_option maxRecDepth 20000 in
theorem ggX5_saysNext_X5_load : GoodIn wsX5_saysNext wsX5_load := goodIn_r _ [34, 3, 35, 36, 37, 38, 39, 40, 41, 15, 42, 43, 44, 45, 46, 47, 48, 49, 77, 78, 79, 96, 97, 98, 99, 100, 101, 102, 103, 104, 105, 106, 107] (by decide +kernel) (by decide +kernel)
set_option maxRecDepth 20000 in
theorem gX5_saysNext_X5_load : GoodIn wsX5_saysNext (wsV RX5 43 RX5 yX5_load wsX5_load) := goodIn_app (goodIn_of _ (by decide +kernel)) ggX5_saysNext_X5_load
set_option maxRecDepth 20000 in
theorem ggX5_saysNext_X5_run : GoodIn wsX5_saysNext wsX5_run := goodIn_r _ [53, 11, 12, 9, 13, 54, 55, 56, 57, 58, 59, 60, 61, 62, 63, 64, 65, 66, 67, 33, 68, 3, 69, 70, 71, 72, 1, 73, 74, 75, 76, 85, 86, 87, 88, 89, 90, 91, 92, 93, 94, 95, 77, 78, 79, 80, 81, 82, 83, 84] (by decide +kernel) (by decide +kernel)
set_option maxRecDepth 20000 in
theorem gX5_saysNext_X5_run : GoodIn wsX5_saysNext (wsV RX5 57 RX5 yX5_run wsX5_run) := goodIn_app (goodIn_of _ (by decide +kernel)) ggX5_saysNext_X5_run
theorem dX5_saysNext_0 : decode cX5_saysNext 0 = .ok (.iload 4, 2) := by decide +kernel
theorem dX5_saysNext_2 : decode cX5_saysNext 2 = .ok (.invokestatic 22, 3) := by decide +kernel
theorem dX5_saysNext_5 : decode cX5_saysNext 5 = .ok (.ifCond .eq 11, 3) := by decide +kernel
theorem dX5_saysNext_8 : decode cX5_saysNext 8 = .ok (.aload_n 2, 1) := by decide +kernel
theorem dX5_saysNext_9 : decode cX5_saysNext 9 = .ok (.iload_n 3, 1) := by decide +kernel
theorem dX5_saysNext_10 : decode cX5_saysNext 10 = .ok (.invokevirtual 26, 3) := by decide +kernel
theorem dX5_saysNext_13 : decode cX5_saysNext 13 = .ok (.ifCond .ne 5, 3) := by decide +kernel
theorem dX5_saysNext_16 : decode cX5_saysNext 16 = .ok (.iconst 0, 1) := by decide +kernel
theorem dX5_saysNext_17 : decode cX5_saysNext 17 = .ok (.ireturn, 1) := by decide +kernel
theorem dX5_saysNext_18 : decode cX5_saysNext 18 = .ok (.aload_n 1, 1) := by decide +kernel
theorem dX5_saysNext_19 : decode cX5_saysNext 19 = .ok (.ifnull 12, 3) := by decide +kernel
theorem dX5_saysNext_22 : decode cX5_saysNext 22 = .ok (.aload_n 1, 1) := by decide +kernel
theorem dX5_saysNext_23 : decode cX5_saysNext 23 = .ok (.bipush 16, 2) := by decide +kernel
theorem dX5_saysNext_25 : decode cX5_saysNext 25 = .ok (.invokevirtual 33, 3) := by decide +kernel
theorem dX5_saysNext_28 : decode cX5_saysNext 28 = .ok (.ifCond .ne 14, 3) := by decide +kernel
theorem dX5_saysNext_31 : decode cX5_saysNext 31 = .ok (.aload_n 0, 1) := by decide +kernel
theorem dX5_saysNext_32 : decode cX5_saysNext 32 = .ok (.getfield 18, 3) := by decide +kernel
theorem dX5_saysNext_35 : decode cX5_saysNext 35 = .ok (.getfield 38, 3) := by decide +kernel
theorem dX5_saysNext_38 : decode cX5_saysNext 38 = .ok (.iload 4, 2) := by decide +kernel
theorem dX5_saysNext_40 : decode cX5_saysNext 40 = .ok (.iaload, 1) := by decide +kernel
theorem dX5_saysNext_41 : decode cX5_saysNext 41 = .ok (.ireturn, 1) := by decide +kernel
theorem dX5_saysNext_42 : decode cX5_saysNext 42 = .ok (.aload_n 0, 1) := by decide +kernel
theorem dX5_saysNext_43 : decode cX5_saysNext 43 = .ok (.aload_n 2, 1) := by decide +kernel
theorem dX5_saysNext_44 : decode cX5_saysNext 44 = .ok (.iload_n 3, 1) := by decide +kernel
theorem dX5_saysNext_45 : decode cX5_saysNext 45 = .ok (.invokevirtual 43, 3) := by decide +kernel
theorem dX5_saysNext_48 : decode cX5_saysNext 48 = .ok (.aload_n 0, 1) := by decide +kernel
theorem dX5_saysNext_49 : decode cX5_saysNext 49 = .ok (.getfield 11, 3) := by decide +kernel
theorem dX5_saysNext_52 : decode cX5_saysNext 52 = .ok (.bipush 7, 2) := by decide +kernel
theorem dX5_saysNext_54 : decode cX5_saysNext 54 = .ok (.iload 4, 2) := by decide +kernel
theorem dX5_saysNext_56 : decode cX5_saysNext 56 = .ok (.iastore, 1) := by decide +kernel
theorem dX5_saysNext_57 : decode cX5_saysNext 57 = .ok (.aload_n 0, 1) := by decide +kernel
theorem dX5_saysNext_58 : decode cX5_saysNext 58 = .ok (.getfield 11, 3) := by decide +kernel
theorem dX5_saysNext_61 : decode cX5_saysNext 61 = .ok (.bipush 8, 2) := by decide +kernel
theorem dX5_saysNext_63 : decode cX5_saysNext 63 = .ok (.aload_n 0, 1) := by decide +kernel
theorem dX5_saysNext_64 : decode cX5_saysNext 64 = .ok (.getfield 18, 3) := by decide +kernel
theorem dX5_saysNext_67 : decode cX5_saysNext 67 = .ok (.getfield 38, 3) := by decide +kernel
theorem dX5_saysNext_70 : decode cX5_saysNext 70 = .ok (.iload 4, 2) := by decide +kernel
theorem dX5_saysNext_72 : decode cX5_saysNext 72 = .ok (.iaload, 1) := by decide +kernel
theorem dX5_saysNext_73 : decode cX5_saysNext 73 = .ok (.iastore, 1) := by decide +kernel
theorem dX5_saysNext_74 : decode cX5_saysNext 74 = .ok (.aload_n 0, 1) := by decide +kernel
theorem dX5_saysNext_75 : decode cX5_saysNext 75 = .ok (.getfield 11, 3) := by decide +kernel
theorem dX5_saysNext_78 : decode cX5_saysNext 78 = .ok (.bipush 9, 2) := by decide +kernel
theorem dX5_saysNext_80 : decode cX5_saysNext 80 = .ok (.aload_n 0, 1) := by decide +kernel
theorem dX5_saysNext_81 : decode cX5_saysNext 81 = .ok (.getfield 18, 3) := by decide +kernel
theorem dX5_saysNext_84 : decode cX5_saysNext 84 = .ok (.getfield 47, 3) := by decide +kernel
theorem dX5_saysNext_87 : decode cX5_saysNext 87 = .ok (.iload 4, 2) := by decide +kernel
theorem dX5_saysNext_89 : decode cX5_saysNext 89 = .ok (.iaload, 1) := by decide +kernel
theorem dX5_saysNext_90 : decode cX5_saysNext 90 = .ok (.iastore, 1) := by decide +kernel
theorem dX5_saysNext_91 : decode cX5_saysNext 91 = .ok (.sipush (-999), 3) := by decide +kernel
theorem dX5_saysNext_94 : decode cX5_saysNext 94 = .ok (.sipush 999, 3) := by decide +kernel
theorem dX5_saysNext_97 : decode cX5_saysNext 97 = .ok (.aload_n 0, 1) := by decide +kernel
theorem dX5_saysNext_98 : decode cX5_saysNext 98 = .ok (.aload_n 1, 1) := by decide +kernel
theorem dX5_saysNext_99 : decode cX5_saysNext 99 = .ok (.aload_n 1, 1) := by decide +kernel
theorem dX5_saysNext_100 : decode cX5_saysNext 100 = .ok (.getfield 50, 3) := by decide +kernel
theorem dX5_saysNext_103 : decode cX5_saysNext 103 = .ok (.aload_n 1, 1) := by decide +kernel
theorem dX5_saysNext_104 : decode cX5_saysNext 104 = .ok (.getfield 54, 3) := by decide +kernel
theorem dX5_saysNext_107 : decode cX5_saysNext 107 = .ok (.invokevirtual 57, 3) := by decide +kernel
theorem dX5_saysNext_110 : decode cX5_saysNext 110 = .ok (.invokestatic 61, 3) := by decide +kernel
theorem dX5_saysNext_113 : decode cX5_saysNext 113 = .ok (.invokestatic 67, 3) := by decide +kernel
theorem dX5_saysNext_116 : decode cX5_saysNext 116 = .ok (.ireturn, 1) := by decide +kernel
set_option maxRecDepth 20000 in
theorem ggX5_saysNeed_X4_isThere : GoodIn wsX5_saysNeed wsX4_isThere := goodIn_r _ [16, 17, 73, 74, 75, 76, 77, 78, 79, 80, 81, 82, 83, 84] (by decide +kernel) (by decide +kernel)
set_option maxRecDepth 20000 in
theorem gX5_saysNeed_X4_isThere : GoodIn wsX5_saysNeed (wsV RX5 26 RX4 yX4_isThere wsX4_isThere) := goodIn_app (goodIn_of _ (by decide +kernel)) ggX5_saysNeed_X4_isThere
set_option maxRecDepth 20000 in
theorem ggX5_saysNeed_X8_hasLaw : GoodIn wsX5_saysNeed wsX8_hasLaw := goodIn_r _ [22, 23, 24, 85, 86, 87, 88, 89, 90, 91, 92, 93, 94, 95] (by decide +kernel) (by decide +kernel)
set_option maxRecDepth 20000 in
theorem gX5_saysNeed_X8_hasLaw : GoodIn wsX5_saysNeed (wsV RX5 33 RX8 yX8_hasLaw wsX8_hasLaw) := goodIn_app (goodIn_of _ (by decide +kernel)) ggX5_saysNeed_X8_hasLaw
set_option maxRecDepth 20000 in
theorem ggX5_saysNeed_X5_load : GoodIn wsX5_saysNeed wsX5_load := goodIn_r _ [29, 30, 31, 1, 2, 32, 33, 34, 35, 36, 37, 38, 39, 40, 41, 42, 43, 44, 96, 97, 98, 73, 74, 75, 76, 77, 78, 79, 80, 81, 82, 83, 84] (by decide +kernel) (by decide +kernel)
set_option maxRecDepth 20000 in
theorem gX5_saysNeed_X5_load : GoodIn wsX5_saysNeed (wsV RX5 43 RX5 yX5_load wsX5_load) := goodIn_app (goodIn_of _ (by decide +kernel)) ggX5_saysNeed_X5_load
set_option maxRecDepth 20000 in
theorem ggX5_saysNeed_X5_run : GoodIn wsX5_saysNeed wsX5_run := goodIn_r _ [48, 9, 10, 7, 11, 49, 50, 51, 52, 53, 54, 55, 56, 57, 58, 59, 60, 61, 62, 28, 63, 30, 64, 65, 66, 67, 68, 69, 70, 71, 72, 85, 86, 87, 88, 89, 90, 91, 92, 93, 94, 95, 96, 97, 98, 99, 100, 101, 102, 103] (by decide +kernel) (by decide +kernel)
set_option maxRecDepth 20000 in
theorem gX5_saysNeed_X5_run : GoodIn wsX5_saysNeed (wsV RX5 57 RX5 yX5_run wsX5_run) := goodIn_app (goodIn_of _ (by decide +kernel)) ggX5_saysNeed_X5_run
theorem dX5_saysNeed_0 : decode cX5_saysNeed 0 = .ok (.aload_n 2, 1) := by decide +kernel
theorem dX5_saysNeed_1 : decode cX5_saysNeed 1 = .ok (.iload_n 3, 1) := by decide +kernel
theorem dX5_saysNeed_2 : decode cX5_saysNeed 2 = .ok (.invokevirtual 26, 3) := by decide +kernel
theorem dX5_saysNeed_5 : decode cX5_saysNeed 5 = .ok (.ifCond .ne 5, 3) := by decide +kernel
theorem dX5_saysNeed_8 : decode cX5_saysNeed 8 = .ok (.iconst 0, 1) := by decide +kernel
theorem dX5_saysNeed_9 : decode cX5_saysNeed 9 = .ok (.ireturn, 1) := by decide +kernel
theorem dX5_saysNeed_10 : decode cX5_saysNeed 10 = .ok (.aload_n 1, 1) := by decide +kernel
theorem dX5_saysNeed_11 : decode cX5_saysNeed 11 = .ok (.ifnull 12, 3) := by decide +kernel
theorem dX5_saysNeed_14 : decode cX5_saysNeed 14 = .ok (.aload_n 1, 1) := by decide +kernel
theorem dX5_saysNeed_15 : decode cX5_saysNeed 15 = .ok (.bipush 17, 2) := by decide +kernel
theorem dX5_saysNeed_17 : decode cX5_saysNeed 17 = .ok (.invokevirtual 33, 3) := by decide +kernel
theorem dX5_saysNeed_20 : decode cX5_saysNeed 20 = .ok (.ifCond .ne 19, 3) := by decide +kernel
theorem dX5_saysNeed_23 : decode cX5_saysNeed 23 = .ok (.aload_n 2, 1) := by decide +kernel
theorem dX5_saysNeed_24 : decode cX5_saysNeed 24 = .ok (.getfield 70, 3) := by decide +kernel
theorem dX5_saysNeed_27 : decode cX5_saysNeed 27 = .ok (.iload_n 3, 1) := by decide +kernel
theorem dX5_saysNeed_28 : decode cX5_saysNeed 28 = .ok (.iaload, 1) := by decide +kernel
theorem dX5_saysNeed_29 : decode cX5_saysNeed 29 = .ok (.iconst 2, 1) := by decide +kernel
theorem dX5_saysNeed_30 : decode cX5_saysNeed 30 = .ok (.aload_n 2, 1) := by decide +kernel
theorem dX5_saysNeed_31 : decode cX5_saysNeed 31 = .ok (.getfield 73, 3) := by decide +kernel
theorem dX5_saysNeed_34 : decode cX5_saysNeed 34 = .ok (.iload_n 3, 1) := by decide +kernel
theorem dX5_saysNeed_35 : decode cX5_saysNeed 35 = .ok (.iaload, 1) := by decide +kernel
theorem dX5_saysNeed_36 : decode cX5_saysNeed 36 = .ok (.imul, 1) := by decide +kernel
theorem dX5_saysNeed_37 : decode cX5_saysNeed 37 = .ok (.isub, 1) := by decide +kernel
theorem dX5_saysNeed_38 : decode cX5_saysNeed 38 = .ok (.ireturn, 1) := by decide +kernel
theorem dX5_saysNeed_39 : decode cX5_saysNeed 39 = .ok (.aload_n 0, 1) := by decide +kernel
theorem dX5_saysNeed_40 : decode cX5_saysNeed 40 = .ok (.aload_n 2, 1) := by decide +kernel
theorem dX5_saysNeed_41 : decode cX5_saysNeed 41 = .ok (.iload_n 3, 1) := by decide +kernel
theorem dX5_saysNeed_42 : decode cX5_saysNeed 42 = .ok (.invokevirtual 43, 3) := by decide +kernel
theorem dX5_saysNeed_45 : decode cX5_saysNeed 45 = .ok (.sipush (-999), 3) := by decide +kernel
theorem dX5_saysNeed_48 : decode cX5_saysNeed 48 = .ok (.sipush 999, 3) := by decide +kernel
theorem dX5_saysNeed_51 : decode cX5_saysNeed 51 = .ok (.aload_n 0, 1) := by decide +kernel
theorem dX5_saysNeed_52 : decode cX5_saysNeed 52 = .ok (.aload_n 1, 1) := by decide +kernel
theorem dX5_saysNeed_53 : decode cX5_saysNeed 53 = .ok (.aload_n 1, 1) := by decide +kernel
theorem dX5_saysNeed_54 : decode cX5_saysNeed 54 = .ok (.getfield 76, 3) := by decide +kernel
theorem dX5_saysNeed_57 : decode cX5_saysNeed 57 = .ok (.aload_n 1, 1) := by decide +kernel
theorem dX5_saysNeed_58 : decode cX5_saysNeed 58 = .ok (.getfield 79, 3) := by decide +kernel
theorem dX5_saysNeed_61 : decode cX5_saysNeed 61 = .ok (.invokevirtual 57, 3) := by decide +kernel
theorem dX5_saysNeed_64 : decode cX5_saysNeed 64 = .ok (.invokestatic 61, 3) := by decide +kernel
theorem dX5_saysNeed_67 : decode cX5_saysNeed 67 = .ok (.invokestatic 67, 3) := by decide +kernel
theorem dX5_saysNeed_70 : decode cX5_saysNeed 70 = .ok (.ireturn, 1) := by decide +kernel
set_option maxRecDepth 20000 in
theorem ggX5_load_X11_isPerson : GoodIn wsX5_load wsX11_isPerson := goodIn_r _ [10] (by decide +kernel) (by decide +kernel)
set_option maxRecDepth 20000 in
theorem gX5_load_X11_isPerson_n82 : GoodIn wsX5_load (wsX11_isPerson) := ggX5_load_X11_isPerson
set_option maxRecDepth 20000 in
theorem ggX5_load_J6_bitCount_0f7a4 : GoodIn wsX5_load wsJ6_bitCount_0f7a4 := goodIn_r _ [14, 15, 16, 17] (by decide +kernel) (by decide +kernel)
set_option maxRecDepth 20000 in
theorem gX5_load_J6_bitCount_0f7a4 : GoodIn wsX5_load (va_wsS RX5 97 yJ6_bitCount_0f7a4 wsJ6_bitCount_0f7a4) := goodIn_app (goodIn_of _ (by decide +kernel)) ggX5_load_J6_bitCount_0f7a4
theorem dX5_load_0 : decode cX5_load 0 = .ok (.iload_n 2, 1) := by decide +kernel
theorem dX5_load_1 : decode cX5_load 1 = .ok (.invokestatic 82, 3) := by decide +kernel
theorem dX5_load_4 : decode cX5_load 4 = .ok (.ifCond .eq 84, 3) := by decide +kernel
theorem dX5_load_7 : decode cX5_load 7 = .ok (.aload_n 0, 1) := by decide +kernel
theorem dX5_load_8 : decode cX5_load 8 = .ok (.getfield 11, 3) := by decide +kernel
theorem dX5_load_11 : decode cX5_load 11 = .ok (.iconst 0, 1) := by decide +kernel
theorem dX5_load_12 : decode cX5_load 12 = .ok (.aload_n 1, 1) := by decide +kernel
theorem dX5_load_13 : decode cX5_load 13 = .ok (.getfield 85, 3) := by decide +kernel
theorem dX5_load_16 : decode cX5_load 16 = .ok (.iastore, 1) := by decide +kernel
theorem dX5_load_17 : decode cX5_load 17 = .ok (.aload_n 0, 1) := by decide +kernel
theorem dX5_load_18 : decode cX5_load 18 = .ok (.getfield 11, 3) := by decide +kernel
theorem dX5_load_21 : decode cX5_load 21 = .ok (.iconst 1, 1) := by decide +kernel
theorem dX5_load_22 : decode cX5_load 22 = .ok (.iload_n 2, 1) := by decide +kernel
theorem dX5_load_23 : decode cX5_load 23 = .ok (.iastore, 1) := by decide +kernel
theorem dX5_load_24 : decode cX5_load 24 = .ok (.aload_n 0, 1) := by decide +kernel
theorem dX5_load_25 : decode cX5_load 25 = .ok (.getfield 11, 3) := by decide +kernel
theorem dX5_load_28 : decode cX5_load 28 = .ok (.iconst 2, 1) := by decide +kernel
theorem dX5_load_29 : decode cX5_load 29 = .ok (.aload_n 1, 1) := by decide +kernel
theorem dX5_load_30 : decode cX5_load 30 = .ok (.getfield 70, 3) := by decide +kernel
theorem dX5_load_33 : decode cX5_load 33 = .ok (.iload_n 2, 1) := by decide +kernel
theorem dX5_load_34 : decode cX5_load 34 = .ok (.iaload, 1) := by decide +kernel
theorem dX5_load_35 : decode cX5_load 35 = .ok (.iastore, 1) := by decide +kernel
theorem dX5_load_36 : decode cX5_load 36 = .ok (.aload_n 0, 1) := by decide +kernel
theorem dX5_load_37 : decode cX5_load 37 = .ok (.getfield 11, 3) := by decide +kernel
theorem dX5_load_40 : decode cX5_load 40 = .ok (.iconst 3, 1) := by decide +kernel
theorem dX5_load_41 : decode cX5_load 41 = .ok (.aload_n 1, 1) := by decide +kernel
theorem dX5_load_42 : decode cX5_load 42 = .ok (.getfield 73, 3) := by decide +kernel
theorem dX5_load_45 : decode cX5_load 45 = .ok (.iload_n 2, 1) := by decide +kernel
theorem dX5_load_46 : decode cX5_load 46 = .ok (.iaload, 1) := by decide +kernel
theorem dX5_load_47 : decode cX5_load 47 = .ok (.iastore, 1) := by decide +kernel
theorem dX5_load_48 : decode cX5_load 48 = .ok (.aload_n 0, 1) := by decide +kernel
theorem dX5_load_49 : decode cX5_load 49 = .ok (.getfield 11, 3) := by decide +kernel
theorem dX5_load_52 : decode cX5_load 52 = .ok (.iconst 4, 1) := by decide +kernel
theorem dX5_load_53 : decode cX5_load 53 = .ok (.aload_n 1, 1) := by decide +kernel
theorem dX5_load_54 : decode cX5_load 54 = .ok (.getfield 88, 3) := by decide +kernel
theorem dX5_load_57 : decode cX5_load 57 = .ok (.iload_n 2, 1) := by decide +kernel
theorem dX5_load_58 : decode cX5_load 58 = .ok (.iaload, 1) := by decide +kernel
theorem dX5_load_59 : decode cX5_load 59 = .ok (.iastore, 1) := by decide +kernel
theorem dX5_load_60 : decode cX5_load 60 = .ok (.aload_n 0, 1) := by decide +kernel
theorem dX5_load_61 : decode cX5_load 61 = .ok (.getfield 11, 3) := by decide +kernel
theorem dX5_load_64 : decode cX5_load 64 = .ok (.iconst 5, 1) := by decide +kernel
theorem dX5_load_65 : decode cX5_load 65 = .ok (.aload_n 1, 1) := by decide +kernel
theorem dX5_load_66 : decode cX5_load 66 = .ok (.getfield 91, 3) := by decide +kernel
theorem dX5_load_69 : decode cX5_load 69 = .ok (.iload_n 2, 1) := by decide +kernel
theorem dX5_load_70 : decode cX5_load 70 = .ok (.iaload, 1) := by decide +kernel
theorem dX5_load_71 : decode cX5_load 71 = .ok (.iastore, 1) := by decide +kernel
theorem dX5_load_72 : decode cX5_load 72 = .ok (.aload_n 0, 1) := by decide +kernel
theorem dX5_load_73 : decode cX5_load 73 = .ok (.getfield 11, 3) := by decide +kernel
theorem dX5_load_76 : decode cX5_load 76 = .ok (.bipush 6, 2) := by decide +kernel
theorem dX5_load_78 : decode cX5_load 78 = .ok (.aload_n 1, 1) := by decide +kernel
theorem dX5_load_79 : decode cX5_load 79 = .ok (.getfield 94, 3) := by decide +kernel
theorem dX5_load_82 : decode cX5_load 82 = .ok (.iload_n 2, 1) := by decide +kernel
theorem dX5_load_83 : decode cX5_load 83 = .ok (.iaload, 1) := by decide +kernel
theorem dX5_load_84 : decode cX5_load 84 = .ok (.invokestatic 97, 3) := by decide +kernel
theorem dX5_load_87 : decode cX5_load 87 = .ok (.iastore, 1) := by decide +kernel
theorem dX5_load_88 : decode cX5_load 88 = .ok (.return_, 1) := by decide +kernel
set_option maxRecDepth 20000 in
theorem ggX5_run_X5_nameAt : GoodIn wsX5_run wsX5_nameAt := goodIn_r _ [20, 21, 42, 43, 44] (by decide +kernel) (by decide +kernel)
set_option maxRecDepth 20000 in
theorem gX5_run_X5_nameAt : GoodIn wsX5_run (wsV RX5 109 RX5 yX5_nameAt wsX5_nameAt) := goodIn_app (goodIn_of _ (by decide +kernel)) ggX5_run_X5_nameAt
set_option maxRecDepth 20000 in
theorem ggX5_run_X5_changed : GoodIn wsX5_run wsX5_changed := goodIn_r _ [25, 26, 27, 42, 43, 44, 45, 46, 47, 48, 49] (by decide +kernel) (by decide +kernel)
set_option maxRecDepth 20000 in
theorem gX5_run_X5_changed : GoodIn wsX5_run (wsV RX5 112 RX5 yX5_changed wsX5_changed) := goodIn_app (goodIn_of _ (by decide +kernel)) ggX5_run_X5_changed
set_option maxRecDepth 20000 in
theorem ggX5_run_X5_joined : GoodIn wsX5_run wsX5_joined := goodIn_r _ [30] (by decide +kernel) (by decide +kernel)
set_option maxRecDepth 20000 in
theorem gX5_run_X5_joined : GoodIn wsX5_run (va_wsS RX5 115 yX5_joined wsX5_joined) := goodIn_app (goodIn_of _ (by decide +kernel)) ggX5_run_X5_joined
theorem dX5_run_0 : decode cX5_run 0 = .ok (.iconst 0, 1) := by decide +kernel
theorem dX5_run_1 : decode cX5_run 1 = .ok (.istore 4, 2) := by decide +kernel
theorem dX5_run_3 : decode cX5_run 3 = .ok (.iconst 0, 1) := by decide +kernel
theorem dX5_run_4 : decode cX5_run 4 = .ok (.iload_n 2, 1) := by decide +kernel
theorem dX5_run_5 : decode cX5_run 5 = .ok (.invokestatic 67, 3) := by decide +kernel
theorem dX5_run_8 : decode cX5_run 8 = .ok (.istore 5, 2) := by decide +kernel
theorem dX5_run_10 : decode cX5_run 10 = .ok (.iload 5, 2) := by decide +kernel
theorem dX5_run_12 : decode cX5_run 12 = .ok (.iload_n 3, 1) := by decide +kernel
theorem dX5_run_13 : decode cX5_run 13 = .ok (.if_icmp .ge 261, 3) := by decide +kernel
theorem dX5_run_16 : decode cX5_run 16 = .ok (.iload 5, 2) := by decide +kernel
theorem dX5_run_18 : decode cX5_run 18 = .ok (.sipush 300, 3) := by decide +kernel
theorem dX5_run_21 : decode cX5_run 21 = .ok (.if_icmp .ge 253, 3) := by decide +kernel
theorem dX5_run_24 : decode cX5_run 24 = .ok (.aload_n 1, 1) := by decide +kernel
theorem dX5_run_25 : decode cX5_run 25 = .ok (.getfield 103, 3) := by decide +kernel
theorem dX5_run_28 : decode cX5_run 28 = .ok (.iload 5, 2) := by decide +kernel
theorem dX5_run_30 : decode cX5_run 30 = .ok (.iaload, 1) := by decide +kernel
theorem dX5_run_31 : decode cX5_run 31 = .ok (.istore 6, 2) := by decide +kernel
theorem dX5_run_33 : decode cX5_run 33 = .ok (.aload_n 1, 1) := by decide +kernel
theorem dX5_run_34 : decode cX5_run 34 = .ok (.getfield 106, 3) := by decide +kernel
theorem dX5_run_37 : decode cX5_run 37 = .ok (.iload 5, 2) := by decide +kernel
theorem dX5_run_39 : decode cX5_run 39 = .ok (.iaload, 1) := by decide +kernel
theorem dX5_run_40 : decode cX5_run 40 = .ok (.istore 7, 2) := by decide +kernel
theorem dX5_run_42 : decode cX5_run 42 = .ok (.iload 6, 2) := by decide +kernel
theorem dX5_run_44 : decode cX5_run 44 = .ok (.iconst 2, 1) := by decide +kernel
theorem dX5_run_45 : decode cX5_run 45 = .ok (.if_icmp .eq 10, 3) := by decide +kernel
theorem dX5_run_48 : decode cX5_run 48 = .ok (.iload 6, 2) := by decide +kernel
theorem dX5_run_50 : decode cX5_run 50 = .ok (.bipush 45, 2) := by decide +kernel
theorem dX5_run_52 : decode cX5_run 52 = .ok (.if_icmp .ne 41, 3) := by decide +kernel
theorem dX5_run_55 : decode cX5_run 55 = .ok (.iload 4, 2) := by decide +kernel
theorem dX5_run_57 : decode cX5_run 57 = .ok (.sipush 300, 3) := by decide +kernel
theorem dX5_run_60 : decode cX5_run 60 = .ok (.if_icmp .ge 208, 3) := by decide +kernel
theorem dX5_run_63 : decode cX5_run 63 = .ok (.aload_n 0, 1) := by decide +kernel
theorem dX5_run_64 : decode cX5_run 64 = .ok (.getfield 15, 3) := by decide +kernel
theorem dX5_run_67 : decode cX5_run 67 = .ok (.iload 4, 2) := by decide +kernel
theorem dX5_run_69 : decode cX5_run 69 = .ok (.iload 6, 2) := by decide +kernel
theorem dX5_run_71 : decode cX5_run 71 = .ok (.iconst 2, 1) := by decide +kernel
theorem dX5_run_72 : decode cX5_run 72 = .ok (.if_icmp .ne 8, 3) := by decide +kernel
theorem dX5_run_75 : decode cX5_run 75 = .ok (.iload 7, 2) := by decide +kernel
theorem dX5_run_77 : decode cX5_run 77 = .ok (.goto 9, 3) := by decide +kernel
theorem dX5_run_80 : decode cX5_run 80 = .ok (.aload_n 0, 1) := by decide +kernel
theorem dX5_run_81 : decode cX5_run 81 = .ok (.iload 7, 2) := by decide +kernel
theorem dX5_run_83 : decode cX5_run 83 = .ok (.invokevirtual 109, 3) := by decide +kernel
theorem dX5_run_86 : decode cX5_run 86 = .ok (.iastore, 1) := by decide +kernel
theorem dX5_run_87 : decode cX5_run 87 = .ok (.iinc 4 1, 3) := by decide +kernel
theorem dX5_run_90 : decode cX5_run 90 = .ok (.goto 178, 3) := by decide +kernel
theorem dX5_run_93 : decode cX5_run 93 = .ok (.iload 6, 2) := by decide +kernel
theorem dX5_run_95 : decode cX5_run 95 = .ok (.bipush 33, 2) := by decide +kernel
theorem dX5_run_97 : decode cX5_run 97 = .ok (.if_icmp .ne 17, 3) := by decide +kernel
theorem dX5_run_100 : decode cX5_run 100 = .ok (.iload 5, 2) := by decide +kernel
theorem dX5_run_102 : decode cX5_run 102 = .ok (.iload 7, 2) := by decide +kernel
theorem dX5_run_104 : decode cX5_run 104 = .ok (.iconst 1, 1) := by decide +kernel
theorem dX5_run_105 : decode cX5_run 105 = .ok (.isub, 1) := by decide +kernel
theorem dX5_run_106 : decode cX5_run 106 = .ok (.invokestatic 67, 3) := by decide +kernel
theorem dX5_run_109 : decode cX5_run 109 = .ok (.istore 5, 2) := by decide +kernel
theorem dX5_run_111 : decode cX5_run 111 = .ok (.goto 157, 3) := by decide +kernel
theorem dX5_run_114 : decode cX5_run 114 = .ok (.iload 6, 2) := by decide +kernel
theorem dX5_run_116 : decode cX5_run 116 = .ok (.bipush 32, 2) := by decide +kernel
theorem dX5_run_118 : decode cX5_run 118 = .ok (.if_icmp .ne 37, 3) := by decide +kernel
theorem dX5_run_121 : decode cX5_run 121 = .ok (.iconst 0, 1) := by decide +kernel
theorem dX5_run_122 : decode cX5_run 122 = .ok (.iload 4, 2) := by decide +kernel
theorem dX5_run_124 : decode cX5_run 124 = .ok (.iconst 1, 1) := by decide +kernel
theorem dX5_run_125 : decode cX5_run 125 = .ok (.isub, 1) := by decide +kernel
theorem dX5_run_126 : decode cX5_run 126 = .ok (.invokestatic 67, 3) := by decide +kernel
theorem dX5_run_129 : decode cX5_run 129 = .ok (.istore 4, 2) := by decide +kernel
theorem dX5_run_131 : decode cX5_run 131 = .ok (.aload_n 0, 1) := by decide +kernel
theorem dX5_run_132 : decode cX5_run 132 = .ok (.getfield 15, 3) := by decide +kernel
theorem dX5_run_135 : decode cX5_run 135 = .ok (.iload 4, 2) := by decide +kernel
theorem dX5_run_137 : decode cX5_run 137 = .ok (.iaload, 1) := by decide +kernel
theorem dX5_run_138 : decode cX5_run 138 = .ok (.ifCond .ne 130, 3) := by decide +kernel
theorem dX5_run_141 : decode cX5_run 141 = .ok (.iload 5, 2) := by decide +kernel
theorem dX5_run_143 : decode cX5_run 143 = .ok (.iload 7, 2) := by decide +kernel
theorem dX5_run_145 : decode cX5_run 145 = .ok (.iconst 1, 1) := by decide +kernel
theorem dX5_run_146 : decode cX5_run 146 = .ok (.isub, 1) := by decide +kernel
theorem dX5_run_147 : decode cX5_run 147 = .ok (.invokestatic 67, 3) := by decide +kernel
theorem dX5_run_150 : decode cX5_run 150 = .ok (.istore 5, 2) := by decide +kernel
theorem dX5_run_152 : decode cX5_run 152 = .ok (.goto 116, 3) := by decide +kernel
theorem dX5_run_155 : decode cX5_run 155 = .ok (.iload 6, 2) := by decide +kernel
theorem dX5_run_157 : decode cX5_run 157 = .ok (.bipush 46, 2) := by decide +kernel
theorem dX5_run_159 : decode cX5_run 159 = .ok (.if_icmp .eq 17, 3) := by decide +kernel
theorem dX5_run_162 : decode cX5_run 162 = .ok (.iload 6, 2) := by decide +kernel
theorem dX5_run_164 : decode cX5_run 164 = .ok (.bipush 37, 2) := by decide +kernel
theorem dX5_run_166 : decode cX5_run 166 = .ok (.if_icmp .eq 10, 3) := by decide +kernel
theorem dX5_run_169 : decode cX5_run 169 = .ok (.iload 6, 2) := by decide +kernel
theorem dX5_run_171 : decode cX5_run 171 = .ok (.bipush 30, 2) := by decide +kernel
theorem dX5_run_173 : decode cX5_run 173 = .ok (.if_icmp .ne 35, 3) := by decide +kernel
theorem dX5_run_176 : decode cX5_run 176 = .ok (.iload 4, 2) := by decide +kernel
theorem dX5_run_178 : decode cX5_run 178 = .ok (.ifCond .le 90, 3) := by decide +kernel
theorem dX5_run_181 : decode cX5_run 181 = .ok (.aload_n 0, 1) := by decide +kernel
theorem dX5_run_182 : decode cX5_run 182 = .ok (.getfield 15, 3) := by decide +kernel
theorem dX5_run_185 : decode cX5_run 185 = .ok (.iload 4, 2) := by decide +kernel
theorem dX5_run_187 : decode cX5_run 187 = .ok (.iconst 1, 1) := by decide +kernel
theorem dX5_run_188 : decode cX5_run 188 = .ok (.isub, 1) := by decide +kernel
theorem dX5_run_189 : decode cX5_run 189 = .ok (.aload_n 0, 1) := by decide +kernel
theorem dX5_run_190 : decode cX5_run 190 = .ok (.iload 6, 2) := by decide +kernel
theorem dX5_run_192 : decode cX5_run 192 = .ok (.aload_n 0, 1) := by decide +kernel
theorem dX5_run_193 : decode cX5_run 193 = .ok (.getfield 15, 3) := by decide +kernel
theorem dX5_run_196 : decode cX5_run 196 = .ok (.iload 4, 2) := by decide +kernel
theorem dX5_run_198 : decode cX5_run 198 = .ok (.iconst 1, 1) := by decide +kernel
theorem dX5_run_199 : decode cX5_run 199 = .ok (.isub, 1) := by decide +kernel
theorem dX5_run_200 : decode cX5_run 200 = .ok (.iaload, 1) := by decide +kernel
theorem dX5_run_201 : decode cX5_run 201 = .ok (.invokevirtual 112, 3) := by decide +kernel
theorem dX5_run_204 : decode cX5_run 204 = .ok (.iastore, 1) := by decide +kernel
theorem dX5_run_205 : decode cX5_run 205 = .ok (.goto 63, 3) := by decide +kernel
theorem dX5_run_208 : decode cX5_run 208 = .ok (.iload 4, 2) := by decide +kernel
theorem dX5_run_210 : decode cX5_run 210 = .ok (.iconst 1, 1) := by decide +kernel
theorem dX5_run_211 : decode cX5_run 211 = .ok (.if_icmp .le 57, 3) := by decide +kernel
theorem dX5_run_214 : decode cX5_run 214 = .ok (.iload 6, 2) := by decide +kernel
theorem dX5_run_216 : decode cX5_run 216 = .ok (.aload_n 0, 1) := by decide +kernel
theorem dX5_run_217 : decode cX5_run 217 = .ok (.getfield 15, 3) := by decide +kernel
theorem dX5_run_220 : decode cX5_run 220 = .ok (.iload 4, 2) := by decide +kernel
theorem dX5_run_222 : decode cX5_run 222 = .ok (.iconst 2, 1) := by decide +kernel
theorem dX5_run_223 : decode cX5_run 223 = .ok (.isub, 1) := by decide +kernel
theorem dX5_run_224 : decode cX5_run 224 = .ok (.iaload, 1) := by decide +kernel
theorem dX5_run_225 : decode cX5_run 225 = .ok (.i2l, 1) := by decide +kernel
theorem dX5_run_226 : decode cX5_run 226 = .ok (.aload_n 0, 1) := by decide +kernel
theorem dX5_run_227 : decode cX5_run 227 = .ok (.getfield 15, 3) := by decide +kernel
theorem dX5_run_230 : decode cX5_run 230 = .ok (.iload 4, 2) := by decide +kernel
theorem dX5_run_232 : decode cX5_run 232 = .ok (.iconst 1, 1) := by decide +kernel
theorem dX5_run_233 : decode cX5_run 233 = .ok (.isub, 1) := by decide +kernel
theorem dX5_run_234 : decode cX5_run 234 = .ok (.iaload, 1) := by decide +kernel
theorem dX5_run_235 : decode cX5_run 235 = .ok (.i2l, 1) := by decide +kernel
theorem dX5_run_236 : decode cX5_run 236 = .ok (.invokestatic 115, 3) := by decide +kernel
theorem dX5_run_239 : decode cX5_run 239 = .ok (.lstore 8, 2) := by decide +kernel
theorem dX5_run_241 : decode cX5_run 241 = .ok (.aload_n 0, 1) := by decide +kernel
theorem dX5_run_242 : decode cX5_run 242 = .ok (.getfield 15, 3) := by decide +kernel
theorem dX5_run_245 : decode cX5_run 245 = .ok (.iload 4, 2) := by decide +kernel
theorem dX5_run_247 : decode cX5_run 247 = .ok (.iconst 2, 1) := by decide +kernel
theorem dX5_run_248 : decode cX5_run 248 = .ok (.isub, 1) := by decide +kernel
theorem dX5_run_249 : decode cX5_run 249 = .ok (.ldc2_w 119, 3) := by decide +kernel
theorem dX5_run_252 : decode cX5_run 252 = .ok (.ldc2_w 121, 3) := by decide +kernel
theorem dX5_run_255 : decode cX5_run 255 = .ok (.lload 8, 2) := by decide +kernel
theorem dX5_run_257 : decode cX5_run 257 = .ok (.invokestatic 123, 3) := by decide +kernel
theorem dX5_run_260 : decode cX5_run 260 = .ok (.invokestatic 126, 3) := by decide +kernel
theorem dX5_run_263 : decode cX5_run 263 = .ok (.l2i, 1) := by decide +kernel
theorem dX5_run_264 : decode cX5_run 264 = .ok (.iastore, 1) := by decide +kernel
theorem dX5_run_265 : decode cX5_run 265 = .ok (.iinc 4 (-1), 3) := by decide +kernel
theorem dX5_run_268 : decode cX5_run 268 = .ok (.iinc 5 1, 3) := by decide +kernel
theorem dX5_run_271 : decode cX5_run 271 = .ok (.goto (-261), 3) := by decide +kernel
theorem dX5_run_274 : decode cX5_run 274 = .ok (.aload_n 0, 1) := by decide +kernel
theorem dX5_run_275 : decode cX5_run 275 = .ok (.getfield 15, 3) := by decide +kernel
theorem dX5_run_278 : decode cX5_run 278 = .ok (.iconst 0, 1) := by decide +kernel
theorem dX5_run_279 : decode cX5_run 279 = .ok (.iaload, 1) := by decide +kernel
theorem dX5_run_280 : decode cX5_run 280 = .ok (.ireturn, 1) := by decide +kernel
theorem dX5_nameAt_0 : decode cX5_nameAt 0 = .ok (.iload_n 1, 1) := by decide +kernel
theorem dX5_nameAt_1 : decode cX5_nameAt 1 = .ok (.ifCond .lt 18, 3) := by decide +kernel
theorem dX5_nameAt_4 : decode cX5_nameAt 4 = .ok (.iload_n 1, 1) := by decide +kernel
theorem dX5_nameAt_5 : decode cX5_nameAt 5 = .ok (.bipush 10, 2) := by decide +kernel
theorem dX5_nameAt_7 : decode cX5_nameAt 7 = .ok (.if_icmp .ge 12, 3) := by decide +kernel
theorem dX5_nameAt_10 : decode cX5_nameAt 10 = .ok (.aload_n 0, 1) := by decide +kernel
theorem dX5_nameAt_11 : decode cX5_nameAt 11 = .ok (.getfield 11, 3) := by decide +kernel
theorem dX5_nameAt_14 : decode cX5_nameAt 14 = .ok (.iload_n 1, 1) := by decide +kernel
theorem dX5_nameAt_15 : decode cX5_nameAt 15 = .ok (.iaload, 1) := by decide +kernel
theorem dX5_nameAt_16 : decode cX5_nameAt 16 = .ok (.goto 4, 3) := by decide +kernel
theorem dX5_nameAt_19 : decode cX5_nameAt 19 = .ok (.iconst 0, 1) := by decide +kernel
theorem dX5_nameAt_20 : decode cX5_nameAt 20 = .ok (.ireturn, 1) := by decide +kernel
theorem dX5_changed_0 : decode cX5_changed 0 = .ok (.iload_n 1, 1) := by decide +kernel
theorem dX5_changed_1 : decode cX5_changed 1 = .ok (.bipush 46, 2) := by decide +kernel
theorem dX5_changed_3 : decode cX5_changed 3 = .ok (.if_icmp .ne 6, 3) := by decide +kernel
theorem dX5_changed_6 : decode cX5_changed 6 = .ok (.iload_n 2, 1) := by decide +kernel
theorem dX5_changed_7 : decode cX5_changed 7 = .ok (.ineg, 1) := by decide +kernel
theorem dX5_changed_8 : decode cX5_changed 8 = .ok (.ireturn, 1) := by decide +kernel
theorem dX5_changed_9 : decode cX5_changed 9 = .ok (.iload_n 1, 1) := by decide +kernel
theorem dX5_changed_10 : decode cX5_changed 10 = .ok (.bipush 37, 2) := by decide +kernel
theorem dX5_changed_12 : decode cX5_changed 12 = .ok (.if_icmp .ne 13, 3) := by decide +kernel
theorem dX5_changed_15 : decode cX5_changed 15 = .ok (.iload_n 2, 1) := by decide +kernel
theorem dX5_changed_16 : decode cX5_changed 16 = .ok (.ifCond .ne 7, 3) := by decide +kernel
theorem dX5_changed_19 : decode cX5_changed 19 = .ok (.iconst 1, 1) := by decide +kernel
theorem dX5_changed_20 : decode cX5_changed 20 = .ok (.goto 4, 3) := by decide +kernel
theorem dX5_changed_23 : decode cX5_changed 23 = .ok (.iconst 0, 1) := by decide +kernel
theorem dX5_changed_24 : decode cX5_changed 24 = .ok (.ireturn, 1) := by decide +kernel
theorem dX5_changed_25 : decode cX5_changed 25 = .ok (.iload_n 2, 1) := by decide +kernel
theorem dX5_changed_26 : decode cX5_changed 26 = .ok (.ifCond .lt 21, 3) := by decide +kernel
theorem dX5_changed_29 : decode cX5_changed 29 = .ok (.iload_n 2, 1) := by decide +kernel
theorem dX5_changed_30 : decode cX5_changed 30 = .ok (.bipush 12, 2) := by decide +kernel
theorem dX5_changed_32 : decode cX5_changed 32 = .ok (.if_icmp .ge 15, 3) := by decide +kernel
theorem dX5_changed_35 : decode cX5_changed 35 = .ok (.aload_n 0, 1) := by decide +kernel
theorem dX5_changed_36 : decode cX5_changed 36 = .ok (.getfield 18, 3) := by decide +kernel
theorem dX5_changed_39 : decode cX5_changed 39 = .ok (.getfield 128, 3) := by decide +kernel
theorem dX5_changed_42 : decode cX5_changed 42 = .ok (.iload_n 2, 1) := by decide +kernel
theorem dX5_changed_43 : decode cX5_changed 43 = .ok (.iaload, 1) := by decide +kernel
theorem dX5_changed_44 : decode cX5_changed 44 = .ok (.goto 4, 3) := by decide +kernel
theorem dX5_changed_47 : decode cX5_changed 47 = .ok (.iconst 0, 1) := by decide +kernel
theorem dX5_changed_48 : decode cX5_changed 48 = .ok (.ireturn, 1) := by decide +kernel
theorem dX5_joined_0 : decode cX5_joined 0 = .ok (.iload_n 0, 1) := by decide +kernel
theorem dX5_joined_1 : decode cX5_joined 1 = .ok (.tableswitch 301 3 36 #[211, 223, 235, 247, 259, 271, 151, 155, 159, 163, 301, 301, 301, 301, 301, 301, 301, 301, 301, 301, 301, 301, 301, 301, 301, 301, 177, 301, 301, 301, 301, 301, 301, 283], 151) := by decide +kernel
theorem dX5_joined_152 : decode cX5_joined 152 = .ok (.lload_n 1, 1) := by decide +kernel
theorem dX5_joined_153 : decode cX5_joined 153 = .ok (.lload_n 3, 1) := by decide +kernel
theorem dX5_joined_154 : decode cX5_joined 154 = .ok (.ladd, 1) := by decide +kernel
theorem dX5_joined_155 : decode cX5_joined 155 = .ok (.lreturn, 1) := by decide +kernel
theorem dX5_joined_156 : decode cX5_joined 156 = .ok (.lload_n 1, 1) := by decide +kernel
theorem dX5_joined_157 : decode cX5_joined 157 = .ok (.lload_n 3, 1) := by decide +kernel
theorem dX5_joined_158 : decode cX5_joined 158 = .ok (.lsub, 1) := by decide +kernel
theorem dX5_joined_159 : decode cX5_joined 159 = .ok (.lreturn, 1) := by decide +kernel
theorem dX5_joined_160 : decode cX5_joined 160 = .ok (.lload_n 1, 1) := by decide +kernel
theorem dX5_joined_161 : decode cX5_joined 161 = .ok (.lload_n 3, 1) := by decide +kernel
theorem dX5_joined_162 : decode cX5_joined 162 = .ok (.lmul, 1) := by decide +kernel
theorem dX5_joined_163 : decode cX5_joined 163 = .ok (.lreturn, 1) := by decide +kernel
theorem dX5_joined_164 : decode cX5_joined 164 = .ok (.lload_n 3, 1) := by decide +kernel
theorem dX5_joined_165 : decode cX5_joined 165 = .ok (.lconst 0, 1) := by decide +kernel
theorem dX5_joined_166 : decode cX5_joined 166 = .ok (.lcmp, 1) := by decide +kernel
theorem dX5_joined_167 : decode cX5_joined 167 = .ok (.ifCond .ne 7, 3) := by decide +kernel
theorem dX5_joined_170 : decode cX5_joined 170 = .ok (.lconst 0, 1) := by decide +kernel
theorem dX5_joined_171 : decode cX5_joined 171 = .ok (.goto 6, 3) := by decide +kernel
theorem dX5_joined_174 : decode cX5_joined 174 = .ok (.lload_n 1, 1) := by decide +kernel
theorem dX5_joined_175 : decode cX5_joined 175 = .ok (.lload_n 3, 1) := by decide +kernel
theorem dX5_joined_176 : decode cX5_joined 176 = .ok (.ldiv, 1) := by decide +kernel
theorem dX5_joined_177 : decode cX5_joined 177 = .ok (.lreturn, 1) := by decide +kernel
theorem dX5_joined_178 : decode cX5_joined 178 = .ok (.lload_n 3, 1) := by decide +kernel
theorem dX5_joined_179 : decode cX5_joined 179 = .ok (.lconst 0, 1) := by decide +kernel
theorem dX5_joined_180 : decode cX5_joined 180 = .ok (.lcmp, 1) := by decide +kernel
theorem dX5_joined_181 : decode cX5_joined 181 = .ok (.ifCond .gt 7, 3) := by decide +kernel
theorem dX5_joined_184 : decode cX5_joined 184 = .ok (.lconst 0, 1) := by decide +kernel
theorem dX5_joined_185 : decode cX5_joined 185 = .ok (.goto 26, 3) := by decide +kernel
theorem dX5_joined_188 : decode cX5_joined 188 = .ok (.lload_n 1, 1) := by decide +kernel
theorem dX5_joined_189 : decode cX5_joined 189 = .ok (.lload_n 3, 1) := by decide +kernel
theorem dX5_joined_190 : decode cX5_joined 190 = .ok (.lcmp, 1) := by decide +kernel
theorem dX5_joined_191 : decode cX5_joined 191 = .ok (.ifCond .le 7, 3) := by decide +kernel
theorem dX5_joined_194 : decode cX5_joined 194 = .ok (.lload_n 3, 1) := by decide +kernel
theorem dX5_joined_195 : decode cX5_joined 195 = .ok (.goto 16, 3) := by decide +kernel
theorem dX5_joined_198 : decode cX5_joined 198 = .ok (.lload_n 1, 1) := by decide +kernel
theorem dX5_joined_199 : decode cX5_joined 199 = .ok (.lload_n 3, 1) := by decide +kernel
theorem dX5_joined_200 : decode cX5_joined 200 = .ok (.lneg, 1) := by decide +kernel
theorem dX5_joined_201 : decode cX5_joined 201 = .ok (.lcmp, 1) := by decide +kernel
theorem dX5_joined_202 : decode cX5_joined 202 = .ok (.ifCond .ge 8, 3) := by decide +kernel
theorem dX5_joined_205 : decode cX5_joined 205 = .ok (.lload_n 3, 1) := by decide +kernel
theorem dX5_joined_206 : decode cX5_joined 206 = .ok (.lneg, 1) := by decide +kernel
theorem dX5_joined_207 : decode cX5_joined 207 = .ok (.goto 4, 3) := by decide +kernel
theorem dX5_joined_210 : decode cX5_joined 210 = .ok (.lload_n 1, 1) := by decide +kernel
theorem dX5_joined_211 : decode cX5_joined 211 = .ok (.lreturn, 1) := by decide +kernel
theorem dX5_joined_212 : decode cX5_joined 212 = .ok (.lload_n 1, 1) := by decide +kernel
theorem dX5_joined_213 : decode cX5_joined 213 = .ok (.lload_n 3, 1) := by decide +kernel
theorem dX5_joined_214 : decode cX5_joined 214 = .ok (.lcmp, 1) := by decide +kernel
theorem dX5_joined_215 : decode cX5_joined 215 = .ok (.ifCond .ge 7, 3) := by decide +kernel
theorem dX5_joined_218 : decode cX5_joined 218 = .ok (.lconst 1, 1) := by decide +kernel
theorem dX5_joined_219 : decode cX5_joined 219 = .ok (.goto 4, 3) := by decide +kernel
theorem dX5_joined_222 : decode cX5_joined 222 = .ok (.lconst 0, 1) := by decide +kernel
theorem dX5_joined_223 : decode cX5_joined 223 = .ok (.lreturn, 1) := by decide +kernel
theorem dX5_joined_224 : decode cX5_joined 224 = .ok (.lload_n 1, 1) := by decide +kernel
theorem dX5_joined_225 : decode cX5_joined 225 = .ok (.lload_n 3, 1) := by decide +kernel
theorem dX5_joined_226 : decode cX5_joined 226 = .ok (.lcmp, 1) := by decide +kernel
theorem dX5_joined_227 : decode cX5_joined 227 = .ok (.ifCond .gt 7, 3) := by decide +kernel
theorem dX5_joined_230 : decode cX5_joined 230 = .ok (.lconst 1, 1) := by decide +kernel
theorem dX5_joined_231 : decode cX5_joined 231 = .ok (.goto 4, 3) := by decide +kernel
theorem dX5_joined_234 : decode cX5_joined 234 = .ok (.lconst 0, 1) := by decide +kernel
theorem dX5_joined_235 : decode cX5_joined 235 = .ok (.lreturn, 1) := by decide +kernel
theorem dX5_joined_236 : decode cX5_joined 236 = .ok (.lload_n 1, 1) := by decide +kernel
theorem dX5_joined_237 : decode cX5_joined 237 = .ok (.lload_n 3, 1) := by decide +kernel
theorem dX5_joined_238 : decode cX5_joined 238 = .ok (.lcmp, 1) := by decide +kernel
theorem dX5_joined_239 : decode cX5_joined 239 = .ok (.ifCond .le 7, 3) := by decide +kernel
theorem dX5_joined_242 : decode cX5_joined 242 = .ok (.lconst 1, 1) := by decide +kernel
theorem dX5_joined_243 : decode cX5_joined 243 = .ok (.goto 4, 3) := by decide +kernel
theorem dX5_joined_246 : decode cX5_joined 246 = .ok (.lconst 0, 1) := by decide +kernel
theorem dX5_joined_247 : decode cX5_joined 247 = .ok (.lreturn, 1) := by decide +kernel
theorem dX5_joined_248 : decode cX5_joined 248 = .ok (.lload_n 1, 1) := by decide +kernel
theorem dX5_joined_249 : decode cX5_joined 249 = .ok (.lload_n 3, 1) := by decide +kernel
theorem dX5_joined_250 : decode cX5_joined 250 = .ok (.lcmp, 1) := by decide +kernel
theorem dX5_joined_251 : decode cX5_joined 251 = .ok (.ifCond .lt 7, 3) := by decide +kernel
theorem dX5_joined_254 : decode cX5_joined 254 = .ok (.lconst 1, 1) := by decide +kernel
theorem dX5_joined_255 : decode cX5_joined 255 = .ok (.goto 4, 3) := by decide +kernel
theorem dX5_joined_258 : decode cX5_joined 258 = .ok (.lconst 0, 1) := by decide +kernel
theorem dX5_joined_259 : decode cX5_joined 259 = .ok (.lreturn, 1) := by decide +kernel
theorem dX5_joined_260 : decode cX5_joined 260 = .ok (.lload_n 1, 1) := by decide +kernel
theorem dX5_joined_261 : decode cX5_joined 261 = .ok (.lload_n 3, 1) := by decide +kernel
theorem dX5_joined_262 : decode cX5_joined 262 = .ok (.lcmp, 1) := by decide +kernel
theorem dX5_joined_263 : decode cX5_joined 263 = .ok (.ifCond .ne 7, 3) := by decide +kernel
theorem dX5_joined_266 : decode cX5_joined 266 = .ok (.lconst 1, 1) := by decide +kernel
theorem dX5_joined_267 : decode cX5_joined 267 = .ok (.goto 4, 3) := by decide +kernel
theorem dX5_joined_270 : decode cX5_joined 270 = .ok (.lconst 0, 1) := by decide +kernel
theorem dX5_joined_271 : decode cX5_joined 271 = .ok (.lreturn, 1) := by decide +kernel
theorem dX5_joined_272 : decode cX5_joined 272 = .ok (.lload_n 1, 1) := by decide +kernel
theorem dX5_joined_273 : decode cX5_joined 273 = .ok (.lload_n 3, 1) := by decide +kernel
theorem dX5_joined_274 : decode cX5_joined 274 = .ok (.lcmp, 1) := by decide +kernel
theorem dX5_joined_275 : decode cX5_joined 275 = .ok (.ifCond .eq 7, 3) := by decide +kernel
theorem dX5_joined_278 : decode cX5_joined 278 = .ok (.lconst 1, 1) := by decide +kernel
theorem dX5_joined_279 : decode cX5_joined 279 = .ok (.goto 4, 3) := by decide +kernel
theorem dX5_joined_282 : decode cX5_joined 282 = .ok (.lconst 0, 1) := by decide +kernel
theorem dX5_joined_283 : decode cX5_joined 283 = .ok (.lreturn, 1) := by decide +kernel
theorem dX5_joined_284 : decode cX5_joined 284 = .ok (.lload_n 1, 1) := by decide +kernel
theorem dX5_joined_285 : decode cX5_joined 285 = .ok (.lconst 0, 1) := by decide +kernel
theorem dX5_joined_286 : decode cX5_joined 286 = .ok (.lcmp, 1) := by decide +kernel
theorem dX5_joined_287 : decode cX5_joined 287 = .ok (.ifCond .eq 13, 3) := by decide +kernel
theorem dX5_joined_290 : decode cX5_joined 290 = .ok (.lload_n 3, 1) := by decide +kernel
theorem dX5_joined_291 : decode cX5_joined 291 = .ok (.lconst 0, 1) := by decide +kernel
theorem dX5_joined_292 : decode cX5_joined 292 = .ok (.lcmp, 1) := by decide +kernel
theorem dX5_joined_293 : decode cX5_joined 293 = .ok (.ifCond .eq 7, 3) := by decide +kernel
theorem dX5_joined_296 : decode cX5_joined 296 = .ok (.lconst 1, 1) := by decide +kernel
theorem dX5_joined_297 : decode cX5_joined 297 = .ok (.goto 4, 3) := by decide +kernel
theorem dX5_joined_300 : decode cX5_joined 300 = .ok (.lconst 0, 1) := by decide +kernel
theorem dX5_joined_301 : decode cX5_joined 301 = .ok (.lreturn, 1) := by decide +kernel
theorem dX5_joined_302 : decode cX5_joined 302 = .ok (.lload_n 1, 1) := by decide +kernel
theorem dX5_joined_303 : decode cX5_joined 303 = .ok (.lconst 0, 1) := by decide +kernel
theorem dX5_joined_304 : decode cX5_joined 304 = .ok (.lcmp, 1) := by decide +kernel
theorem dX5_joined_305 : decode cX5_joined 305 = .ok (.ifCond .ne 9, 3) := by decide +kernel
theorem dX5_joined_308 : decode cX5_joined 308 = .ok (.lload_n 3, 1) := by decide +kernel
theorem dX5_joined_309 : decode cX5_joined 309 = .ok (.lconst 0, 1) := by decide +kernel
theorem dX5_joined_310 : decode cX5_joined 310 = .ok (.lcmp, 1) := by decide +kernel
theorem dX5_joined_311 : decode cX5_joined 311 = .ok (.ifCond .eq 7, 3) := by decide +kernel
theorem dX5_joined_314 : decode cX5_joined 314 = .ok (.lconst 1, 1) := by decide +kernel
theorem dX5_joined_315 : decode cX5_joined 315 = .ok (.goto 4, 3) := by decide +kernel
theorem dX5_joined_318 : decode cX5_joined 318 = .ok (.lconst 0, 1) := by decide +kernel
theorem dX5_joined_319 : decode cX5_joined 319 = .ok (.lreturn, 1) := by decide +kernel
theorem dX6_init_0 : decode cX6_init 0 = .ok (.aload_n 0, 1) := by decide +kernel
theorem dX6_init_1 : decode cX6_init 1 = .ok (.invokespecial 3, 3) := by decide +kernel
theorem dX6_init_4 : decode cX6_init 4 = .ok (.aload_n 0, 1) := by decide +kernel
theorem dX6_init_5 : decode cX6_init 5 = .ok (.bipush 12, 2) := by decide +kernel
theorem dX6_init_7 : decode cX6_init 7 = .ok (.newarray .long, 2) := by decide +kernel
theorem dX6_init_9 : decode cX6_init 9 = .ok (.putfield 9, 3) := by decide +kernel
theorem dX6_init_12 : decode cX6_init 12 = .ok (.aload_n 0, 1) := by decide +kernel
theorem dX6_init_13 : decode cX6_init 13 = .ok (.bipush 12, 2) := by decide +kernel
theorem dX6_init_15 : decode cX6_init 15 = .ok (.newarray .int, 2) := by decide +kernel
theorem dX6_init_17 : decode cX6_init 17 = .ok (.putfield 15, 3) := by decide +kernel
theorem dX6_init_20 : decode cX6_init 20 = .ok (.aload_n 0, 1) := by decide +kernel
theorem dX6_init_21 : decode cX6_init 21 = .ok (.bipush 12, 2) := by decide +kernel
theorem dX6_init_23 : decode cX6_init 23 = .ok (.newarray .int, 2) := by decide +kernel
theorem dX6_init_25 : decode cX6_init 25 = .ok (.putfield 19, 3) := by decide +kernel
theorem dX6_init_28 : decode cX6_init 28 = .ok (.aload_n 0, 1) := by decide +kernel
theorem dX6_init_29 : decode cX6_init 29 = .ok (.aload_n 1, 1) := by decide +kernel
theorem dX6_init_30 : decode cX6_init 30 = .ok (.putfield 22, 3) := by decide +kernel
theorem dX6_init_33 : decode cX6_init 33 = .ok (.return_, 1) := by decide +kernel
set_option maxRecDepth 20000 in
theorem ggX6_count_X11_areWants : GoodIn wsX6_count wsX11_areWants := goodIn_r _ [6, 7, 8, 5, 9] (by decide +kernel) (by decide +kernel)
set_option maxRecDepth 20000 in
theorem gX6_count_X11_areWants_n26 : GoodIn wsX6_count (wsX11_areWants) := ggX6_count_X11_areWants
set_option maxRecDepth 20000 in
theorem ggX6_count_X11_has : GoodIn wsX6_count wsX11_has := goodIn_r _ [11] (by decide +kernel) (by decide +kernel)
set_option maxRecDepth 20000 in
theorem gX6_count_X11_has_n35 : GoodIn wsX6_count (wsX11_has) := ggX6_count_X11_has
theorem dX6_count_0 : decode cX6_count 0 = .ok (.iload_n 1, 1) := by decide +kernel
theorem dX6_count_1 : decode cX6_count 1 = .ok (.iload_n 2, 1) := by decide +kernel
theorem dX6_count_2 : decode cX6_count 2 = .ok (.invokestatic 26, 3) := by decide +kernel
theorem dX6_count_5 : decode cX6_count 5 = .ok (.ifCond .ne 5, 3) := by decide +kernel
theorem dX6_count_8 : decode cX6_count 8 = .ok (.lconst 0, 1) := by decide +kernel
theorem dX6_count_9 : decode cX6_count 9 = .ok (.lreturn, 1) := by decide +kernel
theorem dX6_count_10 : decode cX6_count 10 = .ok (.iconst 0, 1) := by decide +kernel
theorem dX6_count_11 : decode cX6_count 11 = .ok (.istore_n 3, 1) := by decide +kernel
theorem dX6_count_12 : decode cX6_count 12 = .ok (.iload_n 3, 1) := by decide +kernel
theorem dX6_count_13 : decode cX6_count 13 = .ok (.bipush 12, 2) := by decide +kernel
theorem dX6_count_15 : decode cX6_count 15 = .ok (.if_icmp .ge 16, 3) := by decide +kernel
theorem dX6_count_18 : decode cX6_count 18 = .ok (.aload_n 0, 1) := by decide +kernel
theorem dX6_count_19 : decode cX6_count 19 = .ok (.getfield 9, 3) := by decide +kernel
theorem dX6_count_22 : decode cX6_count 22 = .ok (.iload_n 3, 1) := by decide +kernel
theorem dX6_count_23 : decode cX6_count 23 = .ok (.lconst 0, 1) := by decide +kernel
theorem dX6_count_24 : decode cX6_count 24 = .ok (.lastore, 1) := by decide +kernel
theorem dX6_count_25 : decode cX6_count 25 = .ok (.iinc 3 1, 3) := by decide +kernel
theorem dX6_count_28 : decode cX6_count 28 = .ok (.goto (-16), 3) := by decide +kernel
theorem dX6_count_31 : decode cX6_count 31 = .ok (.aload_n 0, 1) := by decide +kernel
theorem dX6_count_32 : decode cX6_count 32 = .ok (.getfield 9, 3) := by decide +kernel
theorem dX6_count_35 : decode cX6_count 35 = .ok (.iload_n 1, 1) := by decide +kernel
theorem dX6_count_36 : decode cX6_count 36 = .ok (.lconst 1, 1) := by decide +kernel
theorem dX6_count_37 : decode cX6_count 37 = .ok (.lastore, 1) := by decide +kernel
theorem dX6_count_38 : decode cX6_count 38 = .ok (.iload_n 1, 1) := by decide +kernel
theorem dX6_count_39 : decode cX6_count 39 = .ok (.istore_n 3, 1) := by decide +kernel
theorem dX6_count_40 : decode cX6_count 40 = .ok (.iload_n 3, 1) := by decide +kernel
theorem dX6_count_41 : decode cX6_count 41 = .ok (.iload_n 2, 1) := by decide +kernel
theorem dX6_count_42 : decode cX6_count 42 = .ok (.if_icmp .ge 59, 3) := by decide +kernel
theorem dX6_count_45 : decode cX6_count 45 = .ok (.iload_n 3, 1) := by decide +kernel
theorem dX6_count_46 : decode cX6_count 46 = .ok (.iconst 1, 1) := by decide +kernel
theorem dX6_count_47 : decode cX6_count 47 = .ok (.iadd, 1) := by decide +kernel
theorem dX6_count_48 : decode cX6_count 48 = .ok (.istore 4, 2) := by decide +kernel
theorem dX6_count_50 : decode cX6_count 50 = .ok (.iload 4, 2) := by decide +kernel
theorem dX6_count_52 : decode cX6_count 52 = .ok (.iload_n 2, 1) := by decide +kernel
theorem dX6_count_53 : decode cX6_count 53 = .ok (.if_icmp .gt 42, 3) := by decide +kernel
theorem dX6_count_56 : decode cX6_count 56 = .ok (.aload_n 0, 1) := by decide +kernel
theorem dX6_count_57 : decode cX6_count 57 = .ok (.getfield 22, 3) := by decide +kernel
theorem dX6_count_60 : decode cX6_count 60 = .ok (.getfield 30, 3) := by decide +kernel
theorem dX6_count_63 : decode cX6_count 63 = .ok (.iload_n 3, 1) := by decide +kernel
theorem dX6_count_64 : decode cX6_count 64 = .ok (.iaload, 1) := by decide +kernel
theorem dX6_count_65 : decode cX6_count 65 = .ok (.iload 4, 2) := by decide +kernel
theorem dX6_count_67 : decode cX6_count 67 = .ok (.invokestatic 35, 3) := by decide +kernel
theorem dX6_count_70 : decode cX6_count 70 = .ok (.ifCond .eq 19, 3) := by decide +kernel
theorem dX6_count_73 : decode cX6_count 73 = .ok (.aload_n 0, 1) := by decide +kernel
theorem dX6_count_74 : decode cX6_count 74 = .ok (.getfield 9, 3) := by decide +kernel
theorem dX6_count_77 : decode cX6_count 77 = .ok (.iload 4, 2) := by decide +kernel
theorem dX6_count_79 : decode cX6_count 79 = .ok (.dup2, 1) := by decide +kernel
theorem dX6_count_80 : decode cX6_count 80 = .ok (.laload, 1) := by decide +kernel
theorem dX6_count_81 : decode cX6_count 81 = .ok (.aload_n 0, 1) := by decide +kernel
theorem dX6_count_82 : decode cX6_count 82 = .ok (.getfield 9, 3) := by decide +kernel
theorem dX6_count_85 : decode cX6_count 85 = .ok (.iload_n 3, 1) := by decide +kernel
theorem dX6_count_86 : decode cX6_count 86 = .ok (.laload, 1) := by decide +kernel
theorem dX6_count_87 : decode cX6_count 87 = .ok (.ladd, 1) := by decide +kernel
theorem dX6_count_88 : decode cX6_count 88 = .ok (.lastore, 1) := by decide +kernel
theorem dX6_count_89 : decode cX6_count 89 = .ok (.iinc 4 1, 3) := by decide +kernel
theorem dX6_count_92 : decode cX6_count 92 = .ok (.goto (-42), 3) := by decide +kernel
theorem dX6_count_95 : decode cX6_count 95 = .ok (.iinc 3 1, 3) := by decide +kernel
theorem dX6_count_98 : decode cX6_count 98 = .ok (.goto (-58), 3) := by decide +kernel
theorem dX6_count_101 : decode cX6_count 101 = .ok (.aload_n 0, 1) := by decide +kernel
theorem dX6_count_102 : decode cX6_count 102 = .ok (.getfield 9, 3) := by decide +kernel
theorem dX6_count_105 : decode cX6_count 105 = .ok (.iload_n 2, 1) := by decide +kernel
theorem dX6_count_106 : decode cX6_count 106 = .ok (.laload, 1) := by decide +kernel
theorem dX6_count_107 : decode cX6_count 107 = .ok (.lreturn, 1) := by decide +kernel
set_option maxRecDepth 20000 in
theorem ggX6_reached_X11_has : GoodIn wsX6_reached wsX11_has := goodIn_r _ [5] (by decide +kernel) (by decide +kernel)
set_option maxRecDepth 20000 in
theorem gX6_reached_X11_has_n35 : GoodIn wsX6_reached (wsX11_has) := ggX6_reached_X11_has
theorem dX6_reached_0 : decode cX6_reached 0 = .ok (.iconst 1, 1) := by decide +kernel
theorem dX6_reached_1 : decode cX6_reached 1 = .ok (.iload_n 1, 1) := by decide +kernel
theorem dX6_reached_2 : decode cX6_reached 2 = .ok (.ishl, 1) := by decide +kernel
theorem dX6_reached_3 : decode cX6_reached 3 = .ok (.istore_n 3, 1) := by decide +kernel
theorem dX6_reached_4 : decode cX6_reached 4 = .ok (.iload_n 1, 1) := by decide +kernel
theorem dX6_reached_5 : decode cX6_reached 5 = .ok (.istore 4, 2) := by decide +kernel
theorem dX6_reached_7 : decode cX6_reached 7 = .ok (.iload 4, 2) := by decide +kernel
theorem dX6_reached_9 : decode cX6_reached 9 = .ok (.bipush 12, 2) := by decide +kernel
theorem dX6_reached_11 : decode cX6_reached 11 = .ok (.if_icmp .ge 40, 3) := by decide +kernel
theorem dX6_reached_14 : decode cX6_reached 14 = .ok (.iload 4, 2) := by decide +kernel
theorem dX6_reached_16 : decode cX6_reached 16 = .ok (.ifCond .lt 29, 3) := by decide +kernel
theorem dX6_reached_19 : decode cX6_reached 19 = .ok (.iload_n 3, 1) := by decide +kernel
theorem dX6_reached_20 : decode cX6_reached 20 = .ok (.iload 4, 2) := by decide +kernel
theorem dX6_reached_22 : decode cX6_reached 22 = .ok (.invokestatic 35, 3) := by decide +kernel
theorem dX6_reached_25 : decode cX6_reached 25 = .ok (.ifCond .eq 20, 3) := by decide +kernel
theorem dX6_reached_28 : decode cX6_reached 28 = .ok (.iload_n 3, 1) := by decide +kernel
theorem dX6_reached_29 : decode cX6_reached 29 = .ok (.aload_n 0, 1) := by decide +kernel
theorem dX6_reached_30 : decode cX6_reached 30 = .ok (.getfield 22, 3) := by decide +kernel
theorem dX6_reached_33 : decode cX6_reached 33 = .ok (.getfield 30, 3) := by decide +kernel
theorem dX6_reached_36 : decode cX6_reached 36 = .ok (.iload 4, 2) := by decide +kernel
theorem dX6_reached_38 : decode cX6_reached 38 = .ok (.iaload, 1) := by decide +kernel
theorem dX6_reached_39 : decode cX6_reached 39 = .ok (.iload_n 2, 1) := by decide +kernel
theorem dX6_reached_40 : decode cX6_reached 40 = .ok (.iconst (-1), 1) := by decide +kernel
theorem dX6_reached_41 : decode cX6_reached 41 = .ok (.ixor, 1) := by decide +kernel
theorem dX6_reached_42 : decode cX6_reached 42 = .ok (.iand, 1) := by decide +kernel
theorem dX6_reached_43 : decode cX6_reached 43 = .ok (.ior, 1) := by decide +kernel
theorem dX6_reached_44 : decode cX6_reached 44 = .ok (.istore_n 3, 1) := by decide +kernel
theorem dX6_reached_45 : decode cX6_reached 45 = .ok (.iinc 4 1, 3) := by decide +kernel
theorem dX6_reached_48 : decode cX6_reached 48 = .ok (.goto (-41), 3) := by decide +kernel
theorem dX6_reached_51 : decode cX6_reached 51 = .ok (.iload_n 3, 1) := by decide +kernel
theorem dX6_reached_52 : decode cX6_reached 52 = .ok (.ireturn, 1) := by decide +kernel
set_option maxRecDepth 20000 in
theorem ggX6_onAny_X11_isWant : GoodIn wsX6_onAny wsX11_isWant := goodIn_r _ [4] (by decide +kernel) (by decide +kernel)
set_option maxRecDepth 20000 in
theorem gX6_onAny_X11_isWant_n38 : GoodIn wsX6_onAny (wsX11_isWant) := ggX6_onAny_X11_isWant
set_option maxRecDepth 20000 in
theorem ggX6_onAny_X10_withLower : GoodIn wsX6_onAny wsX10_withLower := goodIn_r _ [9, 10, 2, 3, 4, 18, 19, 20, 21, 22] (by decide +kernel) (by decide +kernel)
set_option maxRecDepth 20000 in
theorem gX6_onAny_X10_withLower : GoodIn wsX6_onAny (wsV RX6 42 RX10 yX10_withLower wsX10_withLower) := goodIn_app (goodIn_of _ (by decide +kernel)) ggX6_onAny_X10_withLower
set_option maxRecDepth 20000 in
theorem ggX6_onAny_X11_has : GoodIn wsX6_onAny wsX11_has := goodIn_r _ [12] (by decide +kernel) (by decide +kernel)
set_option maxRecDepth 20000 in
theorem gX6_onAny_X11_has_n35 : GoodIn wsX6_onAny (wsX11_has) := ggX6_onAny_X11_has
theorem dX6_onAny_0 : decode cX6_onAny 0 = .ok (.iconst 0, 1) := by decide +kernel
theorem dX6_onAny_1 : decode cX6_onAny 1 = .ok (.istore_n 3, 1) := by decide +kernel
theorem dX6_onAny_2 : decode cX6_onAny 2 = .ok (.iload_n 1, 1) := by decide +kernel
theorem dX6_onAny_3 : decode cX6_onAny 3 = .ok (.istore 4, 2) := by decide +kernel
theorem dX6_onAny_5 : decode cX6_onAny 5 = .ok (.iload 4, 2) := by decide +kernel
theorem dX6_onAny_7 : decode cX6_onAny 7 = .ok (.iload_n 2, 1) := by decide +kernel
theorem dX6_onAny_8 : decode cX6_onAny 8 = .ok (.if_icmp .gt 56, 3) := by decide +kernel
theorem dX6_onAny_11 : decode cX6_onAny 11 = .ok (.iload 4, 2) := by decide +kernel
theorem dX6_onAny_13 : decode cX6_onAny 13 = .ok (.invokestatic 38, 3) := by decide +kernel
theorem dX6_onAny_16 : decode cX6_onAny 16 = .ok (.ifCond .eq 48, 3) := by decide +kernel
theorem dX6_onAny_19 : decode cX6_onAny 19 = .ok (.aload_n 0, 1) := by decide +kernel
theorem dX6_onAny_20 : decode cX6_onAny 20 = .ok (.getfield 22, 3) := by decide +kernel
theorem dX6_onAny_23 : decode cX6_onAny 23 = .ok (.iload_n 1, 1) := by decide +kernel
theorem dX6_onAny_24 : decode cX6_onAny 24 = .ok (.invokevirtual 42, 3) := by decide +kernel
theorem dX6_onAny_27 : decode cX6_onAny 27 = .ok (.iload 4, 2) := by decide +kernel
theorem dX6_onAny_29 : decode cX6_onAny 29 = .ok (.invokestatic 35, 3) := by decide +kernel
theorem dX6_onAny_32 : decode cX6_onAny 32 = .ok (.ifCond .eq 26, 3) := by decide +kernel
theorem dX6_onAny_35 : decode cX6_onAny 35 = .ok (.aload_n 0, 1) := by decide +kernel
theorem dX6_onAny_36 : decode cX6_onAny 36 = .ok (.getfield 22, 3) := by decide +kernel
theorem dX6_onAny_39 : decode cX6_onAny 39 = .ok (.iload 4, 2) := by decide +kernel
theorem dX6_onAny_41 : decode cX6_onAny 41 = .ok (.invokevirtual 42, 3) := by decide +kernel
theorem dX6_onAny_44 : decode cX6_onAny 44 = .ok (.iload_n 2, 1) := by decide +kernel
theorem dX6_onAny_45 : decode cX6_onAny 45 = .ok (.invokestatic 35, 3) := by decide +kernel
theorem dX6_onAny_48 : decode cX6_onAny 48 = .ok (.ifCond .eq 10, 3) := by decide +kernel
theorem dX6_onAny_51 : decode cX6_onAny 51 = .ok (.iload_n 3, 1) := by decide +kernel
theorem dX6_onAny_52 : decode cX6_onAny 52 = .ok (.iconst 1, 1) := by decide +kernel
theorem dX6_onAny_53 : decode cX6_onAny 53 = .ok (.iload 4, 2) := by decide +kernel
theorem dX6_onAny_55 : decode cX6_onAny 55 = .ok (.ishl, 1) := by decide +kernel
theorem dX6_onAny_56 : decode cX6_onAny 56 = .ok (.ior, 1) := by decide +kernel
theorem dX6_onAny_57 : decode cX6_onAny 57 = .ok (.istore_n 3, 1) := by decide +kernel
theorem dX6_onAny_58 : decode cX6_onAny 58 = .ok (.iinc 4 1, 3) := by decide +kernel
theorem dX6_onAny_61 : decode cX6_onAny 61 = .ok (.goto (-56), 3) := by decide +kernel
theorem dX6_onAny_64 : decode cX6_onAny 64 = .ok (.iload_n 3, 1) := by decide +kernel
theorem dX6_onAny_65 : decode cX6_onAny 65 = .ok (.ireturn, 1) := by decide +kernel
set_option maxRecDepth 20000 in
theorem ggX6_onAll_X6_onAny : GoodIn wsX6_onAll wsX6_onAny := goodIn_r _ [5, 6, 7, 8, 9, 10, 11, 12, 13, 14, 15, 16, 17, 23, 24, 25, 26, 27, 28, 29, 30, 31, 32] (by decide +kernel) (by decide +kernel)
set_option maxRecDepth 20000 in
theorem gX6_onAll_X6_onAny : GoodIn wsX6_onAll (wsV RX6 46 RX6 yX6_onAny wsX6_onAny) := goodIn_app (goodIn_of _ (by decide +kernel)) ggX6_onAll_X6_onAny
set_option maxRecDepth 20000 in
theorem ggX6_onAll_X11_has : GoodIn wsX6_onAll wsX11_has := goodIn_r _ [17] (by decide +kernel) (by decide +kernel)
set_option maxRecDepth 20000 in
theorem gX6_onAll_X11_has_n35 : GoodIn wsX6_onAll (wsX11_has) := ggX6_onAll_X11_has
set_option maxRecDepth 20000 in
theorem ggX6_onAll_X6_reached : GoodIn wsX6_onAll wsX6_reached := goodIn_r _ [21, 6, 22, 16, 8, 17, 23, 24, 25, 26, 27, 28, 29, 30, 31, 32] (by decide +kernel) (by decide +kernel)
set_option maxRecDepth 20000 in
theorem gX6_onAll_X6_reached : GoodIn wsX6_onAll (wsV RX6 50 RX6 yX6_reached wsX6_reached) := goodIn_app (goodIn_of _ (by decide +kernel)) ggX6_onAll_X6_reached
theorem dX6_onAll_0 : decode cX6_onAll 0 = .ok (.aload_n 0, 1) := by decide +kernel
theorem dX6_onAll_1 : decode cX6_onAll 1 = .ok (.iload_n 1, 1) := by decide +kernel
theorem dX6_onAll_2 : decode cX6_onAll 2 = .ok (.iload_n 2, 1) := by decide +kernel
theorem dX6_onAll_3 : decode cX6_onAll 3 = .ok (.invokevirtual 46, 3) := by decide +kernel
theorem dX6_onAll_6 : decode cX6_onAll 6 = .ok (.istore_n 3, 1) := by decide +kernel
theorem dX6_onAll_7 : decode cX6_onAll 7 = .ok (.iload_n 3, 1) := by decide +kernel
theorem dX6_onAll_8 : decode cX6_onAll 8 = .ok (.ifCond .ne 5, 3) := by decide +kernel
theorem dX6_onAll_11 : decode cX6_onAll 11 = .ok (.iconst (-1), 1) := by decide +kernel
theorem dX6_onAll_12 : decode cX6_onAll 12 = .ok (.ireturn, 1) := by decide +kernel
theorem dX6_onAll_13 : decode cX6_onAll 13 = .ok (.iconst 1, 1) := by decide +kernel
theorem dX6_onAll_14 : decode cX6_onAll 14 = .ok (.iload_n 1, 1) := by decide +kernel
theorem dX6_onAll_15 : decode cX6_onAll 15 = .ok (.ishl, 1) := by decide +kernel
theorem dX6_onAll_16 : decode cX6_onAll 16 = .ok (.iconst 1, 1) := by decide +kernel
theorem dX6_onAll_17 : decode cX6_onAll 17 = .ok (.iload_n 2, 1) := by decide +kernel
theorem dX6_onAll_18 : decode cX6_onAll 18 = .ok (.ishl, 1) := by decide +kernel
theorem dX6_onAll_19 : decode cX6_onAll 19 = .ok (.ior, 1) := by decide +kernel
theorem dX6_onAll_20 : decode cX6_onAll 20 = .ok (.istore 4, 2) := by decide +kernel
theorem dX6_onAll_22 : decode cX6_onAll 22 = .ok (.iload_n 1, 1) := by decide +kernel
theorem dX6_onAll_23 : decode cX6_onAll 23 = .ok (.iconst 1, 1) := by decide +kernel
theorem dX6_onAll_24 : decode cX6_onAll 24 = .ok (.iadd, 1) := by decide +kernel
theorem dX6_onAll_25 : decode cX6_onAll 25 = .ok (.istore 5, 2) := by decide +kernel
theorem dX6_onAll_27 : decode cX6_onAll 27 = .ok (.iload 5, 2) := by decide +kernel
theorem dX6_onAll_29 : decode cX6_onAll 29 = .ok (.iload_n 2, 1) := by decide +kernel
theorem dX6_onAll_30 : decode cX6_onAll 30 = .ok (.if_icmp .ge 43, 3) := by decide +kernel
theorem dX6_onAll_33 : decode cX6_onAll 33 = .ok (.iload_n 3, 1) := by decide +kernel
theorem dX6_onAll_34 : decode cX6_onAll 34 = .ok (.iload 5, 2) := by decide +kernel
theorem dX6_onAll_36 : decode cX6_onAll 36 = .ok (.invokestatic 35, 3) := by decide +kernel
theorem dX6_onAll_39 : decode cX6_onAll 39 = .ok (.ifCond .eq 28, 3) := by decide +kernel
theorem dX6_onAll_42 : decode cX6_onAll 42 = .ok (.aload_n 0, 1) := by decide +kernel
theorem dX6_onAll_43 : decode cX6_onAll 43 = .ok (.iload_n 1, 1) := by decide +kernel
theorem dX6_onAll_44 : decode cX6_onAll 44 = .ok (.iconst 1, 1) := by decide +kernel
theorem dX6_onAll_45 : decode cX6_onAll 45 = .ok (.iload 5, 2) := by decide +kernel
theorem dX6_onAll_47 : decode cX6_onAll 47 = .ok (.ishl, 1) := by decide +kernel
theorem dX6_onAll_48 : decode cX6_onAll 48 = .ok (.invokevirtual 50, 3) := by decide +kernel
theorem dX6_onAll_51 : decode cX6_onAll 51 = .ok (.iload_n 2, 1) := by decide +kernel
theorem dX6_onAll_52 : decode cX6_onAll 52 = .ok (.invokestatic 35, 3) := by decide +kernel
theorem dX6_onAll_55 : decode cX6_onAll 55 = .ok (.ifCond .ne 12, 3) := by decide +kernel
theorem dX6_onAll_58 : decode cX6_onAll 58 = .ok (.iload 4, 2) := by decide +kernel
theorem dX6_onAll_60 : decode cX6_onAll 60 = .ok (.iconst 1, 1) := by decide +kernel
theorem dX6_onAll_61 : decode cX6_onAll 61 = .ok (.iload 5, 2) := by decide +kernel
theorem dX6_onAll_63 : decode cX6_onAll 63 = .ok (.ishl, 1) := by decide +kernel
theorem dX6_onAll_64 : decode cX6_onAll 64 = .ok (.ior, 1) := by decide +kernel
theorem dX6_onAll_65 : decode cX6_onAll 65 = .ok (.istore 4, 2) := by decide +kernel
theorem dX6_onAll_67 : decode cX6_onAll 67 = .ok (.iinc 5 1, 3) := by decide +kernel
theorem dX6_onAll_70 : decode cX6_onAll 70 = .ok (.goto (-43), 3) := by decide +kernel
theorem dX6_onAll_73 : decode cX6_onAll 73 = .ok (.iload 4, 2) := by decide +kernel
theorem dX6_onAll_75 : decode cX6_onAll 75 = .ok (.ireturn, 1) := by decide +kernel
set_option maxRecDepth 20000 in
theorem ggX6_mostPain_X11_areWants : GoodIn wsX6_mostPain wsX11_areWants := goodIn_r _ [11, 12, 13, 10, 14] (by decide +kernel) (by decide +kernel)
set_option maxRecDepth 20000 in
theorem gX6_mostPain_X11_areWants_n26 : GoodIn wsX6_mostPain (wsX11_areWants) := ggX6_mostPain_X11_areWants
set_option maxRecDepth 20000 in
theorem ggX6_mostPain_X11_has : GoodIn wsX6_mostPain wsX11_has := goodIn_r _ [16] (by decide +kernel) (by decide +kernel)
set_option maxRecDepth 20000 in
theorem gX6_mostPain_X11_has_n35 : GoodIn wsX6_mostPain (wsX11_has) := ggX6_mostPain_X11_has
theorem dX6_mostPain_0 : decode cX6_mostPain 0 = .ok (.iload_n 1, 1) := by decide +kernel
theorem dX6_mostPain_1 : decode cX6_mostPain 1 = .ok (.iload_n 2, 1) := by decide +kernel
theorem dX6_mostPain_2 : decode cX6_mostPain 2 = .ok (.invokestatic 26, 3) := by decide +kernel
theorem dX6_mostPain_5 : decode cX6_mostPain 5 = .ok (.ifCond .ne 5, 3) := by decide +kernel
theorem dX6_mostPain_8 : decode cX6_mostPain 8 = .ok (.iconst (-1), 1) := by decide +kernel
theorem dX6_mostPain_9 : decode cX6_mostPain 9 = .ok (.ireturn, 1) := by decide +kernel
theorem dX6_mostPain_10 : decode cX6_mostPain 10 = .ok (.iconst 0, 1) := by decide +kernel
theorem dX6_mostPain_11 : decode cX6_mostPain 11 = .ok (.istore_n 3, 1) := by decide +kernel
theorem dX6_mostPain_12 : decode cX6_mostPain 12 = .ok (.iload_n 3, 1) := by decide +kernel
theorem dX6_mostPain_13 : decode cX6_mostPain 13 = .ok (.bipush 12, 2) := by decide +kernel
theorem dX6_mostPain_15 : decode cX6_mostPain 15 = .ok (.if_icmp .ge 16, 3) := by decide +kernel
theorem dX6_mostPain_18 : decode cX6_mostPain 18 = .ok (.aload_n 0, 1) := by decide +kernel
theorem dX6_mostPain_19 : decode cX6_mostPain 19 = .ok (.getfield 15, 3) := by decide +kernel
theorem dX6_mostPain_22 : decode cX6_mostPain 22 = .ok (.iload_n 3, 1) := by decide +kernel
theorem dX6_mostPain_23 : decode cX6_mostPain 23 = .ok (.iconst (-1), 1) := by decide +kernel
theorem dX6_mostPain_24 : decode cX6_mostPain 24 = .ok (.iastore, 1) := by decide +kernel
theorem dX6_mostPain_25 : decode cX6_mostPain 25 = .ok (.iinc 3 1, 3) := by decide +kernel
theorem dX6_mostPain_28 : decode cX6_mostPain 28 = .ok (.goto (-16), 3) := by decide +kernel
theorem dX6_mostPain_31 : decode cX6_mostPain 31 = .ok (.aload_n 0, 1) := by decide +kernel
theorem dX6_mostPain_32 : decode cX6_mostPain 32 = .ok (.getfield 15, 3) := by decide +kernel
theorem dX6_mostPain_35 : decode cX6_mostPain 35 = .ok (.iload_n 1, 1) := by decide +kernel
theorem dX6_mostPain_36 : decode cX6_mostPain 36 = .ok (.iconst 0, 1) := by decide +kernel
theorem dX6_mostPain_37 : decode cX6_mostPain 37 = .ok (.iastore, 1) := by decide +kernel
theorem dX6_mostPain_38 : decode cX6_mostPain 38 = .ok (.iload_n 1, 1) := by decide +kernel
theorem dX6_mostPain_39 : decode cX6_mostPain 39 = .ok (.istore_n 3, 1) := by decide +kernel
theorem dX6_mostPain_40 : decode cX6_mostPain 40 = .ok (.iload_n 3, 1) := by decide +kernel
theorem dX6_mostPain_41 : decode cX6_mostPain 41 = .ok (.iload_n 2, 1) := by decide +kernel
theorem dX6_mostPain_42 : decode cX6_mostPain 42 = .ok (.if_icmp .ge 87, 3) := by decide +kernel
theorem dX6_mostPain_45 : decode cX6_mostPain 45 = .ok (.iload_n 3, 1) := by decide +kernel
theorem dX6_mostPain_46 : decode cX6_mostPain 46 = .ok (.iconst 1, 1) := by decide +kernel
theorem dX6_mostPain_47 : decode cX6_mostPain 47 = .ok (.iadd, 1) := by decide +kernel
theorem dX6_mostPain_48 : decode cX6_mostPain 48 = .ok (.istore 4, 2) := by decide +kernel
theorem dX6_mostPain_50 : decode cX6_mostPain 50 = .ok (.iload 4, 2) := by decide +kernel
theorem dX6_mostPain_52 : decode cX6_mostPain 52 = .ok (.iload_n 2, 1) := by decide +kernel
theorem dX6_mostPain_53 : decode cX6_mostPain 53 = .ok (.if_icmp .gt 70, 3) := by decide +kernel
theorem dX6_mostPain_56 : decode cX6_mostPain 56 = .ok (.aload_n 0, 1) := by decide +kernel
theorem dX6_mostPain_57 : decode cX6_mostPain 57 = .ok (.getfield 15, 3) := by decide +kernel
theorem dX6_mostPain_60 : decode cX6_mostPain 60 = .ok (.iload_n 3, 1) := by decide +kernel
theorem dX6_mostPain_61 : decode cX6_mostPain 61 = .ok (.iaload, 1) := by decide +kernel
theorem dX6_mostPain_62 : decode cX6_mostPain 62 = .ok (.iconst (-1), 1) := by decide +kernel
theorem dX6_mostPain_63 : decode cX6_mostPain 63 = .ok (.if_icmp .eq 54, 3) := by decide +kernel
theorem dX6_mostPain_66 : decode cX6_mostPain 66 = .ok (.aload_n 0, 1) := by decide +kernel
theorem dX6_mostPain_67 : decode cX6_mostPain 67 = .ok (.getfield 22, 3) := by decide +kernel
theorem dX6_mostPain_70 : decode cX6_mostPain 70 = .ok (.getfield 30, 3) := by decide +kernel
theorem dX6_mostPain_73 : decode cX6_mostPain 73 = .ok (.iload_n 3, 1) := by decide +kernel
theorem dX6_mostPain_74 : decode cX6_mostPain 74 = .ok (.iaload, 1) := by decide +kernel
theorem dX6_mostPain_75 : decode cX6_mostPain 75 = .ok (.iload 4, 2) := by decide +kernel
theorem dX6_mostPain_77 : decode cX6_mostPain 77 = .ok (.invokestatic 35, 3) := by decide +kernel
theorem dX6_mostPain_80 : decode cX6_mostPain 80 = .ok (.ifCond .eq 37, 3) := by decide +kernel
theorem dX6_mostPain_83 : decode cX6_mostPain 83 = .ok (.aload_n 0, 1) := by decide +kernel
theorem dX6_mostPain_84 : decode cX6_mostPain 84 = .ok (.getfield 15, 3) := by decide +kernel
theorem dX6_mostPain_87 : decode cX6_mostPain 87 = .ok (.iload 4, 2) := by decide +kernel
theorem dX6_mostPain_89 : decode cX6_mostPain 89 = .ok (.aload_n 0, 1) := by decide +kernel
theorem dX6_mostPain_90 : decode cX6_mostPain 90 = .ok (.getfield 15, 3) := by decide +kernel
theorem dX6_mostPain_93 : decode cX6_mostPain 93 = .ok (.iload 4, 2) := by decide +kernel
theorem dX6_mostPain_95 : decode cX6_mostPain 95 = .ok (.iaload, 1) := by decide +kernel
theorem dX6_mostPain_96 : decode cX6_mostPain 96 = .ok (.aload_n 0, 1) := by decide +kernel
theorem dX6_mostPain_97 : decode cX6_mostPain 97 = .ok (.getfield 15, 3) := by decide +kernel
theorem dX6_mostPain_100 : decode cX6_mostPain 100 = .ok (.iload_n 3, 1) := by decide +kernel
theorem dX6_mostPain_101 : decode cX6_mostPain 101 = .ok (.iaload, 1) := by decide +kernel
theorem dX6_mostPain_102 : decode cX6_mostPain 102 = .ok (.aload_n 0, 1) := by decide +kernel
theorem dX6_mostPain_103 : decode cX6_mostPain 103 = .ok (.getfield 22, 3) := by decide +kernel
theorem dX6_mostPain_106 : decode cX6_mostPain 106 = .ok (.getfield 53, 3) := by decide +kernel
theorem dX6_mostPain_109 : decode cX6_mostPain 109 = .ok (.iload 4, 2) := by decide +kernel
theorem dX6_mostPain_111 : decode cX6_mostPain 111 = .ok (.iaload, 1) := by decide +kernel
theorem dX6_mostPain_112 : decode cX6_mostPain 112 = .ok (.iadd, 1) := by decide +kernel
theorem dX6_mostPain_113 : decode cX6_mostPain 113 = .ok (.invokestatic 56, 3) := by decide +kernel
theorem dX6_mostPain_116 : decode cX6_mostPain 116 = .ok (.iastore, 1) := by decide +kernel
theorem dX6_mostPain_117 : decode cX6_mostPain 117 = .ok (.iinc 4 1, 3) := by decide +kernel
theorem dX6_mostPain_120 : decode cX6_mostPain 120 = .ok (.goto (-70), 3) := by decide +kernel
theorem dX6_mostPain_123 : decode cX6_mostPain 123 = .ok (.iinc 3 1, 3) := by decide +kernel
theorem dX6_mostPain_126 : decode cX6_mostPain 126 = .ok (.goto (-86), 3) := by decide +kernel
theorem dX6_mostPain_129 : decode cX6_mostPain 129 = .ok (.aload_n 0, 1) := by decide +kernel
theorem dX6_mostPain_130 : decode cX6_mostPain 130 = .ok (.getfield 15, 3) := by decide +kernel
theorem dX6_mostPain_133 : decode cX6_mostPain 133 = .ok (.iload_n 2, 1) := by decide +kernel
theorem dX6_mostPain_134 : decode cX6_mostPain 134 = .ok (.iaload, 1) := by decide +kernel
theorem dX6_mostPain_135 : decode cX6_mostPain 135 = .ok (.ireturn, 1) := by decide +kernel
set_option maxRecDepth 20000 in
theorem ggX6_behind_X11_isWant : GoodIn wsX6_behind wsX11_isWant := goodIn_r _ [5] (by decide +kernel) (by decide +kernel)
set_option maxRecDepth 20000 in
theorem gX6_behind_X11_isWant_n38 : GoodIn wsX6_behind (wsX11_isWant) := ggX6_behind_X11_isWant
set_option maxRecDepth 20000 in
theorem ggX6_behind_X6_reached : GoodIn wsX6_behind wsX6_reached := goodIn_r _ [10, 1, 11, 12, 4, 13, 14, 15, 16, 17, 18, 19, 20, 21, 22, 23] (by decide +kernel) (by decide +kernel)
set_option maxRecDepth 20000 in
theorem gX6_behind_X6_reached : GoodIn wsX6_behind (wsV RX6 50 RX6 yX6_reached wsX6_reached) := goodIn_app (goodIn_of _ (by decide +kernel)) ggX6_behind_X6_reached
theorem dX6_behind_0 : decode cX6_behind 0 = .ok (.iload_n 1, 1) := by decide +kernel
theorem dX6_behind_1 : decode cX6_behind 1 = .ok (.invokestatic 38, 3) := by decide +kernel
theorem dX6_behind_4 : decode cX6_behind 4 = .ok (.ifCond .ne 5, 3) := by decide +kernel
theorem dX6_behind_7 : decode cX6_behind 7 = .ok (.iconst 0, 1) := by decide +kernel
theorem dX6_behind_8 : decode cX6_behind 8 = .ok (.ireturn, 1) := by decide +kernel
theorem dX6_behind_9 : decode cX6_behind 9 = .ok (.iload_n 1, 1) := by decide +kernel
theorem dX6_behind_10 : decode cX6_behind 10 = .ok (.iload_n 2, 1) := by decide +kernel
theorem dX6_behind_11 : decode cX6_behind 11 = .ok (.if_icmp .ne 15, 3) := by decide +kernel
theorem dX6_behind_14 : decode cX6_behind 14 = .ok (.aload_n 0, 1) := by decide +kernel
theorem dX6_behind_15 : decode cX6_behind 15 = .ok (.getfield 22, 3) := by decide +kernel
theorem dX6_behind_18 : decode cX6_behind 18 = .ok (.getfield 61, 3) := by decide +kernel
theorem dX6_behind_21 : decode cX6_behind 21 = .ok (.iload_n 1, 1) := by decide +kernel
theorem dX6_behind_22 : decode cX6_behind 22 = .ok (.iaload, 1) := by decide +kernel
theorem dX6_behind_23 : decode cX6_behind 23 = .ok (.goto 23, 3) := by decide +kernel
theorem dX6_behind_26 : decode cX6_behind 26 = .ok (.aload_n 0, 1) := by decide +kernel
theorem dX6_behind_27 : decode cX6_behind 27 = .ok (.getfield 22, 3) := by decide +kernel
theorem dX6_behind_30 : decode cX6_behind 30 = .ok (.getfield 61, 3) := by decide +kernel
theorem dX6_behind_33 : decode cX6_behind 33 = .ok (.iload_n 1, 1) := by decide +kernel
theorem dX6_behind_34 : decode cX6_behind 34 = .ok (.iaload, 1) := by decide +kernel
theorem dX6_behind_35 : decode cX6_behind 35 = .ok (.aload_n 0, 1) := by decide +kernel
theorem dX6_behind_36 : decode cX6_behind 36 = .ok (.iload_n 1, 1) := by decide +kernel
theorem dX6_behind_37 : decode cX6_behind 37 = .ok (.iconst 1, 1) := by decide +kernel
theorem dX6_behind_38 : decode cX6_behind 38 = .ok (.iload_n 2, 1) := by decide +kernel
theorem dX6_behind_39 : decode cX6_behind 39 = .ok (.ishl, 1) := by decide +kernel
theorem dX6_behind_40 : decode cX6_behind 40 = .ok (.invokevirtual 50, 3) := by decide +kernel
theorem dX6_behind_43 : decode cX6_behind 43 = .ok (.iconst (-1), 1) := by decide +kernel
theorem dX6_behind_44 : decode cX6_behind 44 = .ok (.ixor, 1) := by decide +kernel
theorem dX6_behind_45 : decode cX6_behind 45 = .ok (.iand, 1) := by decide +kernel
theorem dX6_behind_46 : decode cX6_behind 46 = .ok (.ireturn, 1) := by decide +kernel
set_option maxRecDepth 20000 in
theorem ggX6_doubled_X11_isWant : GoodIn wsX6_doubled wsX11_isWant := goodIn_r _ [6] (by decide +kernel) (by decide +kernel)
set_option maxRecDepth 20000 in
theorem gX6_doubled_X11_isWant_n38 : GoodIn wsX6_doubled (wsX11_isWant) := ggX6_doubled_X11_isWant
set_option maxRecDepth 20000 in
theorem ggX6_doubled_X11_has : GoodIn wsX6_doubled wsX11_has := goodIn_r _ [8] (by decide +kernel) (by decide +kernel)
set_option maxRecDepth 20000 in
theorem gX6_doubled_X11_has_n35 : GoodIn wsX6_doubled (wsX11_has) := ggX6_doubled_X11_has
theorem dX6_doubled_0 : decode cX6_doubled 0 = .ok (.iload_n 1, 1) := by decide +kernel
theorem dX6_doubled_1 : decode cX6_doubled 1 = .ok (.invokestatic 38, 3) := by decide +kernel
theorem dX6_doubled_4 : decode cX6_doubled 4 = .ok (.ifCond .ne 5, 3) := by decide +kernel
theorem dX6_doubled_7 : decode cX6_doubled 7 = .ok (.iconst 0, 1) := by decide +kernel
theorem dX6_doubled_8 : decode cX6_doubled 8 = .ok (.ireturn, 1) := by decide +kernel
theorem dX6_doubled_9 : decode cX6_doubled 9 = .ok (.iconst 0, 1) := by decide +kernel
theorem dX6_doubled_10 : decode cX6_doubled 10 = .ok (.istore_n 2, 1) := by decide +kernel
theorem dX6_doubled_11 : decode cX6_doubled 11 = .ok (.iconst 0, 1) := by decide +kernel
theorem dX6_doubled_12 : decode cX6_doubled 12 = .ok (.istore_n 3, 1) := by decide +kernel
theorem dX6_doubled_13 : decode cX6_doubled 13 = .ok (.iload_n 3, 1) := by decide +kernel
theorem dX6_doubled_14 : decode cX6_doubled 14 = .ok (.bipush 12, 2) := by decide +kernel
theorem dX6_doubled_16 : decode cX6_doubled 16 = .ok (.if_icmp .ge 37, 3) := by decide +kernel
theorem dX6_doubled_19 : decode cX6_doubled 19 = .ok (.aload_n 0, 1) := by decide +kernel
theorem dX6_doubled_20 : decode cX6_doubled 20 = .ok (.getfield 22, 3) := by decide +kernel
theorem dX6_doubled_23 : decode cX6_doubled 23 = .ok (.getfield 30, 3) := by decide +kernel
theorem dX6_doubled_26 : decode cX6_doubled 26 = .ok (.iload_n 1, 1) := by decide +kernel
theorem dX6_doubled_27 : decode cX6_doubled 27 = .ok (.iaload, 1) := by decide +kernel
theorem dX6_doubled_28 : decode cX6_doubled 28 = .ok (.iload_n 3, 1) := by decide +kernel
theorem dX6_doubled_29 : decode cX6_doubled 29 = .ok (.invokestatic 35, 3) := by decide +kernel
theorem dX6_doubled_32 : decode cX6_doubled 32 = .ok (.ifCond .eq 15, 3) := by decide +kernel
theorem dX6_doubled_35 : decode cX6_doubled 35 = .ok (.iload_n 2, 1) := by decide +kernel
theorem dX6_doubled_36 : decode cX6_doubled 36 = .ok (.aload_n 0, 1) := by decide +kernel
theorem dX6_doubled_37 : decode cX6_doubled 37 = .ok (.getfield 22, 3) := by decide +kernel
theorem dX6_doubled_40 : decode cX6_doubled 40 = .ok (.getfield 61, 3) := by decide +kernel
theorem dX6_doubled_43 : decode cX6_doubled 43 = .ok (.iload_n 3, 1) := by decide +kernel
theorem dX6_doubled_44 : decode cX6_doubled 44 = .ok (.iaload, 1) := by decide +kernel
theorem dX6_doubled_45 : decode cX6_doubled 45 = .ok (.ior, 1) := by decide +kernel
theorem dX6_doubled_46 : decode cX6_doubled 46 = .ok (.istore_n 2, 1) := by decide +kernel
theorem dX6_doubled_47 : decode cX6_doubled 47 = .ok (.iinc 3 1, 3) := by decide +kernel
theorem dX6_doubled_50 : decode cX6_doubled 50 = .ok (.goto (-37), 3) := by decide +kernel
theorem dX6_doubled_53 : decode cX6_doubled 53 = .ok (.aload_n 0, 1) := by decide +kernel
theorem dX6_doubled_54 : decode cX6_doubled 54 = .ok (.getfield 22, 3) := by decide +kernel
theorem dX6_doubled_57 : decode cX6_doubled 57 = .ok (.getfield 30, 3) := by decide +kernel
theorem dX6_doubled_60 : decode cX6_doubled 60 = .ok (.iload_n 1, 1) := by decide +kernel
theorem dX6_doubled_61 : decode cX6_doubled 61 = .ok (.iaload, 1) := by decide +kernel
theorem dX6_doubled_62 : decode cX6_doubled 62 = .ok (.iload_n 2, 1) := by decide +kernel
theorem dX6_doubled_63 : decode cX6_doubled 63 = .ok (.iand, 1) := by decide +kernel
theorem dX6_doubled_64 : decode cX6_doubled 64 = .ok (.ireturn, 1) := by decide +kernel
set_option maxRecDepth 20000 in
theorem ggX6_highestOfBoth_X10_withLower : GoodIn wsX6_highestOfBoth wsX10_withLower := goodIn_r _ [7, 8, 9, 10, 11, 19, 20, 21, 22, 23] (by decide +kernel) (by decide +kernel)
set_option maxRecDepth 20000 in
theorem gX6_highestOfBoth_X10_withLower : GoodIn wsX6_highestOfBoth (wsV RX6 42 RX10 yX10_withLower wsX10_withLower) := goodIn_app (goodIn_of _ (by decide +kernel)) ggX6_highestOfBoth_X10_withLower
set_option maxRecDepth 20000 in
theorem ggX6_highestOfBoth_X11_has : GoodIn wsX6_highestOfBoth wsX11_has := goodIn_r _ [13] (by decide +kernel) (by decide +kernel)
set_option maxRecDepth 20000 in
theorem gX6_highestOfBoth_X11_has_n35 : GoodIn wsX6_highestOfBoth (wsX11_has) := ggX6_highestOfBoth_X11_has
theorem dX6_highestOfBoth_0 : decode cX6_highestOfBoth 0 = .ok (.aload_n 0, 1) := by decide +kernel
theorem dX6_highestOfBoth_1 : decode cX6_highestOfBoth 1 = .ok (.getfield 22, 3) := by decide +kernel
theorem dX6_highestOfBoth_4 : decode cX6_highestOfBoth 4 = .ok (.iload_n 1, 1) := by decide +kernel
theorem dX6_highestOfBoth_5 : decode cX6_highestOfBoth 5 = .ok (.invokevirtual 42, 3) := by decide +kernel
theorem dX6_highestOfBoth_8 : decode cX6_highestOfBoth 8 = .ok (.aload_n 0, 1) := by decide +kernel
theorem dX6_highestOfBoth_9 : decode cX6_highestOfBoth 9 = .ok (.getfield 22, 3) := by decide +kernel
theorem dX6_highestOfBoth_12 : decode cX6_highestOfBoth 12 = .ok (.iload_n 2, 1) := by decide +kernel
theorem dX6_highestOfBoth_13 : decode cX6_highestOfBoth 13 = .ok (.invokevirtual 42, 3) := by decide +kernel
theorem dX6_highestOfBoth_16 : decode cX6_highestOfBoth 16 = .ok (.iand, 1) := by decide +kernel
theorem dX6_highestOfBoth_17 : decode cX6_highestOfBoth 17 = .ok (.istore_n 3, 1) := by decide +kernel
theorem dX6_highestOfBoth_18 : decode cX6_highestOfBoth 18 = .ok (.iconst 0, 1) := by decide +kernel
theorem dX6_highestOfBoth_19 : decode cX6_highestOfBoth 19 = .ok (.istore 4, 2) := by decide +kernel
theorem dX6_highestOfBoth_21 : decode cX6_highestOfBoth 21 = .ok (.iconst 0, 1) := by decide +kernel
theorem dX6_highestOfBoth_22 : decode cX6_highestOfBoth 22 = .ok (.istore 5, 2) := by decide +kernel
theorem dX6_highestOfBoth_24 : decode cX6_highestOfBoth 24 = .ok (.iload 5, 2) := by decide +kernel
theorem dX6_highestOfBoth_26 : decode cX6_highestOfBoth 26 = .ok (.bipush 12, 2) := by decide +kernel
theorem dX6_highestOfBoth_28 : decode cX6_highestOfBoth 28 = .ok (.if_icmp .ge 33, 3) := by decide +kernel
theorem dX6_highestOfBoth_31 : decode cX6_highestOfBoth 31 = .ok (.iload_n 3, 1) := by decide +kernel
theorem dX6_highestOfBoth_32 : decode cX6_highestOfBoth 32 = .ok (.iload 5, 2) := by decide +kernel
theorem dX6_highestOfBoth_34 : decode cX6_highestOfBoth 34 = .ok (.invokestatic 35, 3) := by decide +kernel
theorem dX6_highestOfBoth_37 : decode cX6_highestOfBoth 37 = .ok (.ifCond .eq 18, 3) := by decide +kernel
theorem dX6_highestOfBoth_40 : decode cX6_highestOfBoth 40 = .ok (.iload 4, 2) := by decide +kernel
theorem dX6_highestOfBoth_42 : decode cX6_highestOfBoth 42 = .ok (.aload_n 0, 1) := by decide +kernel
theorem dX6_highestOfBoth_43 : decode cX6_highestOfBoth 43 = .ok (.getfield 22, 3) := by decide +kernel
theorem dX6_highestOfBoth_46 : decode cX6_highestOfBoth 46 = .ok (.getfield 61, 3) := by decide +kernel
theorem dX6_highestOfBoth_49 : decode cX6_highestOfBoth 49 = .ok (.iload 5, 2) := by decide +kernel
theorem dX6_highestOfBoth_51 : decode cX6_highestOfBoth 51 = .ok (.iaload, 1) := by decide +kernel
theorem dX6_highestOfBoth_52 : decode cX6_highestOfBoth 52 = .ok (.ior, 1) := by decide +kernel
theorem dX6_highestOfBoth_53 : decode cX6_highestOfBoth 53 = .ok (.istore 4, 2) := by decide +kernel
theorem dX6_highestOfBoth_55 : decode cX6_highestOfBoth 55 = .ok (.iinc 5 1, 3) := by decide +kernel
theorem dX6_highestOfBoth_58 : decode cX6_highestOfBoth 58 = .ok (.goto (-34), 3) := by decide +kernel
theorem dX6_highestOfBoth_61 : decode cX6_highestOfBoth 61 = .ok (.iload_n 3, 1) := by decide +kernel
theorem dX6_highestOfBoth_62 : decode cX6_highestOfBoth 62 = .ok (.iload 4, 2) := by decide +kernel
theorem dX6_highestOfBoth_64 : decode cX6_highestOfBoth 64 = .ok (.iconst (-1), 1) := by decide +kernel
theorem dX6_highestOfBoth_65 : decode cX6_highestOfBoth 65 = .ok (.ixor, 1) := by decide +kernel
theorem dX6_highestOfBoth_66 : decode cX6_highestOfBoth 66 = .ok (.iand, 1) := by decide +kernel
theorem dX6_highestOfBoth_67 : decode cX6_highestOfBoth 67 = .ok (.ireturn, 1) := by decide +kernel
set_option maxRecDepth 20000 in
theorem ggX6_over_X11_has : GoodIn wsX6_over wsX11_has := goodIn_r _ [5] (by decide +kernel) (by decide +kernel)
set_option maxRecDepth 20000 in
theorem gX6_over_X11_has_n35 : GoodIn wsX6_over (wsX11_has) := ggX6_over_X11_has
theorem dX6_over_0 : decode cX6_over 0 = .ok (.iconst 0, 1) := by decide +kernel
theorem dX6_over_1 : decode cX6_over 1 = .ok (.istore_n 2, 1) := by decide +kernel
theorem dX6_over_2 : decode cX6_over 2 = .ok (.iconst 0, 1) := by decide +kernel
theorem dX6_over_3 : decode cX6_over 3 = .ok (.istore_n 3, 1) := by decide +kernel
theorem dX6_over_4 : decode cX6_over 4 = .ok (.iload_n 3, 1) := by decide +kernel
theorem dX6_over_5 : decode cX6_over 5 = .ok (.bipush 12, 2) := by decide +kernel
theorem dX6_over_7 : decode cX6_over 7 = .ok (.if_icmp .ge 31, 3) := by decide +kernel
theorem dX6_over_10 : decode cX6_over 10 = .ok (.aload_n 0, 1) := by decide +kernel
theorem dX6_over_11 : decode cX6_over 11 = .ok (.getfield 22, 3) := by decide +kernel
theorem dX6_over_14 : decode cX6_over 14 = .ok (.getfield 61, 3) := by decide +kernel
theorem dX6_over_17 : decode cX6_over 17 = .ok (.iload_n 3, 1) := by decide +kernel
theorem dX6_over_18 : decode cX6_over 18 = .ok (.iaload, 1) := by decide +kernel
theorem dX6_over_19 : decode cX6_over 19 = .ok (.iload_n 1, 1) := by decide +kernel
theorem dX6_over_20 : decode cX6_over 20 = .ok (.invokestatic 35, 3) := by decide +kernel
theorem dX6_over_23 : decode cX6_over 23 = .ok (.ifCond .eq 9, 3) := by decide +kernel
theorem dX6_over_26 : decode cX6_over 26 = .ok (.iload_n 2, 1) := by decide +kernel
theorem dX6_over_27 : decode cX6_over 27 = .ok (.iconst 1, 1) := by decide +kernel
theorem dX6_over_28 : decode cX6_over 28 = .ok (.iload_n 3, 1) := by decide +kernel
theorem dX6_over_29 : decode cX6_over 29 = .ok (.ishl, 1) := by decide +kernel
theorem dX6_over_30 : decode cX6_over 30 = .ok (.ior, 1) := by decide +kernel
theorem dX6_over_31 : decode cX6_over 31 = .ok (.istore_n 2, 1) := by decide +kernel
theorem dX6_over_32 : decode cX6_over 32 = .ok (.iinc 3 1, 3) := by decide +kernel
theorem dX6_over_35 : decode cX6_over 35 = .ok (.goto (-31), 3) := by decide +kernel
theorem dX6_over_38 : decode cX6_over 38 = .ok (.iload_n 2, 1) := by decide +kernel
theorem dX6_over_39 : decode cX6_over 39 = .ok (.ireturn, 1) := by decide +kernel
set_option maxRecDepth 20000 in
theorem ggX6_widest_J6_bitCount_0f7a4 : GoodIn wsX6_widest wsJ6_bitCount_0f7a4 := goodIn_r _ [4, 5, 6, 7] (by decide +kernel) (by decide +kernel)
set_option maxRecDepth 20000 in
theorem gX6_widest_J6_bitCount_0f7a4 : GoodIn wsX6_widest (va_wsS RX6 64 yJ6_bitCount_0f7a4 wsJ6_bitCount_0f7a4) := goodIn_app (goodIn_of _ (by decide +kernel)) ggX6_widest_J6_bitCount_0f7a4
set_option maxRecDepth 20000 in
theorem ggX6_widest_X6_liesApart : GoodIn wsX6_widest wsX6_liesApart := goodIn_r _ [12, 13, 14, 15, 16, 17, 18, 19, 20, 21, 22, 23, 24, 25, 26, 27] (by decide +kernel) (by decide +kernel)
set_option maxRecDepth 20000 in
theorem gX6_widest_X6_liesApart : GoodIn wsX6_widest (wsV RX6 69 RX6 yX6_liesApart wsX6_liesApart) := goodIn_app (goodIn_of _ (by decide +kernel)) ggX6_widest_X6_liesApart
theorem dX6_widest_0 : decode cX6_widest 0 = .ok (.iconst 0, 1) := by decide +kernel
theorem dX6_widest_1 : decode cX6_widest 1 = .ok (.istore_n 1, 1) := by decide +kernel
theorem dX6_widest_2 : decode cX6_widest 2 = .ok (.iconst 0, 1) := by decide +kernel
theorem dX6_widest_3 : decode cX6_widest 3 = .ok (.istore_n 2, 1) := by decide +kernel
theorem dX6_widest_4 : decode cX6_widest 4 = .ok (.iconst 0, 1) := by decide +kernel
theorem dX6_widest_5 : decode cX6_widest 5 = .ok (.istore_n 3, 1) := by decide +kernel
theorem dX6_widest_6 : decode cX6_widest 6 = .ok (.iload_n 3, 1) := by decide +kernel
theorem dX6_widest_7 : decode cX6_widest 7 = .ok (.sipush 4096, 3) := by decide +kernel
theorem dX6_widest_10 : decode cX6_widest 10 = .ok (.if_icmp .ge 34, 3) := by decide +kernel
theorem dX6_widest_13 : decode cX6_widest 13 = .ok (.iload_n 3, 1) := by decide +kernel
theorem dX6_widest_14 : decode cX6_widest 14 = .ok (.invokestatic 64, 3) := by decide +kernel
theorem dX6_widest_17 : decode cX6_widest 17 = .ok (.istore 4, 2) := by decide +kernel
theorem dX6_widest_19 : decode cX6_widest 19 = .ok (.iload 4, 2) := by decide +kernel
theorem dX6_widest_21 : decode cX6_widest 21 = .ok (.iload_n 2, 1) := by decide +kernel
theorem dX6_widest_22 : decode cX6_widest 22 = .ok (.if_icmp .le 16, 3) := by decide +kernel
theorem dX6_widest_25 : decode cX6_widest 25 = .ok (.aload_n 0, 1) := by decide +kernel
theorem dX6_widest_26 : decode cX6_widest 26 = .ok (.iload_n 3, 1) := by decide +kernel
theorem dX6_widest_27 : decode cX6_widest 27 = .ok (.invokevirtual 69, 3) := by decide +kernel
theorem dX6_widest_30 : decode cX6_widest 30 = .ok (.ifCond .eq 8, 3) := by decide +kernel
theorem dX6_widest_33 : decode cX6_widest 33 = .ok (.iload_n 3, 1) := by decide +kernel
theorem dX6_widest_34 : decode cX6_widest 34 = .ok (.istore_n 1, 1) := by decide +kernel
theorem dX6_widest_35 : decode cX6_widest 35 = .ok (.iload 4, 2) := by decide +kernel
theorem dX6_widest_37 : decode cX6_widest 37 = .ok (.istore_n 2, 1) := by decide +kernel
theorem dX6_widest_38 : decode cX6_widest 38 = .ok (.iinc 3 1, 3) := by decide +kernel
theorem dX6_widest_41 : decode cX6_widest 41 = .ok (.goto (-35), 3) := by decide +kernel
theorem dX6_widest_44 : decode cX6_widest 44 = .ok (.iload_n 1, 1) := by decide +kernel
theorem dX6_widest_45 : decode cX6_widest 45 = .ok (.ireturn, 1) := by decide +kernel
set_option maxRecDepth 20000 in
theorem ggX6_liesApart_X11_has : GoodIn wsX6_liesApart wsX11_has := goodIn_r _ [5] (by decide +kernel) (by decide +kernel)
set_option maxRecDepth 20000 in
theorem gX6_liesApart_X11_has_n35 : GoodIn wsX6_liesApart (wsX11_has) := ggX6_liesApart_X11_has
theorem dX6_liesApart_0 : decode cX6_liesApart 0 = .ok (.iconst 0, 1) := by decide +kernel
theorem dX6_liesApart_1 : decode cX6_liesApart 1 = .ok (.istore_n 2, 1) := by decide +kernel
theorem dX6_liesApart_2 : decode cX6_liesApart 2 = .ok (.iload_n 2, 1) := by decide +kernel
theorem dX6_liesApart_3 : decode cX6_liesApart 3 = .ok (.bipush 12, 2) := by decide +kernel
theorem dX6_liesApart_5 : decode cX6_liesApart 5 = .ok (.if_icmp .ge 33, 3) := by decide +kernel
theorem dX6_liesApart_8 : decode cX6_liesApart 8 = .ok (.iload_n 1, 1) := by decide +kernel
theorem dX6_liesApart_9 : decode cX6_liesApart 9 = .ok (.iload_n 2, 1) := by decide +kernel
theorem dX6_liesApart_10 : decode cX6_liesApart 10 = .ok (.invokestatic 35, 3) := by decide +kernel
theorem dX6_liesApart_13 : decode cX6_liesApart 13 = .ok (.ifCond .eq 19, 3) := by decide +kernel
theorem dX6_liesApart_16 : decode cX6_liesApart 16 = .ok (.aload_n 0, 1) := by decide +kernel
theorem dX6_liesApart_17 : decode cX6_liesApart 17 = .ok (.getfield 22, 3) := by decide +kernel
theorem dX6_liesApart_20 : decode cX6_liesApart 20 = .ok (.getfield 61, 3) := by decide +kernel
theorem dX6_liesApart_23 : decode cX6_liesApart 23 = .ok (.iload_n 2, 1) := by decide +kernel
theorem dX6_liesApart_24 : decode cX6_liesApart 24 = .ok (.iaload, 1) := by decide +kernel
theorem dX6_liesApart_25 : decode cX6_liesApart 25 = .ok (.iload_n 1, 1) := by decide +kernel
theorem dX6_liesApart_26 : decode cX6_liesApart 26 = .ok (.iand, 1) := by decide +kernel
theorem dX6_liesApart_27 : decode cX6_liesApart 27 = .ok (.ifCond .eq 5, 3) := by decide +kernel
theorem dX6_liesApart_30 : decode cX6_liesApart 30 = .ok (.iconst 0, 1) := by decide +kernel
theorem dX6_liesApart_31 : decode cX6_liesApart 31 = .ok (.ireturn, 1) := by decide +kernel
theorem dX6_liesApart_32 : decode cX6_liesApart 32 = .ok (.iinc 2 1, 3) := by decide +kernel
theorem dX6_liesApart_35 : decode cX6_liesApart 35 = .ok (.goto (-33), 3) := by decide +kernel
theorem dX6_liesApart_38 : decode cX6_liesApart 38 = .ok (.iconst 1, 1) := by decide +kernel
theorem dX6_liesApart_39 : decode cX6_liesApart 39 = .ok (.ireturn, 1) := by decide +kernel
set_option maxRecDepth 20000 in
theorem ggX6_fewestRows_X6_joins : GoodIn wsX6_fewestRows wsX6_joins := goodIn_r _ [7, 8, 9, 2, 1, 10, 11, 12, 13, 14, 3, 4, 5, 6, 15, 16, 17, 18, 19, 20, 21, 22, 23, 24] (by decide +kernel) (by decide +kernel)
set_option maxRecDepth 20000 in
theorem gX6_fewestRows_X6_joins : GoodIn wsX6_fewestRows (wsV RX6 76 RX6 yX6_joins wsX6_joins) := goodIn_app (goodIn_of _ (by decide +kernel)) ggX6_fewestRows_X6_joins
theorem dX6_fewestRows_0 : decode cX6_fewestRows 0 = .ok (.iconst 0, 1) := by decide +kernel
theorem dX6_fewestRows_1 : decode cX6_fewestRows 1 = .ok (.istore_n 1, 1) := by decide +kernel
theorem dX6_fewestRows_2 : decode cX6_fewestRows 2 = .ok (.iload_n 1, 1) := by decide +kernel
theorem dX6_fewestRows_3 : decode cX6_fewestRows 3 = .ok (.bipush 12, 2) := by decide +kernel
theorem dX6_fewestRows_5 : decode cX6_fewestRows 5 = .ok (.if_icmp .ge 16, 3) := by decide +kernel
theorem dX6_fewestRows_8 : decode cX6_fewestRows 8 = .ok (.aload_n 0, 1) := by decide +kernel
theorem dX6_fewestRows_9 : decode cX6_fewestRows 9 = .ok (.getfield 19, 3) := by decide +kernel
theorem dX6_fewestRows_12 : decode cX6_fewestRows 12 = .ok (.iload_n 1, 1) := by decide +kernel
theorem dX6_fewestRows_13 : decode cX6_fewestRows 13 = .ok (.iconst (-1), 1) := by decide +kernel
theorem dX6_fewestRows_14 : decode cX6_fewestRows 14 = .ok (.iastore, 1) := by decide +kernel
theorem dX6_fewestRows_15 : decode cX6_fewestRows 15 = .ok (.iinc 1 1, 3) := by decide +kernel
theorem dX6_fewestRows_18 : decode cX6_fewestRows 18 = .ok (.goto (-16), 3) := by decide +kernel
theorem dX6_fewestRows_21 : decode cX6_fewestRows 21 = .ok (.iconst 0, 1) := by decide +kernel
theorem dX6_fewestRows_22 : decode cX6_fewestRows 22 = .ok (.istore_n 1, 1) := by decide +kernel
theorem dX6_fewestRows_23 : decode cX6_fewestRows 23 = .ok (.iconst 0, 1) := by decide +kernel
theorem dX6_fewestRows_24 : decode cX6_fewestRows 24 = .ok (.istore_n 2, 1) := by decide +kernel
theorem dX6_fewestRows_25 : decode cX6_fewestRows 25 = .ok (.iload_n 2, 1) := by decide +kernel
theorem dX6_fewestRows_26 : decode cX6_fewestRows 26 = .ok (.bipush 12, 2) := by decide +kernel
theorem dX6_fewestRows_28 : decode cX6_fewestRows 28 = .ok (.if_icmp .ge 26, 3) := by decide +kernel
theorem dX6_fewestRows_31 : decode cX6_fewestRows 31 = .ok (.aload_n 0, 1) := by decide +kernel
theorem dX6_fewestRows_32 : decode cX6_fewestRows 32 = .ok (.iconst 0, 1) := by decide +kernel
theorem dX6_fewestRows_33 : decode cX6_fewestRows 33 = .ok (.putfield 72, 3) := by decide +kernel
theorem dX6_fewestRows_36 : decode cX6_fewestRows 36 = .ok (.aload_n 0, 1) := by decide +kernel
theorem dX6_fewestRows_37 : decode cX6_fewestRows 37 = .ok (.iload_n 2, 1) := by decide +kernel
theorem dX6_fewestRows_38 : decode cX6_fewestRows 38 = .ok (.iconst 0, 1) := by decide +kernel
theorem dX6_fewestRows_39 : decode cX6_fewestRows 39 = .ok (.invokevirtual 76, 3) := by decide +kernel
theorem dX6_fewestRows_42 : decode cX6_fewestRows 42 = .ok (.ifCond .eq 6, 3) := by decide +kernel
theorem dX6_fewestRows_45 : decode cX6_fewestRows 45 = .ok (.iinc 1 1, 3) := by decide +kernel
theorem dX6_fewestRows_48 : decode cX6_fewestRows 48 = .ok (.iinc 2 1, 3) := by decide +kernel
theorem dX6_fewestRows_51 : decode cX6_fewestRows 51 = .ok (.goto (-26), 3) := by decide +kernel
theorem dX6_fewestRows_54 : decode cX6_fewestRows 54 = .ok (.bipush 12, 2) := by decide +kernel
theorem dX6_fewestRows_56 : decode cX6_fewestRows 56 = .ok (.iload_n 1, 1) := by decide +kernel
theorem dX6_fewestRows_57 : decode cX6_fewestRows 57 = .ok (.isub, 1) := by decide +kernel
theorem dX6_fewestRows_58 : decode cX6_fewestRows 58 = .ok (.ireturn, 1) := by decide +kernel
set_option maxRecDepth 20000 in
theorem ggX6_joins_X11_isWant : GoodIn wsX6_joins wsX11_isWant := goodIn_r _ [7] (by decide +kernel) (by decide +kernel)
set_option maxRecDepth 20000 in
theorem gX6_joins_X11_isWant_n38 : GoodIn wsX6_joins (wsX11_isWant) := ggX6_joins_X11_isWant
set_option maxRecDepth 20000 in
theorem ggX6_joins_X11_has : GoodIn wsX6_joins wsX11_has := goodIn_r _ [9] (by decide +kernel) (by decide +kernel)
set_option maxRecDepth 20000 in
theorem gX6_joins_X11_has_n35 : GoodIn wsX6_joins (wsX11_has) := ggX6_joins_X11_has
set_option maxRecDepth 20000 in
theorem ggX6_joins_X6_joins : GoodIn wsX6_joins wsX6_joins := goodIn_r _ [0, 1, 2, 3, 4, 5, 6, 7, 8, 9, 10, 11, 12, 13, 14, 15, 16, 17, 18, 19, 20, 21, 22, 23] (by decide +kernel) (by decide +kernel)
set_option maxRecDepth 20000 in
theorem gX6_joins_X6_joins : GoodIn wsX6_joins (wsV RX6 76 RX6 yX6_joins wsX6_joins) := goodIn_app (goodIn_of _ (by decide +kernel)) ggX6_joins_X6_joins
theorem dX6_joins_0 : decode cX6_joins 0 = .ok (.iload_n 2, 1) := by decide +kernel
theorem dX6_joins_1 : decode cX6_joins 1 = .ok (.bipush 12, 2) := by decide +kernel
theorem dX6_joins_3 : decode cX6_joins 3 = .ok (.if_icmp .gt 10, 3) := by decide +kernel
theorem dX6_joins_6 : decode cX6_joins 6 = .ok (.iload_n 1, 1) := by decide +kernel
theorem dX6_joins_7 : decode cX6_joins 7 = .ok (.invokestatic 38, 3) := by decide +kernel
theorem dX6_joins_10 : decode cX6_joins 10 = .ok (.ifCond .ne 5, 3) := by decide +kernel
theorem dX6_joins_13 : decode cX6_joins 13 = .ok (.iconst 0, 1) := by decide +kernel
theorem dX6_joins_14 : decode cX6_joins 14 = .ok (.ireturn, 1) := by decide +kernel
theorem dX6_joins_15 : decode cX6_joins 15 = .ok (.iload_n 1, 1) := by decide +kernel
theorem dX6_joins_16 : decode cX6_joins 16 = .ok (.iconst 1, 1) := by decide +kernel
theorem dX6_joins_17 : decode cX6_joins 17 = .ok (.iadd, 1) := by decide +kernel
theorem dX6_joins_18 : decode cX6_joins 18 = .ok (.istore_n 3, 1) := by decide +kernel
theorem dX6_joins_19 : decode cX6_joins 19 = .ok (.iload_n 3, 1) := by decide +kernel
theorem dX6_joins_20 : decode cX6_joins 20 = .ok (.bipush 12, 2) := by decide +kernel
theorem dX6_joins_22 : decode cX6_joins 22 = .ok (.if_icmp .ge 83, 3) := by decide +kernel
theorem dX6_joins_25 : decode cX6_joins 25 = .ok (.aload_n 0, 1) := by decide +kernel
theorem dX6_joins_26 : decode cX6_joins 26 = .ok (.getfield 22, 3) := by decide +kernel
theorem dX6_joins_29 : decode cX6_joins 29 = .ok (.getfield 30, 3) := by decide +kernel
theorem dX6_joins_32 : decode cX6_joins 32 = .ok (.iload_n 1, 1) := by decide +kernel
theorem dX6_joins_33 : decode cX6_joins 33 = .ok (.iaload, 1) := by decide +kernel
theorem dX6_joins_34 : decode cX6_joins 34 = .ok (.iload_n 3, 1) := by decide +kernel
theorem dX6_joins_35 : decode cX6_joins 35 = .ok (.invokestatic 35, 3) := by decide +kernel
theorem dX6_joins_38 : decode cX6_joins 38 = .ok (.ifCond .eq 61, 3) := by decide +kernel
theorem dX6_joins_41 : decode cX6_joins 41 = .ok (.aload_n 0, 1) := by decide +kernel
theorem dX6_joins_42 : decode cX6_joins 42 = .ok (.getfield 72, 3) := by decide +kernel
theorem dX6_joins_45 : decode cX6_joins 45 = .ok (.iload_n 3, 1) := by decide +kernel
theorem dX6_joins_46 : decode cX6_joins 46 = .ok (.invokestatic 35, 3) := by decide +kernel
theorem dX6_joins_49 : decode cX6_joins 49 = .ok (.ifCond .ne 50, 3) := by decide +kernel
theorem dX6_joins_52 : decode cX6_joins 52 = .ok (.aload_n 0, 1) := by decide +kernel
theorem dX6_joins_53 : decode cX6_joins 53 = .ok (.dup, 1) := by decide +kernel
theorem dX6_joins_54 : decode cX6_joins 54 = .ok (.getfield 72, 3) := by decide +kernel
theorem dX6_joins_57 : decode cX6_joins 57 = .ok (.iconst 1, 1) := by decide +kernel
theorem dX6_joins_58 : decode cX6_joins 58 = .ok (.iload_n 3, 1) := by decide +kernel
theorem dX6_joins_59 : decode cX6_joins 59 = .ok (.ishl, 1) := by decide +kernel
theorem dX6_joins_60 : decode cX6_joins 60 = .ok (.ior, 1) := by decide +kernel
theorem dX6_joins_61 : decode cX6_joins 61 = .ok (.putfield 72, 3) := by decide +kernel
theorem dX6_joins_64 : decode cX6_joins 64 = .ok (.aload_n 0, 1) := by decide +kernel
theorem dX6_joins_65 : decode cX6_joins 65 = .ok (.getfield 19, 3) := by decide +kernel
theorem dX6_joins_68 : decode cX6_joins 68 = .ok (.iload_n 3, 1) := by decide +kernel
theorem dX6_joins_69 : decode cX6_joins 69 = .ok (.iaload, 1) := by decide +kernel
theorem dX6_joins_70 : decode cX6_joins 70 = .ok (.iconst (-1), 1) := by decide +kernel
theorem dX6_joins_71 : decode cX6_joins 71 = .ok (.if_icmp .eq 19, 3) := by decide +kernel
theorem dX6_joins_74 : decode cX6_joins 74 = .ok (.aload_n 0, 1) := by decide +kernel
theorem dX6_joins_75 : decode cX6_joins 75 = .ok (.aload_n 0, 1) := by decide +kernel
theorem dX6_joins_76 : decode cX6_joins 76 = .ok (.getfield 19, 3) := by decide +kernel
theorem dX6_joins_79 : decode cX6_joins 79 = .ok (.iload_n 3, 1) := by decide +kernel
theorem dX6_joins_80 : decode cX6_joins 80 = .ok (.iaload, 1) := by decide +kernel
theorem dX6_joins_81 : decode cX6_joins 81 = .ok (.iload_n 2, 1) := by decide +kernel
theorem dX6_joins_82 : decode cX6_joins 82 = .ok (.iconst 1, 1) := by decide +kernel
theorem dX6_joins_83 : decode cX6_joins 83 = .ok (.iadd, 1) := by decide +kernel
theorem dX6_joins_84 : decode cX6_joins 84 = .ok (.invokevirtual 76, 3) := by decide +kernel
theorem dX6_joins_87 : decode cX6_joins 87 = .ok (.ifCond .eq 12, 3) := by decide +kernel
theorem dX6_joins_90 : decode cX6_joins 90 = .ok (.aload_n 0, 1) := by decide +kernel
theorem dX6_joins_91 : decode cX6_joins 91 = .ok (.getfield 19, 3) := by decide +kernel
theorem dX6_joins_94 : decode cX6_joins 94 = .ok (.iload_n 3, 1) := by decide +kernel
theorem dX6_joins_95 : decode cX6_joins 95 = .ok (.iload_n 1, 1) := by decide +kernel
theorem dX6_joins_96 : decode cX6_joins 96 = .ok (.iastore, 1) := by decide +kernel
theorem dX6_joins_97 : decode cX6_joins 97 = .ok (.iconst 1, 1) := by decide +kernel
theorem dX6_joins_98 : decode cX6_joins 98 = .ok (.ireturn, 1) := by decide +kernel
theorem dX6_joins_99 : decode cX6_joins 99 = .ok (.iinc 3 1, 3) := by decide +kernel
theorem dX6_joins_102 : decode cX6_joins 102 = .ok (.goto (-83), 3) := by decide +kernel
theorem dX6_joins_105 : decode cX6_joins 105 = .ok (.iconst 0, 1) := by decide +kernel
theorem dX6_joins_106 : decode cX6_joins 106 = .ok (.ireturn, 1) := by decide +kernel
