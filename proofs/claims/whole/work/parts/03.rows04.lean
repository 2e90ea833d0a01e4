theorem dX11_bottom_61 : decode cX11_bottom 61 = .ok (.pop, 1) := by decide +kernel
theorem dX11_bottom_62 : decode cX11_bottom 62 = .ok (.iinc 2 1, 3) := by decide +kernel
theorem dX11_bottom_65 : decode cX11_bottom 65 = .ok (.goto (-33), 3) := by decide +kernel
theorem dX11_bottom_68 : decode cX11_bottom 68 = .ok (.aload_n 0, 1) := by decide +kernel
theorem dX11_bottom_69 : decode cX11_bottom 69 = .ok (.getfield 22, 3) := by decide +kernel
theorem dX11_bottom_72 : decode cX11_bottom 72 = .ok (.getfield 230, 3) := by decide +kernel
theorem dX11_bottom_75 : decode cX11_bottom 75 = .ok (.iload_n 1, 1) := by decide +kernel
theorem dX11_bottom_76 : decode cX11_bottom 76 = .ok (.iaload, 1) := by decide +kernel
theorem dX11_bottom_77 : decode cX11_bottom 77 = .ok (.ireturn, 1) := by decide +kernel
set_option maxRecDepth 20000 in
theorem ggX11_ways_X11_areWants : GoodIn wsX11_ways wsX11_areWants := goodIn_r _ [6, 7, 8, 5, 9] (by decide +kernel) (by decide +kernel)
set_option maxRecDepth 20000 in
theorem gX11_ways_X11_areWants : GoodIn wsX11_ways (va_wsS RX11 285 yX11_areWants wsX11_areWants) := goodIn_app (goodIn_of _ (by decide +kernel)) ggX11_ways_X11_areWants
set_option maxRecDepth 20000 in
theorem ggX11_ways_X6_count : GoodIn wsX11_ways wsX6_count := goodIn_r _ [14, 15, 16, 17, 4, 5, 6, 7, 8, 9, 18, 19, 32, 33, 34, 35, 36, 37, 38, 39, 40, 41] (by decide +kernel) (by decide +kernel)
set_option maxRecDepth 20000 in
theorem gX11_ways_X6_count : GoodIn wsX11_ways (wsV RX11 288 RX6 yX6_count wsX6_count) := goodIn_app (goodIn_of _ (by decide +kernel)) ggX11_ways_X6_count
theorem dX11_ways_0 : decode cX11_ways 0 = .ok (.iload_n 1, 1) := by decide +kernel
theorem dX11_ways_1 : decode cX11_ways 1 = .ok (.iload_n 2, 1) := by decide +kernel
theorem dX11_ways_2 : decode cX11_ways 2 = .ok (.invokestatic 285, 3) := by decide +kernel
theorem dX11_ways_5 : decode cX11_ways 5 = .ok (.ifCond .eq 15, 3) := by decide +kernel
theorem dX11_ways_8 : decode cX11_ways 8 = .ok (.aload_n 0, 1) := by decide +kernel
theorem dX11_ways_9 : decode cX11_ways 9 = .ok (.getfield 67, 3) := by decide +kernel
theorem dX11_ways_12 : decode cX11_ways 12 = .ok (.iload_n 1, 1) := by decide +kernel
theorem dX11_ways_13 : decode cX11_ways 13 = .ok (.iload_n 2, 1) := by decide +kernel
theorem dX11_ways_14 : decode cX11_ways 14 = .ok (.invokevirtual 288, 3) := by decide +kernel
theorem dX11_ways_17 : decode cX11_ways 17 = .ok (.goto 6, 3) := by decide +kernel
theorem dX11_ways_20 : decode cX11_ways 20 = .ok (.ldc2_w 292, 3) := by decide +kernel
theorem dX11_ways_23 : decode cX11_ways 23 = .ok (.lreturn, 1) := by decide +kernel
set_option maxRecDepth 20000 in
theorem ggX11_must_X11_areWants : GoodIn wsX11_must wsX11_areWants := goodIn_r _ [5, 6, 7, 4, 8] (by decide +kernel) (by decide +kernel)
set_option maxRecDepth 20000 in
theorem gX11_must_X11_areWants : GoodIn wsX11_must (va_wsS RX11 285 yX11_areWants wsX11_areWants) := goodIn_app (goodIn_of _ (by decide +kernel)) ggX11_must_X11_areWants
set_option maxRecDepth 20000 in
theorem ggX11_must_X6_onAll : GoodIn wsX11_must wsX6_onAll := goodIn_r _ [13, 14, 15, 16, 12, 17, 18, 7, 4, 8, 19, 20, 21, 22, 23, 24, 25, 26, 27, 28, 29, 30, 31, 44, 45, 46, 47, 48, 49, 50, 51, 52, 53] (by decide +kernel) (by decide +kernel)
set_option maxRecDepth 20000 in
theorem gX11_must_X6_onAll : GoodIn wsX11_must (wsV RX11 294 RX6 yX6_onAll wsX6_onAll) := goodIn_app (goodIn_of _ (by decide +kernel)) ggX11_must_X6_onAll
theorem dX11_must_0 : decode cX11_must 0 = .ok (.iload_n 1, 1) := by decide +kernel
theorem dX11_must_1 : decode cX11_must 1 = .ok (.iload_n 2, 1) := by decide +kernel
theorem dX11_must_2 : decode cX11_must 2 = .ok (.invokestatic 285, 3) := by decide +kernel
theorem dX11_must_5 : decode cX11_must 5 = .ok (.ifCond .eq 15, 3) := by decide +kernel
theorem dX11_must_8 : decode cX11_must 8 = .ok (.aload_n 0, 1) := by decide +kernel
theorem dX11_must_9 : decode cX11_must 9 = .ok (.getfield 67, 3) := by decide +kernel
theorem dX11_must_12 : decode cX11_must 12 = .ok (.iload_n 1, 1) := by decide +kernel
theorem dX11_must_13 : decode cX11_must 13 = .ok (.iload_n 2, 1) := by decide +kernel
theorem dX11_must_14 : decode cX11_must 14 = .ok (.invokevirtual 294, 3) := by decide +kernel
theorem dX11_must_17 : decode cX11_must 17 = .ok (.goto 4, 3) := by decide +kernel
theorem dX11_must_20 : decode cX11_must 20 = .ok (.iconst (-1), 1) := by decide +kernel
theorem dX11_must_21 : decode cX11_must 21 = .ok (.ireturn, 1) := by decide +kernel
set_option maxRecDepth 20000 in
theorem ggX11_between_X11_areWants : GoodIn wsX11_between wsX11_areWants := goodIn_r _ [5, 6, 7, 4, 8] (by decide +kernel) (by decide +kernel)
set_option maxRecDepth 20000 in
theorem gX11_between_X11_areWants : GoodIn wsX11_between (va_wsS RX11 285 yX11_areWants wsX11_areWants) := goodIn_app (goodIn_of _ (by decide +kernel)) ggX11_between_X11_areWants
set_option maxRecDepth 20000 in
theorem ggX11_between_X6_onAny : GoodIn wsX11_between wsX6_onAny := goodIn_r _ [13, 14, 7, 4, 8, 15, 16, 17, 18, 19, 20, 21, 22, 35, 36, 37, 38, 39, 40, 41, 42, 43, 44] (by decide +kernel) (by decide +kernel)
set_option maxRecDepth 20000 in
theorem gX11_between_X6_onAny : GoodIn wsX11_between (wsV RX11 297 RX6 yX6_onAny wsX6_onAny) := goodIn_app (goodIn_of _ (by decide +kernel)) ggX11_between_X6_onAny
theorem dX11_between_0 : decode cX11_between 0 = .ok (.iload_n 1, 1) := by decide +kernel
theorem dX11_between_1 : decode cX11_between 1 = .ok (.iload_n 2, 1) := by decide +kernel
theorem dX11_between_2 : decode cX11_between 2 = .ok (.invokestatic 285, 3) := by decide +kernel
theorem dX11_between_5 : decode cX11_between 5 = .ok (.ifCond .eq 15, 3) := by decide +kernel
theorem dX11_between_8 : decode cX11_between 8 = .ok (.aload_n 0, 1) := by decide +kernel
theorem dX11_between_9 : decode cX11_between 9 = .ok (.getfield 67, 3) := by decide +kernel
theorem dX11_between_12 : decode cX11_between 12 = .ok (.iload_n 1, 1) := by decide +kernel
theorem dX11_between_13 : decode cX11_between 13 = .ok (.iload_n 2, 1) := by decide +kernel
theorem dX11_between_14 : decode cX11_between 14 = .ok (.invokevirtual 297, 3) := by decide +kernel
theorem dX11_between_17 : decode cX11_between 17 = .ok (.goto 4, 3) := by decide +kernel
theorem dX11_between_20 : decode cX11_between 20 = .ok (.iconst (-1), 1) := by decide +kernel
theorem dX11_between_21 : decode cX11_between 21 = .ok (.ireturn, 1) := by decide +kernel
set_option maxRecDepth 20000 in
theorem ggX11_heaviest_X11_areWants : GoodIn wsX11_heaviest wsX11_areWants := goodIn_r _ [5, 6, 7, 4, 8] (by decide +kernel) (by decide +kernel)
set_option maxRecDepth 20000 in
theorem gX11_heaviest_X11_areWants : GoodIn wsX11_heaviest (va_wsS RX11 285 yX11_areWants wsX11_areWants) := goodIn_app (goodIn_of _ (by decide +kernel)) ggX11_heaviest_X11_areWants
set_option maxRecDepth 20000 in
theorem ggX11_heaviest_X6_mostPain : GoodIn wsX11_heaviest wsX6_mostPain := goodIn_r _ [13, 14, 15, 16, 17, 18, 19, 20, 21, 3, 4, 5, 6, 7, 8, 22, 23, 36, 37, 38, 39, 40, 41, 42, 43, 44, 45] (by decide +kernel) (by decide +kernel)
set_option maxRecDepth 20000 in
theorem gX11_heaviest_X6_mostPain : GoodIn wsX11_heaviest (wsV RX11 300 RX6 yX6_mostPain wsX6_mostPain) := goodIn_app (goodIn_of _ (by decide +kernel)) ggX11_heaviest_X6_mostPain
theorem dX11_heaviest_0 : decode cX11_heaviest 0 = .ok (.iload_n 1, 1) := by decide +kernel
theorem dX11_heaviest_1 : decode cX11_heaviest 1 = .ok (.iload_n 2, 1) := by decide +kernel
theorem dX11_heaviest_2 : decode cX11_heaviest 2 = .ok (.invokestatic 285, 3) := by decide +kernel
theorem dX11_heaviest_5 : decode cX11_heaviest 5 = .ok (.ifCond .eq 15, 3) := by decide +kernel
theorem dX11_heaviest_8 : decode cX11_heaviest 8 = .ok (.aload_n 0, 1) := by decide +kernel
theorem dX11_heaviest_9 : decode cX11_heaviest 9 = .ok (.getfield 67, 3) := by decide +kernel
theorem dX11_heaviest_12 : decode cX11_heaviest 12 = .ok (.iload_n 1, 1) := by decide +kernel
theorem dX11_heaviest_13 : decode cX11_heaviest 13 = .ok (.iload_n 2, 1) := by decide +kernel
theorem dX11_heaviest_14 : decode cX11_heaviest 14 = .ok (.invokevirtual 300, 3) := by decide +kernel
theorem dX11_heaviest_17 : decode cX11_heaviest 17 = .ok (.goto 4, 3) := by decide +kernel
theorem dX11_heaviest_20 : decode cX11_heaviest 20 = .ok (.iconst (-1), 1) := by decide +kernel
theorem dX11_heaviest_21 : decode cX11_heaviest 21 = .ok (.ireturn, 1) := by decide +kernel
set_option maxRecDepth 20000 in
theorem ggX11_under_X11_areWants : GoodIn wsX11_under wsX11_areWants := goodIn_r _ [5, 6, 7, 4, 8] (by decide +kernel) (by decide +kernel)
set_option maxRecDepth 20000 in
theorem gX11_under_X11_areWants : GoodIn wsX11_under (va_wsS RX11 285 yX11_areWants wsX11_areWants) := goodIn_app (goodIn_of _ (by decide +kernel)) ggX11_under_X11_areWants
set_option maxRecDepth 20000 in
theorem ggX11_under_X6_behind : GoodIn wsX11_under wsX6_behind := goodIn_r _ [13, 14, 15, 7, 4, 8, 16, 17, 18, 12, 19, 20, 21, 22, 35, 36, 37, 38, 39, 40, 41, 42, 43, 44] (by decide +kernel) (by decide +kernel)
set_option maxRecDepth 20000 in
theorem gX11_under_X6_behind : GoodIn wsX11_under (wsV RX11 303 RX6 yX6_behind wsX6_behind) := goodIn_app (goodIn_of _ (by decide +kernel)) ggX11_under_X6_behind
theorem dX11_under_0 : decode cX11_under 0 = .ok (.iload_n 1, 1) := by decide +kernel
theorem dX11_under_1 : decode cX11_under 1 = .ok (.iload_n 2, 1) := by decide +kernel
theorem dX11_under_2 : decode cX11_under 2 = .ok (.invokestatic 285, 3) := by decide +kernel
theorem dX11_under_5 : decode cX11_under 5 = .ok (.ifCond .eq 15, 3) := by decide +kernel
theorem dX11_under_8 : decode cX11_under 8 = .ok (.aload_n 0, 1) := by decide +kernel
theorem dX11_under_9 : decode cX11_under 9 = .ok (.getfield 67, 3) := by decide +kernel
theorem dX11_under_12 : decode cX11_under 12 = .ok (.iload_n 1, 1) := by decide +kernel
theorem dX11_under_13 : decode cX11_under 13 = .ok (.iload_n 2, 1) := by decide +kernel
theorem dX11_under_14 : decode cX11_under 14 = .ok (.invokevirtual 303, 3) := by decide +kernel
theorem dX11_under_17 : decode cX11_under 17 = .ok (.goto 4, 3) := by decide +kernel
theorem dX11_under_20 : decode cX11_under 20 = .ok (.iconst (-1), 1) := by decide +kernel
theorem dX11_under_21 : decode cX11_under 21 = .ok (.ireturn, 1) := by decide +kernel
set_option maxRecDepth 20000 in
theorem ggX11_needless_X11_isWant : GoodIn wsX11_needless wsX11_isWant := goodIn_r _ [5] (by decide +kernel) (by decide +kernel)
set_option maxRecDepth 20000 in
theorem gX11_needless_X11_isWant : GoodIn wsX11_needless (va_wsS RX11 95 yX11_isWant wsX11_isWant) := goodIn_app (goodIn_of _ (by decide +kernel)) ggX11_needless_X11_isWant
set_option maxRecDepth 20000 in
theorem ggX11_needless_X6_doubled : GoodIn wsX11_needless wsX6_doubled := goodIn_r _ [10, 11, 12, 13, 3, 4, 5, 14, 15, 28, 29, 30, 31, 32, 33, 34, 35, 36, 37] (by decide +kernel) (by decide +kernel)
set_option maxRecDepth 20000 in
theorem gX11_needless_X6_doubled : GoodIn wsX11_needless (wsV RX11 306 RX6 yX6_doubled wsX6_doubled) := goodIn_app (goodIn_of _ (by decide +kernel)) ggX11_needless_X6_doubled
theorem dX11_needless_0 : decode cX11_needless 0 = .ok (.iload_n 1, 1) := by decide +kernel
theorem dX11_needless_1 : decode cX11_needless 1 = .ok (.invokestatic 95, 3) := by decide +kernel
theorem dX11_needless_4 : decode cX11_needless 4 = .ok (.ifCond .eq 14, 3) := by decide +kernel
theorem dX11_needless_7 : decode cX11_needless 7 = .ok (.aload_n 0, 1) := by decide +kernel
theorem dX11_needless_8 : decode cX11_needless 8 = .ok (.getfield 67, 3) := by decide +kernel
theorem dX11_needless_11 : decode cX11_needless 11 = .ok (.iload_n 1, 1) := by decide +kernel
theorem dX11_needless_12 : decode cX11_needless 12 = .ok (.invokevirtual 306, 3) := by decide +kernel
theorem dX11_needless_15 : decode cX11_needless 15 = .ok (.goto 4, 3) := by decide +kernel
theorem dX11_needless_18 : decode cX11_needless 18 = .ok (.iconst (-1), 1) := by decide +kernel
theorem dX11_needless_19 : decode cX11_needless 19 = .ok (.ireturn, 1) := by decide +kernel
set_option maxRecDepth 20000 in
theorem ggX11_shared_X11_areWants : GoodIn wsX11_shared wsX11_areWants := goodIn_r _ [5, 6, 7, 4, 8] (by decide +kernel) (by decide +kernel)
set_option maxRecDepth 20000 in
theorem gX11_shared_X11_areWants : GoodIn wsX11_shared (va_wsS RX11 285 yX11_areWants wsX11_areWants) := goodIn_app (goodIn_of _ (by decide +kernel)) ggX11_shared_X11_areWants
set_option maxRecDepth 20000 in
theorem ggX11_shared_X6_highestOfBoth : GoodIn wsX11_shared wsX6_highestOfBoth := goodIn_r _ [13, 14, 15, 16, 17, 18, 19, 20, 21, 7, 4, 8, 22, 23, 36, 37, 38, 39, 40, 41, 42, 43, 44, 45] (by decide +kernel) (by decide +kernel)
set_option maxRecDepth 20000 in
theorem gX11_shared_X6_highestOfBoth : GoodIn wsX11_shared (wsV RX11 309 RX6 yX6_highestOfBoth wsX6_highestOfBoth) := goodIn_app (goodIn_of _ (by decide +kernel)) ggX11_shared_X6_highestOfBoth
theorem dX11_shared_0 : decode cX11_shared 0 = .ok (.iload_n 1, 1) := by decide +kernel
theorem dX11_shared_1 : decode cX11_shared 1 = .ok (.iload_n 2, 1) := by decide +kernel
theorem dX11_shared_2 : decode cX11_shared 2 = .ok (.invokestatic 285, 3) := by decide +kernel
theorem dX11_shared_5 : decode cX11_shared 5 = .ok (.ifCond .eq 15, 3) := by decide +kernel
theorem dX11_shared_8 : decode cX11_shared 8 = .ok (.aload_n 0, 1) := by decide +kernel
theorem dX11_shared_9 : decode cX11_shared 9 = .ok (.getfield 67, 3) := by decide +kernel
theorem dX11_shared_12 : decode cX11_shared 12 = .ok (.iload_n 1, 1) := by decide +kernel
theorem dX11_shared_13 : decode cX11_shared 13 = .ok (.iload_n 2, 1) := by decide +kernel
theorem dX11_shared_14 : decode cX11_shared 14 = .ok (.invokevirtual 309, 3) := by decide +kernel
theorem dX11_shared_17 : decode cX11_shared 17 = .ok (.goto 4, 3) := by decide +kernel
theorem dX11_shared_20 : decode cX11_shared 20 = .ok (.iconst (-1), 1) := by decide +kernel
theorem dX11_shared_21 : decode cX11_shared 21 = .ok (.ireturn, 1) := by decide +kernel
set_option maxRecDepth 20000 in
theorem ggX11_apart_X6_widest : GoodIn wsX11_apart wsX6_widest := goodIn_r _ [6, 7, 8, 9, 10, 11, 12, 13, 14, 15, 16, 5, 17, 18, 19, 20, 21, 22, 36, 37, 38, 39, 40, 41, 42, 43, 44, 45] (by decide +kernel) (by decide +kernel)
set_option maxRecDepth 20000 in
theorem gX11_apart_X6_widest : GoodIn wsX11_apart (wsV RX11 312 RX6 yX6_widest wsX6_widest) := goodIn_app (goodIn_of _ (by decide +kernel)) ggX11_apart_X6_widest
set_option maxRecDepth 20000 in
theorem ggX11_apart_J6_bitCount_0f7a4 : GoodIn wsX11_apart wsJ6_bitCount_0f7a4 := goodIn_r _ [10, 11, 12, 13] (by decide +kernel) (by decide +kernel)
set_option maxRecDepth 20000 in
theorem gX11_apart_J6_bitCount_0f7a4 : GoodIn wsX11_apart (va_wsS RX11 315 yJ6_bitCount_0f7a4 wsJ6_bitCount_0f7a4) := goodIn_app (goodIn_of _ (by decide +kernel)) ggX11_apart_J6_bitCount_0f7a4
theorem dX11_apart_0 : decode cX11_apart 0 = .ok (.aload_n 0, 1) := by decide +kernel
theorem dX11_apart_1 : decode cX11_apart 1 = .ok (.getfield 67, 3) := by decide +kernel
theorem dX11_apart_4 : decode cX11_apart 4 = .ok (.invokevirtual 312, 3) := by decide +kernel
theorem dX11_apart_7 : decode cX11_apart 7 = .ok (.istore_n 2, 1) := by decide +kernel
theorem dX11_apart_8 : decode cX11_apart 8 = .ok (.iload_n 1, 1) := by decide +kernel
theorem dX11_apart_9 : decode cX11_apart 9 = .ok (.ifCond .eq 10, 3) := by decide +kernel
theorem dX11_apart_12 : decode cX11_apart 12 = .ok (.iload_n 2, 1) := by decide +kernel
theorem dX11_apart_13 : decode cX11_apart 13 = .ok (.invokestatic 315, 3) := by decide +kernel
theorem dX11_apart_16 : decode cX11_apart 16 = .ok (.goto 4, 3) := by decide +kernel
theorem dX11_apart_19 : decode cX11_apart 19 = .ok (.iload_n 2, 1) := by decide +kernel
theorem dX11_apart_20 : decode cX11_apart 20 = .ok (.ireturn, 1) := by decide +kernel
set_option maxRecDepth 20000 in
theorem ggX11_chains_X6_fewestRows : GoodIn wsX11_chains wsX6_fewestRows := goodIn_r _ [6, 7, 8, 9, 10, 11, 5, 12, 13, 14, 15, 16, 17, 18, 19, 32, 33, 34, 35, 36, 37, 38, 39, 40, 41] (by decide +kernel) (by decide +kernel)
set_option maxRecDepth 20000 in
theorem gX11_chains_X6_fewestRows : GoodIn wsX11_chains (wsV RX11 320 RX6 yX6_fewestRows wsX6_fewestRows) := goodIn_app (goodIn_of _ (by decide +kernel)) ggX11_chains_X6_fewestRows
theorem dX11_chains_0 : decode cX11_chains 0 = .ok (.aload_n 0, 1) := by decide +kernel
theorem dX11_chains_1 : decode cX11_chains 1 = .ok (.getfield 67, 3) := by decide +kernel
theorem dX11_chains_4 : decode cX11_chains 4 = .ok (.invokevirtual 320, 3) := by decide +kernel
theorem dX11_chains_7 : decode cX11_chains 7 = .ok (.ireturn, 1) := by decide +kernel
theorem dX11_levels_0 : decode cX11_levels 0 = .ok (.iconst 0, 1) := by decide +kernel
theorem dX11_levels_1 : decode cX11_levels 1 = .ok (.istore_n 1, 1) := by decide +kernel
theorem dX11_levels_2 : decode cX11_levels 2 = .ok (.iconst 0, 1) := by decide +kernel
theorem dX11_levels_3 : decode cX11_levels 3 = .ok (.istore_n 2, 1) := by decide +kernel
theorem dX11_levels_4 : decode cX11_levels 4 = .ok (.iload_n 2, 1) := by decide +kernel
theorem dX11_levels_5 : decode cX11_levels 5 = .ok (.bipush 12, 2) := by decide +kernel
theorem dX11_levels_7 : decode cX11_levels 7 = .ok (.if_icmp .ge 28, 3) := by decide +kernel
theorem dX11_levels_10 : decode cX11_levels 10 = .ok (.iload_n 1, 1) := by decide +kernel
theorem dX11_levels_11 : decode cX11_levels 11 = .ok (.aload_n 0, 1) := by decide +kernel
theorem dX11_levels_12 : decode cX11_levels 12 = .ok (.getfield 12, 3) := by decide +kernel
theorem dX11_levels_15 : decode cX11_levels 15 = .ok (.getfield 44, 3) := by decide +kernel
theorem dX11_levels_18 : decode cX11_levels 18 = .ok (.getfield 262, 3) := by decide +kernel
theorem dX11_levels_21 : decode cX11_levels 21 = .ok (.iload_n 2, 1) := by decide +kernel
theorem dX11_levels_22 : decode cX11_levels 22 = .ok (.iaload, 1) := by decide +kernel
theorem dX11_levels_23 : decode cX11_levels 23 = .ok (.iconst 1, 1) := by decide +kernel
theorem dX11_levels_24 : decode cX11_levels 24 = .ok (.iadd, 1) := by decide +kernel
theorem dX11_levels_25 : decode cX11_levels 25 = .ok (.invokestatic 323, 3) := by decide +kernel
theorem dX11_levels_28 : decode cX11_levels 28 = .ok (.istore_n 1, 1) := by decide +kernel
theorem dX11_levels_29 : decode cX11_levels 29 = .ok (.iinc 2 1, 3) := by decide +kernel
theorem dX11_levels_32 : decode cX11_levels 32 = .ok (.goto (-28), 3) := by decide +kernel
theorem dX11_levels_35 : decode cX11_levels 35 = .ok (.iload_n 1, 1) := by decide +kernel
theorem dX11_levels_36 : decode cX11_levels 36 = .ok (.ireturn, 1) := by decide +kernel
set_option maxRecDepth 20000 in
theorem ggX11_asked_X0_best : GoodIn wsX11_asked wsX0_best := goodIn_r _ [6, 7, 8, 9, 5, 10, 11, 12, 13, 14, 15, 16, 17, 18, 19, 20, 21, 22, 23, 24, 25, 26, 27, 28, 29, 30, 31, 32, 33, 34, 35, 36, 37, 38, 39, 40, 41, 42, 43, 44, 45, 46, 47, 48, 49, 66, 67, 68, 69, 70, 71, 72, 73] (by decide +kernel) (by decide +kernel)
set_option maxRecDepth 20000 in
theorem gX11_asked_X0_best : GoodIn wsX11_asked (wsV RX11 328 RX0 yX0_best wsX0_best) := goodIn_app (goodIn_of _ (by decide +kernel)) ggX11_asked_X0_best
set_option maxRecDepth 20000 in
theorem ggX11_asked_X0_questions : GoodIn wsX11_asked wsX0_questions := goodIn_r _ [53, 7, 8, 9, 5, 10, 11, 12, 13, 14, 15, 16, 17, 18, 19, 20, 21, 22, 23, 24, 25, 26, 27, 28, 29, 30, 31, 32, 33, 34, 35, 36, 37, 38, 39, 40, 41, 42, 43, 44, 45, 46, 47, 48, 49, 66, 67, 68, 69, 70, 71, 72, 73] (by decide +kernel) (by decide +kernel)
set_option maxRecDepth 20000 in
theorem gX11_asked_X0_questions : GoodIn wsX11_asked (wsV RX11 331 RX0 yX0_questions wsX0_questions) := goodIn_app (goodIn_of _ (by decide +kernel)) ggX11_asked_X0_questions
theorem dX11_asked_0 : decode cX11_asked 0 = .ok (.iload_n 1, 1) := by decide +kernel
theorem dX11_asked_1 : decode cX11_asked 1 = .ok (.iconst 1, 1) := by decide +kernel
theorem dX11_asked_2 : decode cX11_asked 2 = .ok (.if_icmp .lt 10, 3) := by decide +kernel
theorem dX11_asked_5 : decode cX11_asked 5 = .ok (.iload_n 1, 1) := by decide +kernel
theorem dX11_asked_6 : decode cX11_asked 6 = .ok (.sipush 4096, 3) := by decide +kernel
theorem dX11_asked_9 : decode cX11_asked 9 = .ok (.if_icmp .lt 5, 3) := by decide +kernel
theorem dX11_asked_12 : decode cX11_asked 12 = .ok (.iconst (-1), 1) := by decide +kernel
theorem dX11_asked_13 : decode cX11_asked 13 = .ok (.ireturn, 1) := by decide +kernel
theorem dX11_asked_14 : decode cX11_asked 14 = .ok (.iload_n 2, 1) := by decide +kernel
theorem dX11_asked_15 : decode cX11_asked 15 = .ok (.ifCond .eq 14, 3) := by decide +kernel
theorem dX11_asked_18 : decode cX11_asked 18 = .ok (.aload_n 0, 1) := by decide +kernel
theorem dX11_asked_19 : decode cX11_asked 19 = .ok (.getfield 74, 3) := by decide +kernel
theorem dX11_asked_22 : decode cX11_asked 22 = .ok (.iload_n 1, 1) := by decide +kernel
theorem dX11_asked_23 : decode cX11_asked 23 = .ok (.invokevirtual 328, 3) := by decide +kernel
theorem dX11_asked_26 : decode cX11_asked 26 = .ok (.goto 11, 3) := by decide +kernel
theorem dX11_asked_29 : decode cX11_asked 29 = .ok (.aload_n 0, 1) := by decide +kernel
theorem dX11_asked_30 : decode cX11_asked 30 = .ok (.getfield 74, 3) := by decide +kernel
theorem dX11_asked_33 : decode cX11_asked 33 = .ok (.iload_n 1, 1) := by decide +kernel
theorem dX11_asked_34 : decode cX11_asked 34 = .ok (.invokevirtual 331, 3) := by decide +kernel
theorem dX11_asked_37 : decode cX11_asked 37 = .ok (.ireturn, 1) := by decide +kernel
set_option maxRecDepth 20000 in
theorem ggX11_cheap_X11_areWants : GoodIn wsX11_cheap wsX11_areWants := goodIn_r _ [8, 9, 10, 7, 11] (by decide +kernel) (by decide +kernel)
set_option maxRecDepth 20000 in
theorem gX11_cheap_X11_areWants : GoodIn wsX11_cheap (va_wsS RX11 285 yX11_areWants wsX11_areWants) := goodIn_app (goodIn_of _ (by decide +kernel)) ggX11_cheap_X11_areWants
set_option maxRecDepth 20000 in
theorem ggX11_cheap_X11_has : GoodIn wsX11_cheap wsX11_has := goodIn_r _ [14] (by decide +kernel) (by decide +kernel)
set_option maxRecDepth 20000 in
theorem gX11_cheap_X11_has : GoodIn wsX11_cheap (va_wsS RX11 334 yX11_has wsX11_has) := goodIn_app (goodIn_of _ (by decide +kernel)) ggX11_cheap_X11_has
set_option maxRecDepth 20000 in
theorem ggX11_cheap_X6_leastCut : GoodIn wsX11_cheap wsX6_leastCut := goodIn_r _ [19, 20, 21, 22, 23, 18, 24, 10, 7, 11, 25, 26, 27, 28, 29, 30, 13, 14, 31, 32, 33, 34, 35, 36, 37, 38, 39, 40, 41, 42, 43, 44, 45, 46, 47, 78, 79, 80, 81, 82, 73, 74, 75, 76, 77] (by decide +kernel) (by decide +kernel)
set_option maxRecDepth 20000 in
theorem gX11_cheap_X6_leastCut : GoodIn wsX11_cheap (wsV RX11 337 RX6 yX6_leastCut wsX6_leastCut) := goodIn_app (goodIn_of _ (by decide +kernel)) ggX11_cheap_X6_leastCut
set_option maxRecDepth 20000 in
theorem ggX11_cheap_X10_painOf : GoodIn wsX11_cheap wsX10_painOf := goodIn_r _ [34, 35, 13, 7, 14, 73, 74, 75, 76, 77] (by decide +kernel) (by decide +kernel)
set_option maxRecDepth 20000 in
theorem gX11_cheap_X10_painOf : GoodIn wsX11_cheap (wsV RX11 340 RX10 yX10_painOf wsX10_painOf) := goodIn_app (goodIn_of _ (by decide +kernel)) ggX11_cheap_X10_painOf
theorem dX11_cheap_0 : decode cX11_cheap 0 = .ok (.iload_n 1, 1) := by decide +kernel
theorem dX11_cheap_1 : decode cX11_cheap 1 = .ok (.iload_n 2, 1) := by decide +kernel
theorem dX11_cheap_2 : decode cX11_cheap 2 = .ok (.invokestatic 285, 3) := by decide +kernel
theorem dX11_cheap_5 : decode cX11_cheap 5 = .ok (.ifCond .eq 27, 3) := by decide +kernel
theorem dX11_cheap_8 : decode cX11_cheap 8 = .ok (.iload_n 1, 1) := by decide +kernel
theorem dX11_cheap_9 : decode cX11_cheap 9 = .ok (.iload_n 2, 1) := by decide +kernel
theorem dX11_cheap_10 : decode cX11_cheap 10 = .ok (.if_icmp .eq 22, 3) := by decide +kernel
theorem dX11_cheap_13 : decode cX11_cheap 13 = .ok (.aload_n 0, 1) := by decide +kernel
theorem dX11_cheap_14 : decode cX11_cheap 14 = .ok (.getfield 12, 3) := by decide +kernel
theorem dX11_cheap_17 : decode cX11_cheap 17 = .ok (.getfield 44, 3) := by decide +kernel
theorem dX11_cheap_20 : decode cX11_cheap 20 = .ok (.getfield 256, 3) := by decide +kernel
theorem dX11_cheap_23 : decode cX11_cheap 23 = .ok (.iload_n 1, 1) := by decide +kernel
theorem dX11_cheap_24 : decode cX11_cheap 24 = .ok (.iaload, 1) := by decide +kernel
theorem dX11_cheap_25 : decode cX11_cheap 25 = .ok (.iload_n 2, 1) := by decide +kernel
theorem dX11_cheap_26 : decode cX11_cheap 26 = .ok (.invokestatic 334, 3) := by decide +kernel
theorem dX11_cheap_29 : decode cX11_cheap 29 = .ok (.ifCond .eq 5, 3) := by decide +kernel
theorem dX11_cheap_32 : decode cX11_cheap 32 = .ok (.iconst (-1), 1) := by decide +kernel
theorem dX11_cheap_33 : decode cX11_cheap 33 = .ok (.ireturn, 1) := by decide +kernel
theorem dX11_cheap_34 : decode cX11_cheap 34 = .ok (.aload_n 0, 1) := by decide +kernel
theorem dX11_cheap_35 : decode cX11_cheap 35 = .ok (.getfield 67, 3) := by decide +kernel
theorem dX11_cheap_38 : decode cX11_cheap 38 = .ok (.iload_n 1, 1) := by decide +kernel
theorem dX11_cheap_39 : decode cX11_cheap 39 = .ok (.iload_n 2, 1) := by decide +kernel
theorem dX11_cheap_40 : decode cX11_cheap 40 = .ok (.invokevirtual 337, 3) := by decide +kernel
theorem dX11_cheap_43 : decode cX11_cheap 43 = .ok (.istore 4, 2) := by decide +kernel
theorem dX11_cheap_45 : decode cX11_cheap 45 = .ok (.iload_n 3, 1) := by decide +kernel
theorem dX11_cheap_46 : decode cX11_cheap 46 = .ok (.ifCond .eq 18, 3) := by decide +kernel
theorem dX11_cheap_49 : decode cX11_cheap 49 = .ok (.aload_n 0, 1) := by decide +kernel
theorem dX11_cheap_50 : decode cX11_cheap 50 = .ok (.getfield 12, 3) := by decide +kernel
theorem dX11_cheap_53 : decode cX11_cheap 53 = .ok (.getfield 44, 3) := by decide +kernel
theorem dX11_cheap_56 : decode cX11_cheap 56 = .ok (.iload 4, 2) := by decide +kernel
theorem dX11_cheap_58 : decode cX11_cheap 58 = .ok (.invokevirtual 340, 3) := by decide +kernel
theorem dX11_cheap_61 : decode cX11_cheap 61 = .ok (.goto 5, 3) := by decide +kernel
theorem dX11_cheap_64 : decode cX11_cheap 64 = .ok (.iload 4, 2) := by decide +kernel
theorem dX11_cheap_66 : decode cX11_cheap 66 = .ok (.ireturn, 1) := by decide +kernel
set_option maxRecDepth 20000 in
theorem ggX11_offers_X11_isPerson : GoodIn wsX11_offers wsX11_isPerson := goodIn_r _ [6] (by decide +kernel) (by decide +kernel)
set_option maxRecDepth 20000 in
theorem gX11_offers_X11_isPerson : GoodIn wsX11_offers (va_wsS RX11 343 yX11_isPerson wsX11_isPerson) := goodIn_app (goodIn_of _ (by decide +kernel)) ggX11_offers_X11_isPerson
set_option maxRecDepth 20000 in
theorem ggX11_offers_X11_has : GoodIn wsX11_offers wsX11_has := goodIn_r _ [9] (by decide +kernel) (by decide +kernel)
set_option maxRecDepth 20000 in
theorem gX11_offers_X11_has : GoodIn wsX11_offers (va_wsS RX11 334 yX11_has wsX11_has) := goodIn_app (goodIn_of _ (by decide +kernel)) ggX11_offers_X11_has
theorem dX11_offers_0 : decode cX11_offers 0 = .ok (.iload_n 1, 1) := by decide +kernel
theorem dX11_offers_1 : decode cX11_offers 1 = .ok (.invokestatic 343, 3) := by decide +kernel
theorem dX11_offers_4 : decode cX11_offers 4 = .ok (.ifCond .eq 32, 3) := by decide +kernel
theorem dX11_offers_7 : decode cX11_offers 7 = .ok (.iload_n 2, 1) := by decide +kernel
theorem dX11_offers_8 : decode cX11_offers 8 = .ok (.invokestatic 343, 3) := by decide +kernel
theorem dX11_offers_11 : decode cX11_offers 11 = .ok (.ifCond .eq 25, 3) := by decide +kernel
theorem dX11_offers_14 : decode cX11_offers 14 = .ok (.iload_n 1, 1) := by decide +kernel
theorem dX11_offers_15 : decode cX11_offers 15 = .ok (.iload_n 2, 1) := by decide +kernel
theorem dX11_offers_16 : decode cX11_offers 16 = .ok (.if_icmp .eq 20, 3) := by decide +kernel
theorem dX11_offers_19 : decode cX11_offers 19 = .ok (.aload_n 0, 1) := by decide +kernel
theorem dX11_offers_20 : decode cX11_offers 20 = .ok (.getfield 12, 3) := by decide +kernel
theorem dX11_offers_23 : decode cX11_offers 23 = .ok (.getfield 346, 3) := by decide +kernel
theorem dX11_offers_26 : decode cX11_offers 26 = .ok (.iload_n 1, 1) := by decide +kernel
theorem dX11_offers_27 : decode cX11_offers 27 = .ok (.iaload, 1) := by decide +kernel
theorem dX11_offers_28 : decode cX11_offers 28 = .ok (.iload_n 2, 1) := by decide +kernel
theorem dX11_offers_29 : decode cX11_offers 29 = .ok (.invokestatic 334, 3) := by decide +kernel
theorem dX11_offers_32 : decode cX11_offers 32 = .ok (.iload_n 3, 1) := by decide +kernel
theorem dX11_offers_33 : decode cX11_offers 33 = .ok (.if_icmp .ne 5, 3) := by decide +kernel
theorem dX11_offers_36 : decode cX11_offers 36 = .ok (.iconst 0, 1) := by decide +kernel
theorem dX11_offers_37 : decode cX11_offers 37 = .ok (.ireturn, 1) := by decide +kernel
theorem dX11_offers_38 : decode cX11_offers 38 = .ok (.aload_n 0, 1) := by decide +kernel
theorem dX11_offers_39 : decode cX11_offers 39 = .ok (.getfield 12, 3) := by decide +kernel
theorem dX11_offers_42 : decode cX11_offers 42 = .ok (.getfield 346, 3) := by decide +kernel
theorem dX11_offers_45 : decode cX11_offers 45 = .ok (.iload_n 1, 1) := by decide +kernel
theorem dX11_offers_46 : decode cX11_offers 46 = .ok (.dup2, 1) := by decide +kernel
theorem dX11_offers_47 : decode cX11_offers 47 = .ok (.iaload, 1) := by decide +kernel
theorem dX11_offers_48 : decode cX11_offers 48 = .ok (.iconst 1, 1) := by decide +kernel
theorem dX11_offers_49 : decode cX11_offers 49 = .ok (.iload_n 2, 1) := by decide +kernel
theorem dX11_offers_50 : decode cX11_offers 50 = .ok (.ishl, 1) := by decide +kernel
theorem dX11_offers_51 : decode cX11_offers 51 = .ok (.ixor, 1) := by decide +kernel
theorem dX11_offers_52 : decode cX11_offers 52 = .ok (.iastore, 1) := by decide +kernel
theorem dX11_offers_53 : decode cX11_offers 53 = .ok (.iconst 1, 1) := by decide +kernel
theorem dX11_offers_54 : decode cX11_offers 54 = .ok (.ireturn, 1) := by decide +kernel
set_option maxRecDepth 20000 in
theorem ggX11_rings_X3_inRings : GoodIn wsX11_rings wsX3_inRings := goodIn_r _ [6, 7, 8, 9, 10, 5, 11, 12, 13, 14, 15, 16, 17, 18, 19, 20, 21, 22, 23, 24, 25, 26, 27, 28, 29, 30, 31, 32, 33, 34, 35, 36, 37, 38, 39, 40, 60, 61, 62, 63, 64, 65, 66, 67, 68, 69, 70, 71, 72, 73, 74, 75] (by decide +kernel) (by decide +kernel)
set_option maxRecDepth 20000 in
theorem gX11_rings_X3_inRings : GoodIn wsX11_rings (wsV RX11 349 RX3 yX3_inRings wsX3_inRings) := goodIn_app (goodIn_of _ (by decide +kernel)) ggX11_rings_X3_inRings
set_option maxRecDepth 20000 in
theorem ggX11_rings_J6_bitCount_0f7a4 : GoodIn wsX11_rings wsJ6_bitCount_0f7a4 := goodIn_r _ [44, 45, 46, 47] (by decide +kernel) (by decide +kernel)
set_option maxRecDepth 20000 in
theorem gX11_rings_J6_bitCount_0f7a4 : GoodIn wsX11_rings (va_wsS RX11 315 yJ6_bitCount_0f7a4 wsJ6_bitCount_0f7a4) := goodIn_app (goodIn_of _ (by decide +kernel)) ggX11_rings_J6_bitCount_0f7a4
theorem dX11_rings_0 : decode cX11_rings 0 = .ok (.aload_n 0, 1) := by decide +kernel
theorem dX11_rings_1 : decode cX11_rings 1 = .ok (.getfield 83, 3) := by decide +kernel
theorem dX11_rings_4 : decode cX11_rings 4 = .ok (.invokevirtual 349, 3) := by decide +kernel
theorem dX11_rings_7 : decode cX11_rings 7 = .ok (.istore_n 2, 1) := by decide +kernel
theorem dX11_rings_8 : decode cX11_rings 8 = .ok (.iload_n 1, 1) := by decide +kernel
theorem dX11_rings_9 : decode cX11_rings 9 = .ok (.ifCond .eq 10, 3) := by decide +kernel
theorem dX11_rings_12 : decode cX11_rings 12 = .ok (.iload_n 2, 1) := by decide +kernel
theorem dX11_rings_13 : decode cX11_rings 13 = .ok (.invokestatic 315, 3) := by decide +kernel
theorem dX11_rings_16 : decode cX11_rings 16 = .ok (.goto 4, 3) := by decide +kernel
theorem dX11_rings_19 : decode cX11_rings 19 = .ok (.iload_n 2, 1) := by decide +kernel
theorem dX11_rings_20 : decode cX11_rings 20 = .ok (.ireturn, 1) := by decide +kernel
set_option maxRecDepth 20000 in
theorem ggX11_ring_X11_isPerson : GoodIn wsX11_ring wsX11_isPerson := goodIn_r _ [5] (by decide +kernel) (by decide +kernel)
set_option maxRecDepth 20000 in
theorem gX11_ring_X11_isPerson : GoodIn wsX11_ring (va_wsS RX11 343 yX11_isPerson wsX11_isPerson) := goodIn_app (goodIn_of _ (by decide +kernel)) ggX11_ring_X11_isPerson
set_option maxRecDepth 20000 in
theorem ggX11_ring_X3_giver : GoodIn wsX11_ring wsX3_giver := goodIn_r _ [10, 11, 12, 13, 14, 9, 15, 16, 17, 18, 19, 20, 21, 22, 23, 24, 25, 26, 27, 28, 29, 30, 31, 32, 33, 34, 35, 36, 4, 37, 38, 39, 40, 41, 3, 5, 54, 55, 56, 57, 58, 59, 60, 61, 62, 63, 64, 65, 66, 67, 68, 69] (by decide +kernel) (by decide +kernel)
set_option maxRecDepth 20000 in
theorem gX11_ring_X3_giver : GoodIn wsX11_ring (wsV RX11 352 RX3 yX3_giver wsX3_giver) := goodIn_app (goodIn_of _ (by decide +kernel)) ggX11_ring_X3_giver
theorem dX11_ring_0 : decode cX11_ring 0 = .ok (.iload_n 1, 1) := by decide +kernel
theorem dX11_ring_1 : decode cX11_ring 1 = .ok (.invokestatic 343, 3) := by decide +kernel
theorem dX11_ring_4 : decode cX11_ring 4 = .ok (.ifCond .eq 14, 3) := by decide +kernel
theorem dX11_ring_7 : decode cX11_ring 7 = .ok (.aload_n 0, 1) := by decide +kernel
theorem dX11_ring_8 : decode cX11_ring 8 = .ok (.getfield 83, 3) := by decide +kernel
theorem dX11_ring_11 : decode cX11_ring 11 = .ok (.iload_n 1, 1) := by decide +kernel
theorem dX11_ring_12 : decode cX11_ring 12 = .ok (.invokevirtual 352, 3) := by decide +kernel
theorem dX11_ring_15 : decode cX11_ring 15 = .ok (.goto 4, 3) := by decide +kernel
theorem dX11_ring_18 : decode cX11_ring 18 = .ok (.iconst (-1), 1) := by decide +kernel
theorem dX11_ring_19 : decode cX11_ring 19 = .ok (.ireturn, 1) := by decide +kernel
set_option maxRecDepth 20000 in
theorem ggX11_grant_X11_isPerson : GoodIn wsX11_grant wsX11_isPerson := goodIn_r _ [7] (by decide +kernel) (by decide +kernel)
set_option maxRecDepth 20000 in
theorem gX11_grant_X11_isPerson : GoodIn wsX11_grant (va_wsS RX11 343 yX11_isPerson wsX11_isPerson) := goodIn_app (goodIn_of _ (by decide +kernel)) ggX11_grant_X11_isPerson
theorem dX11_grant_0 : decode cX11_grant 0 = .ok (.iload_n 1, 1) := by decide +kernel
theorem dX11_grant_1 : decode cX11_grant 1 = .ok (.invokestatic 343, 3) := by decide +kernel
theorem dX11_grant_4 : decode cX11_grant 4 = .ok (.ifCond .eq 23, 3) := by decide +kernel
theorem dX11_grant_7 : decode cX11_grant 7 = .ok (.iload_n 2, 1) := by decide +kernel
theorem dX11_grant_8 : decode cX11_grant 8 = .ok (.ifCond .lt 19, 3) := by decide +kernel
theorem dX11_grant_11 : decode cX11_grant 11 = .ok (.iload_n 2, 1) := by decide +kernel
theorem dX11_grant_12 : decode cX11_grant 12 = .ok (.bipush 10, 2) := by decide +kernel
theorem dX11_grant_14 : decode cX11_grant 14 = .ok (.if_icmp .gt 13, 3) := by decide +kernel
theorem dX11_grant_17 : decode cX11_grant 17 = .ok (.iload_n 3, 1) := by decide +kernel
theorem dX11_grant_18 : decode cX11_grant 18 = .ok (.ifCond .lt 9, 3) := by decide +kernel
theorem dX11_grant_21 : decode cX11_grant 21 = .ok (.iload_n 3, 1) := by decide +kernel
theorem dX11_grant_22 : decode cX11_grant 22 = .ok (.bipush 99, 2) := by decide +kernel
theorem dX11_grant_24 : decode cX11_grant 24 = .ok (.if_icmp .le 5, 3) := by decide +kernel
theorem dX11_grant_27 : decode cX11_grant 27 = .ok (.iconst 0, 1) := by decide +kernel
theorem dX11_grant_28 : decode cX11_grant 28 = .ok (.ireturn, 1) := by decide +kernel
theorem dX11_grant_29 : decode cX11_grant 29 = .ok (.aload_n 0, 1) := by decide +kernel
theorem dX11_grant_30 : decode cX11_grant 30 = .ok (.getfield 12, 3) := by decide +kernel
theorem dX11_grant_33 : decode cX11_grant 33 = .ok (.getfield 355, 3) := by decide +kernel
theorem dX11_grant_36 : decode cX11_grant 36 = .ok (.iload_n 1, 1) := by decide +kernel
theorem dX11_grant_37 : decode cX11_grant 37 = .ok (.iload_n 2, 1) := by decide +kernel
theorem dX11_grant_38 : decode cX11_grant 38 = .ok (.iastore, 1) := by decide +kernel
theorem dX11_grant_39 : decode cX11_grant 39 = .ok (.aload_n 0, 1) := by decide +kernel
theorem dX11_grant_40 : decode cX11_grant 40 = .ok (.getfield 12, 3) := by decide +kernel
theorem dX11_grant_43 : decode cX11_grant 43 = .ok (.getfield 358, 3) := by decide +kernel
theorem dX11_grant_46 : decode cX11_grant 46 = .ok (.iload_n 1, 1) := by decide +kernel
theorem dX11_grant_47 : decode cX11_grant 47 = .ok (.iload_n 3, 1) := by decide +kernel
theorem dX11_grant_48 : decode cX11_grant 48 = .ok (.iastore, 1) := by decide +kernel
theorem dX11_grant_49 : decode cX11_grant 49 = .ok (.iconst 1, 1) := by decide +kernel
theorem dX11_grant_50 : decode cX11_grant 50 = .ok (.ireturn, 1) := by decide +kernel
set_option maxRecDepth 20000 in
theorem ggX11_budget_X3_chance : GoodIn wsX11_budget wsX3_chance := goodIn_r _ [11, 12, 13, 14, 10, 15, 16, 17, 18, 19, 20, 21, 22, 23, 24, 25, 26, 27, 48, 49, 50, 51, 52, 53, 54, 55, 56, 57, 58, 59, 60, 61, 62, 63, 64, 65, 66, 67, 68, 69, 70, 71, 72, 73, 74, 75] (by decide +kernel) (by decide +kernel)
set_option maxRecDepth 20000 in
theorem gX11_budget_X3_chance : GoodIn wsX11_budget (wsV RX11 361 RX3 yX3_chance wsX3_chance) := goodIn_app (goodIn_of _ (by decide +kernel)) ggX11_budget_X3_chance
set_option maxRecDepth 20000 in
theorem ggX11_budget_X3_certain : GoodIn wsX11_budget wsX3_certain := goodIn_r _ [31, 16, 25, 26, 32, 48, 49, 50, 51, 52, 53, 54, 55, 56, 57, 58, 59, 60, 61, 62, 63, 64, 65, 66, 67, 68, 69, 70, 71, 72, 73, 74, 75] (by decide +kernel) (by decide +kernel)
set_option maxRecDepth 20000 in
theorem gX11_budget_X3_certain : GoodIn wsX11_budget (wsV RX11 365 RX3 yX3_certain wsX3_certain) := goodIn_app (goodIn_of _ (by decide +kernel)) ggX11_budget_X3_certain
set_option maxRecDepth 20000 in
theorem ggX11_budget_X11_greatestDivisor : GoodIn wsX11_budget wsX11_greatestDivisor := goodIn_r _ [35] (by decide +kernel) (by decide +kernel)
set_option maxRecDepth 20000 in
theorem gX11_budget_X11_greatestDivisor : GoodIn wsX11_budget (va_wsS RX11 369 yX11_greatestDivisor wsX11_greatestDivisor) := goodIn_app (goodIn_of _ (by decide +kernel)) ggX11_budget_X11_greatestDivisor
theorem dX11_budget_0 : decode cX11_budget 0 = .ok (.iload_n 1, 1) := by decide +kernel
theorem dX11_budget_1 : decode cX11_budget 1 = .ok (.ifCond .lt 10, 3) := by decide +kernel
theorem dX11_budget_4 : decode cX11_budget 4 = .ok (.iload_n 1, 1) := by decide +kernel
theorem dX11_budget_5 : decode cX11_budget 5 = .ok (.sipush 495, 3) := by decide +kernel
theorem dX11_budget_8 : decode cX11_budget 8 = .ok (.if_icmp .le 7, 3) := by decide +kernel
theorem dX11_budget_11 : decode cX11_budget 11 = .ok (.ldc2_w 292, 3) := by decide +kernel
theorem dX11_budget_14 : decode cX11_budget 14 = .ok (.lreturn, 1) := by decide +kernel
theorem dX11_budget_15 : decode cX11_budget 15 = .ok (.aload_n 0, 1) := by decide +kernel
theorem dX11_budget_16 : decode cX11_budget 16 = .ok (.getfield 83, 3) := by decide +kernel
theorem dX11_budget_19 : decode cX11_budget 19 = .ok (.iload_n 1, 1) := by decide +kernel
theorem dX11_budget_20 : decode cX11_budget 20 = .ok (.invokevirtual 361, 3) := by decide +kernel
theorem dX11_budget_23 : decode cX11_budget 23 = .ok (.lstore_n 3, 1) := by decide +kernel
theorem dX11_budget_24 : decode cX11_budget 24 = .ok (.aload_n 0, 1) := by decide +kernel
theorem dX11_budget_25 : decode cX11_budget 25 = .ok (.getfield 83, 3) := by decide +kernel
theorem dX11_budget_28 : decode cX11_budget 28 = .ok (.invokevirtual 365, 3) := by decide +kernel
theorem dX11_budget_31 : decode cX11_budget 31 = .ok (.lstore 5, 2) := by decide +kernel
theorem dX11_budget_33 : decode cX11_budget 33 = .ok (.lconst 1, 1) := by decide +kernel
theorem dX11_budget_34 : decode cX11_budget 34 = .ok (.lload_n 3, 1) := by decide +kernel
theorem dX11_budget_35 : decode cX11_budget 35 = .ok (.lload 5, 2) := by decide +kernel
theorem dX11_budget_37 : decode cX11_budget 37 = .ok (.invokestatic 369, 3) := by decide +kernel
theorem dX11_budget_40 : decode cX11_budget 40 = .ok (.invokestatic 373, 3) := by decide +kernel
theorem dX11_budget_43 : decode cX11_budget 43 = .ok (.lstore 7, 2) := by decide +kernel
theorem dX11_budget_45 : decode cX11_budget 45 = .ok (.iload_n 2, 1) := by decide +kernel
theorem dX11_budget_46 : decode cX11_budget 46 = .ok (.ifCond .eq 11, 3) := by decide +kernel
theorem dX11_budget_49 : decode cX11_budget 49 = .ok (.lload 5, 2) := by decide +kernel
theorem dX11_budget_51 : decode cX11_budget 51 = .ok (.lload 7, 2) := by decide +kernel
theorem dX11_budget_53 : decode cX11_budget 53 = .ok (.ldiv, 1) := by decide +kernel
theorem dX11_budget_54 : decode cX11_budget 54 = .ok (.goto 7, 3) := by decide +kernel
theorem dX11_budget_57 : decode cX11_budget 57 = .ok (.lload_n 3, 1) := by decide +kernel
theorem dX11_budget_58 : decode cX11_budget 58 = .ok (.lload 7, 2) := by decide +kernel
theorem dX11_budget_60 : decode cX11_budget 60 = .ok (.ldiv, 1) := by decide +kernel
theorem dX11_budget_61 : decode cX11_budget 61 = .ok (.lreturn, 1) := by decide +kernel
set_option maxRecDepth 20000 in
theorem ggX11_enough_X3_leastCost : GoodIn wsX11_enough wsX3_leastCost := goodIn_r _ [6, 7, 8, 9, 10, 5, 11, 12, 13, 14, 15, 16, 17, 18, 19, 20, 21, 22, 23, 24, 25, 26, 27, 28, 29, 30, 31, 44, 45, 46, 47, 48, 49, 50, 51, 52, 53, 54, 55, 56, 57, 58, 59, 60, 61, 62, 63, 64, 65, 66, 67, 68, 69, 70, 71] (by decide +kernel) (by decide +kernel)
set_option maxRecDepth 20000 in
theorem gX11_enough_X3_leastCost : GoodIn wsX11_enough (wsV RX11 375 RX3 yX3_leastCost wsX3_leastCost) := goodIn_app (goodIn_of _ (by decide +kernel)) ggX11_enough_X3_leastCost
theorem dX11_enough_0 : decode cX11_enough 0 = .ok (.iload_n 1, 1) := by decide +kernel
theorem dX11_enough_1 : decode cX11_enough 1 = .ok (.iconst 1, 1) := by decide +kernel
theorem dX11_enough_2 : decode cX11_enough 2 = .ok (.if_icmp .lt 9, 3) := by decide +kernel
theorem dX11_enough_5 : decode cX11_enough 5 = .ok (.iload_n 1, 1) := by decide +kernel
theorem dX11_enough_6 : decode cX11_enough 6 = .ok (.bipush 10, 2) := by decide +kernel
theorem dX11_enough_8 : decode cX11_enough 8 = .ok (.if_icmp .le 7, 3) := by decide +kernel
theorem dX11_enough_11 : decode cX11_enough 11 = .ok (.iconst (-1), 1) := by decide +kernel
theorem dX11_enough_12 : decode cX11_enough 12 = .ok (.goto 11, 3) := by decide +kernel
theorem dX11_enough_15 : decode cX11_enough 15 = .ok (.aload_n 0, 1) := by decide +kernel
theorem dX11_enough_16 : decode cX11_enough 16 = .ok (.getfield 83, 3) := by decide +kernel
theorem dX11_enough_19 : decode cX11_enough 19 = .ok (.iload_n 1, 1) := by decide +kernel
theorem dX11_enough_20 : decode cX11_enough 20 = .ok (.invokevirtual 375, 3) := by decide +kernel
theorem dX11_enough_23 : decode cX11_enough 23 = .ok (.ireturn, 1) := by decide +kernel
set_option maxRecDepth 20000 in
theorem ggX11_said_X4_isThere : GoodIn wsX11_said wsX4_isThere := goodIn_r _ [8, 9, 42, 43, 44, 45, 46, 47, 48, 49, 50, 51, 52, 53] (by decide +kernel) (by decide +kernel)
set_option maxRecDepth 20000 in
theorem gX11_said_X4_isThere : GoodIn wsX11_said (wsV RX11 227 RX4 yX4_isThere wsX4_isThere) := goodIn_app (goodIn_of _ (by decide +kernel)) ggX11_said_X4_isThere
set_option maxRecDepth 20000 in
theorem ggX11_said_X1_note : GoodIn wsX11_said wsX1_note := goodIn_r _ [14, 15, 16, 17, 30, 31, 32, 33, 34, 35, 36, 37, 38, 39, 40, 41] (by decide +kernel) (by decide +kernel)
set_option maxRecDepth 20000 in
theorem gX11_said_X1_note : GoodIn wsX11_said (wsV RX11 381 RX1 yX1_note wsX1_note) := goodIn_app (goodIn_of _ (by decide +kernel)) ggX11_said_X1_note
theorem dX11_said_0 : decode cX11_said 0 = .ok (.iload_n 1, 1) := by decide +kernel
theorem dX11_said_1 : decode cX11_said 1 = .ok (.iconst (-1), 1) := by decide +kernel
theorem dX11_said_2 : decode cX11_said 2 = .ok (.if_icmp .ne 13, 3) := by decide +kernel
theorem dX11_said_5 : decode cX11_said 5 = .ok (.aload_n 0, 1) := by decide +kernel
theorem dX11_said_6 : decode cX11_said 6 = .ok (.getfield 12, 3) := by decide +kernel
theorem dX11_said_9 : decode cX11_said 9 = .ok (.iconst 0, 1) := by decide +kernel
theorem dX11_said_10 : decode cX11_said 10 = .ok (.putfield 378, 3) := by decide +kernel
theorem dX11_said_13 : decode cX11_said 13 = .ok (.iconst 0, 1) := by decide +kernel
theorem dX11_said_14 : decode cX11_said 14 = .ok (.ireturn, 1) := by decide +kernel
theorem dX11_said_15 : decode cX11_said 15 = .ok (.aload_n 0, 1) := by decide +kernel
theorem dX11_said_16 : decode cX11_said 16 = .ok (.getfield 12, 3) := by decide +kernel
theorem dX11_said_19 : decode cX11_said 19 = .ok (.getfield 139, 3) := by decide +kernel
theorem dX11_said_22 : decode cX11_said 22 = .ok (.iload_n 1, 1) := by decide +kernel
theorem dX11_said_23 : decode cX11_said 23 = .ok (.invokevirtual 227, 3) := by decide +kernel
theorem dX11_said_26 : decode cX11_said 26 = .ok (.ifCond .eq 17, 3) := by decide +kernel
theorem dX11_said_29 : decode cX11_said 29 = .ok (.iload_n 2, 1) := by decide +kernel
theorem dX11_said_30 : decode cX11_said 30 = .ok (.sipush (-999), 3) := by decide +kernel
theorem dX11_said_33 : decode cX11_said 33 = .ok (.if_icmp .lt 10, 3) := by decide +kernel
theorem dX11_said_36 : decode cX11_said 36 = .ok (.iload_n 2, 1) := by decide +kernel
theorem dX11_said_37 : decode cX11_said 37 = .ok (.sipush 999, 3) := by decide +kernel
theorem dX11_said_40 : decode cX11_said 40 = .ok (.if_icmp .le 6, 3) := by decide +kernel
theorem dX11_said_43 : decode cX11_said 43 = .ok (.bipush (-2), 2) := by decide +kernel
theorem dX11_said_45 : decode cX11_said 45 = .ok (.ireturn, 1) := by decide +kernel
theorem dX11_said_46 : decode cX11_said 46 = .ok (.aload_n 0, 1) := by decide +kernel
theorem dX11_said_47 : decode cX11_said 47 = .ok (.getfield 12, 3) := by decide +kernel
theorem dX11_said_50 : decode cX11_said 50 = .ok (.iload_n 1, 1) := by decide +kernel
theorem dX11_said_51 : decode cX11_said 51 = .ok (.iload_n 2, 1) := by decide +kernel
theorem dX11_said_52 : decode cX11_said 52 = .ok (.invokevirtual 381, 3) := by decide +kernel
theorem dX11_said_55 : decode cX11_said 55 = .ok (.ireturn, 1) := by decide +kernel
set_option maxRecDepth 20000 in
theorem ggX11_whose_X11_agrees : GoodIn wsX11_whose wsX11_agrees := goodIn_r _ [8, 1, 9, 10, 11, 12, 13, 14, 15, 16, 17, 18, 19, 20, 21, 22, 23, 24, 25, 26, 27, 28, 29, 30, 31, 32, 33, 34, 35, 36, 37, 38, 39, 40, 41, 42, 43, 44, 45, 46, 47, 48, 49, 50, 51, 52, 7, 53, 54, 55, 56, 57, 58, 59, 60, 61, 62, 63, 64, 65, 66, 67, 68, 69, 70, 71, 72, 73, 74, 75, 76, 77, 78, 79, 80, 81, 82, 83, 84, 85, 86, 87, 88, 89, 90, 91, 92, 93, 94, 95, 96, 97, 98, 99, 100, 101, 102, 103, 104, 105, 106, 107, 108, 109, 110, 111, 112, 113, 114, 115, 116, 117, 118, 119, 120, 121, 122, 123, 124, 125, 126, 127, 128, 129, 130, 131, 132, 133, 134, 135, 136, 137, 138, 139, 140, 141, 142, 143] (by decide +kernel) (by decide +kernel)
set_option maxRecDepth 20000 in
theorem gX11_whose_X11_agrees : GoodIn wsX11_whose (wsV RX11 384 RX11 yX11_agrees wsX11_agrees) := goodIn_app (goodIn_of _ (by decide +kernel)) ggX11_whose_X11_agrees
theorem dX11_whose_0 : decode cX11_whose 0 = .ok (.iconst 0, 1) := by decide +kernel
theorem dX11_whose_1 : decode cX11_whose 1 = .ok (.istore_n 1, 1) := by decide +kernel
theorem dX11_whose_2 : decode cX11_whose 2 = .ok (.iconst 0, 1) := by decide +kernel
theorem dX11_whose_3 : decode cX11_whose 3 = .ok (.istore_n 2, 1) := by decide +kernel
theorem dX11_whose_4 : decode cX11_whose 4 = .ok (.iload_n 2, 1) := by decide +kernel
theorem dX11_whose_5 : decode cX11_whose 5 = .ok (.iconst 4, 1) := by decide +kernel
theorem dX11_whose_6 : decode cX11_whose 6 = .ok (.if_icmp .ge 39, 3) := by decide +kernel
theorem dX11_whose_9 : decode cX11_whose 9 = .ok (.iload_n 2, 1) := by decide +kernel
theorem dX11_whose_10 : decode cX11_whose 10 = .ok (.aload_n 0, 1) := by decide +kernel
theorem dX11_whose_11 : decode cX11_whose 11 = .ok (.getfield 12, 3) := by decide +kernel
theorem dX11_whose_14 : decode cX11_whose 14 = .ok (.getfield 116, 3) := by decide +kernel
theorem dX11_whose_17 : decode cX11_whose 17 = .ok (.if_icmp .ge 28, 3) := by decide +kernel
theorem dX11_whose_20 : decode cX11_whose 20 = .ok (.aload_n 0, 1) := by decide +kernel
theorem dX11_whose_21 : decode cX11_whose 21 = .ok (.aload_n 0, 1) := by decide +kernel
theorem dX11_whose_22 : decode cX11_whose 22 = .ok (.getfield 28, 3) := by decide +kernel
theorem dX11_whose_25 : decode cX11_whose 25 = .ok (.iload_n 2, 1) := by decide +kernel
theorem dX11_whose_26 : decode cX11_whose 26 = .ok (.aaload, 1) := by decide +kernel
theorem dX11_whose_27 : decode cX11_whose 27 = .ok (.invokevirtual 384, 3) := by decide +kernel
theorem dX11_whose_30 : decode cX11_whose 30 = .ok (.ifCond .eq 9, 3) := by decide +kernel
theorem dX11_whose_33 : decode cX11_whose 33 = .ok (.iload_n 1, 1) := by decide +kernel
theorem dX11_whose_34 : decode cX11_whose 34 = .ok (.iconst 1, 1) := by decide +kernel
theorem dX11_whose_35 : decode cX11_whose 35 = .ok (.iload_n 2, 1) := by decide +kernel
theorem dX11_whose_36 : decode cX11_whose 36 = .ok (.ishl, 1) := by decide +kernel
theorem dX11_whose_37 : decode cX11_whose 37 = .ok (.ior, 1) := by decide +kernel
theorem dX11_whose_38 : decode cX11_whose 38 = .ok (.istore_n 1, 1) := by decide +kernel
theorem dX11_whose_39 : decode cX11_whose 39 = .ok (.iinc 2 1, 3) := by decide +kernel
theorem dX11_whose_42 : decode cX11_whose 42 = .ok (.goto (-38), 3) := by decide +kernel
theorem dX11_whose_45 : decode cX11_whose 45 = .ok (.iload_n 1, 1) := by decide +kernel
theorem dX11_whose_46 : decode cX11_whose 46 = .ok (.ireturn, 1) := by decide +kernel
set_option maxRecDepth 20000 in
theorem ggX11_agrees_X5_saysNeed : GoodIn wsX11_agrees wsX5_saysNeed := goodIn_r _ [11, 12, 13, 14, 15, 16, 17, 18, 19, 20, 21, 22, 23, 24, 25, 26, 27, 28, 29, 30, 31, 32, 33, 34, 35, 36, 37, 38, 10, 39, 40, 41, 42, 43, 44, 45, 46, 47, 48, 49, 50, 51, 52, 53, 54, 55, 56, 57, 58, 59, 60, 61, 62, 63, 64, 65, 66, 67, 68, 69, 70, 71, 72, 73, 74, 75, 76, 77, 78, 79, 80, 81, 82, 107, 108, 109, 110, 111, 112, 113, 114, 115, 116, 117, 118, 119, 120, 121, 122, 123, 124, 125, 126, 127, 128, 129, 130, 131, 132, 133, 134, 135, 136, 137] (by decide +kernel) (by decide +kernel)
set_option maxRecDepth 20000 in
theorem gX11_agrees_X5_saysNeed : GoodIn wsX11_agrees (wsV RX11 249 RX5 yX5_saysNeed wsX5_saysNeed) := goodIn_app (goodIn_of _ (by decide +kernel)) ggX11_agrees_X5_saysNeed
theorem dX11_agrees_0 : decode cX11_agrees 0 = .ok (.iconst 0, 1) := by decide +kernel
theorem dX11_agrees_1 : decode cX11_agrees 1 = .ok (.istore_n 2, 1) := by decide +kernel
theorem dX11_agrees_2 : decode cX11_agrees 2 = .ok (.iload_n 2, 1) := by decide +kernel
theorem dX11_agrees_3 : decode cX11_agrees 3 = .ok (.bipush 8, 2) := by decide +kernel
theorem dX11_agrees_5 : decode cX11_agrees 5 = .ok (.if_icmp .ge 58, 3) := by decide +kernel
theorem dX11_agrees_8 : decode cX11_agrees 8 = .ok (.iload_n 2, 1) := by decide +kernel
theorem dX11_agrees_9 : decode cX11_agrees 9 = .ok (.aload_n 0, 1) := by decide +kernel
theorem dX11_agrees_10 : decode cX11_agrees 10 = .ok (.getfield 12, 3) := by decide +kernel
theorem dX11_agrees_13 : decode cX11_agrees 13 = .ok (.getfield 378, 3) := by decide +kernel
theorem dX11_agrees_16 : decode cX11_agrees 16 = .ok (.if_icmp .ge 47, 3) := by decide +kernel
theorem dX11_agrees_19 : decode cX11_agrees 19 = .ok (.aload_n 0, 1) := by decide +kernel
theorem dX11_agrees_20 : decode cX11_agrees 20 = .ok (.getfield 51, 3) := by decide +kernel
theorem dX11_agrees_23 : decode cX11_agrees 23 = .ok (.aload_n 1, 1) := by decide +kernel
theorem dX11_agrees_24 : decode cX11_agrees 24 = .ok (.aload_n 0, 1) := by decide +kernel
theorem dX11_agrees_25 : decode cX11_agrees 25 = .ok (.getfield 12, 3) := by decide +kernel
theorem dX11_agrees_28 : decode cX11_agrees 28 = .ok (.getfield 139, 3) := by decide +kernel
theorem dX11_agrees_31 : decode cX11_agrees 31 = .ok (.aload_n 0, 1) := by decide +kernel
theorem dX11_agrees_32 : decode cX11_agrees 32 = .ok (.getfield 12, 3) := by decide +kernel
theorem dX11_agrees_35 : decode cX11_agrees 35 = .ok (.getfield 388, 3) := by decide +kernel
theorem dX11_agrees_38 : decode cX11_agrees 38 = .ok (.iload_n 2, 1) := by decide +kernel
theorem dX11_agrees_39 : decode cX11_agrees 39 = .ok (.iaload, 1) := by decide +kernel
theorem dX11_agrees_40 : decode cX11_agrees 40 = .ok (.invokevirtual 249, 3) := by decide +kernel
theorem dX11_agrees_43 : decode cX11_agrees 43 = .ok (.aload_n 0, 1) := by decide +kernel
theorem dX11_agrees_44 : decode cX11_agrees 44 = .ok (.getfield 12, 3) := by decide +kernel
theorem dX11_agrees_47 : decode cX11_agrees 47 = .ok (.getfield 391, 3) := by decide +kernel
theorem dX11_agrees_50 : decode cX11_agrees 50 = .ok (.iload_n 2, 1) := by decide +kernel
theorem dX11_agrees_51 : decode cX11_agrees 51 = .ok (.iaload, 1) := by decide +kernel
theorem dX11_agrees_52 : decode cX11_agrees 52 = .ok (.if_icmp .eq 5, 3) := by decide +kernel
theorem dX11_agrees_55 : decode cX11_agrees 55 = .ok (.iconst 0, 1) := by decide +kernel
theorem dX11_agrees_56 : decode cX11_agrees 56 = .ok (.ireturn, 1) := by decide +kernel
theorem dX11_agrees_57 : decode cX11_agrees 57 = .ok (.iinc 2 1, 3) := by decide +kernel
theorem dX11_agrees_60 : decode cX11_agrees 60 = .ok (.goto (-58), 3) := by decide +kernel
theorem dX11_agrees_63 : decode cX11_agrees 63 = .ok (.iconst 1, 1) := by decide +kernel
theorem dX11_agrees_64 : decode cX11_agrees 64 = .ok (.ireturn, 1) := by decide +kernel
theorem dX11_saddest_0 : decode cX11_saddest 0 = .ok (.iconst (-1), 1) := by decide +kernel
theorem dX11_saddest_1 : decode cX11_saddest 1 = .ok (.istore_n 1, 1) := by decide +kernel
theorem dX11_saddest_2 : decode cX11_saddest 2 = .ok (.iconst 0, 1) := by decide +kernel
theorem dX11_saddest_3 : decode cX11_saddest 3 = .ok (.istore_n 2, 1) := by decide +kernel
theorem dX11_saddest_4 : decode cX11_saddest 4 = .ok (.iconst 0, 1) := by decide +kernel
theorem dX11_saddest_5 : decode cX11_saddest 5 = .ok (.istore_n 3, 1) := by decide +kernel
theorem dX11_saddest_6 : decode cX11_saddest 6 = .ok (.iload_n 3, 1) := by decide +kernel
theorem dX11_saddest_7 : decode cX11_saddest 7 = .ok (.iconst 5, 1) := by decide +kernel
theorem dX11_saddest_8 : decode cX11_saddest 8 = .ok (.if_icmp .ge 54, 3) := by decide +kernel
theorem dX11_saddest_11 : decode cX11_saddest 11 = .ok (.iload_n 3, 1) := by decide +kernel
theorem dX11_saddest_12 : decode cX11_saddest 12 = .ok (.aload_n 0, 1) := by decide +kernel
theorem dX11_saddest_13 : decode cX11_saddest 13 = .ok (.getfield 12, 3) := by decide +kernel
theorem dX11_saddest_16 : decode cX11_saddest 16 = .ok (.getfield 139, 3) := by decide +kernel
theorem dX11_saddest_19 : decode cX11_saddest 19 = .ok (.getfield 394, 3) := by decide +kernel
theorem dX11_saddest_22 : decode cX11_saddest 22 = .ok (.if_icmp .ge 40, 3) := by decide +kernel
theorem dX11_saddest_25 : decode cX11_saddest 25 = .ok (.aload_n 0, 1) := by decide +kernel
theorem dX11_saddest_26 : decode cX11_saddest 26 = .ok (.getfield 12, 3) := by decide +kernel
theorem dX11_saddest_29 : decode cX11_saddest 29 = .ok (.getfield 139, 3) := by decide +kernel
theorem dX11_saddest_32 : decode cX11_saddest 32 = .ok (.getfield 236, 3) := by decide +kernel
theorem dX11_saddest_35 : decode cX11_saddest 35 = .ok (.iload_n 3, 1) := by decide +kernel
theorem dX11_saddest_36 : decode cX11_saddest 36 = .ok (.iaload, 1) := by decide +kernel
theorem dX11_saddest_37 : decode cX11_saddest 37 = .ok (.iload_n 2, 1) := by decide +kernel
theorem dX11_saddest_38 : decode cX11_saddest 38 = .ok (.if_icmp .le 18, 3) := by decide +kernel
theorem dX11_saddest_41 : decode cX11_saddest 41 = .ok (.aload_n 0, 1) := by decide +kernel
theorem dX11_saddest_42 : decode cX11_saddest 42 = .ok (.getfield 12, 3) := by decide +kernel
theorem dX11_saddest_45 : decode cX11_saddest 45 = .ok (.getfield 139, 3) := by decide +kernel
theorem dX11_saddest_48 : decode cX11_saddest 48 = .ok (.getfield 236, 3) := by decide +kernel
theorem dX11_saddest_51 : decode cX11_saddest 51 = .ok (.iload_n 3, 1) := by decide +kernel
theorem dX11_saddest_52 : decode cX11_saddest 52 = .ok (.iaload, 1) := by decide +kernel
theorem dX11_saddest_53 : decode cX11_saddest 53 = .ok (.istore_n 2, 1) := by decide +kernel
theorem dX11_saddest_54 : decode cX11_saddest 54 = .ok (.iload_n 3, 1) := by decide +kernel
theorem dX11_saddest_55 : decode cX11_saddest 55 = .ok (.istore_n 1, 1) := by decide +kernel
theorem dX11_saddest_56 : decode cX11_saddest 56 = .ok (.iinc 3 1, 3) := by decide +kernel
theorem dX11_saddest_59 : decode cX11_saddest 59 = .ok (.goto (-53), 3) := by decide +kernel
theorem dX11_saddest_62 : decode cX11_saddest 62 = .ok (.iload_n 1, 1) := by decide +kernel
theorem dX11_saddest_63 : decode cX11_saddest 63 = .ok (.ireturn, 1) := by decide +kernel
theorem dX11_plain_0 : decode cX11_plain 0 = .ok (.iconst 0, 1) := by decide +kernel
theorem dX11_plain_1 : decode cX11_plain 1 = .ok (.istore_n 1, 1) := by decide +kernel
theorem dX11_plain_2 : decode cX11_plain 2 = .ok (.iconst 0, 1) := by decide +kernel
theorem dX11_plain_3 : decode cX11_plain 3 = .ok (.istore_n 2, 1) := by decide +kernel
theorem dX11_plain_4 : decode cX11_plain 4 = .ok (.iload_n 2, 1) := by decide +kernel
theorem dX11_plain_5 : decode cX11_plain 5 = .ok (.bipush 12, 2) := by decide +kernel
theorem dX11_plain_7 : decode cX11_plain 7 = .ok (.if_icmp .ge 30, 3) := by decide +kernel
theorem dX11_plain_10 : decode cX11_plain 10 = .ok (.aload_n 0, 1) := by decide +kernel
theorem dX11_plain_11 : decode cX11_plain 11 = .ok (.getfield 12, 3) := by decide +kernel
theorem dX11_plain_14 : decode cX11_plain 14 = .ok (.getfield 44, 3) := by decide +kernel
theorem dX11_plain_17 : decode cX11_plain 17 = .ok (.getfield 256, 3) := by decide +kernel
theorem dX11_plain_20 : decode cX11_plain 20 = .ok (.iload_n 2, 1) := by decide +kernel
theorem dX11_plain_21 : decode cX11_plain 21 = .ok (.iaload, 1) := by decide +kernel
theorem dX11_plain_22 : decode cX11_plain 22 = .ok (.ifCond .ne 9, 3) := by decide +kernel
theorem dX11_plain_25 : decode cX11_plain 25 = .ok (.iload_n 1, 1) := by decide +kernel
theorem dX11_plain_26 : decode cX11_plain 26 = .ok (.iconst 1, 1) := by decide +kernel
theorem dX11_plain_27 : decode cX11_plain 27 = .ok (.iload_n 2, 1) := by decide +kernel
theorem dX11_plain_28 : decode cX11_plain 28 = .ok (.ishl, 1) := by decide +kernel
theorem dX11_plain_29 : decode cX11_plain 29 = .ok (.ior, 1) := by decide +kernel
theorem dX11_plain_30 : decode cX11_plain 30 = .ok (.istore_n 1, 1) := by decide +kernel
theorem dX11_plain_31 : decode cX11_plain 31 = .ok (.iinc 2 1, 3) := by decide +kernel
theorem dX11_plain_34 : decode cX11_plain 34 = .ok (.goto (-30), 3) := by decide +kernel
theorem dX11_plain_37 : decode cX11_plain 37 = .ok (.iload_n 1, 1) := by decide +kernel
theorem dX11_plain_38 : decode cX11_plain 38 = .ok (.ireturn, 1) := by decide +kernel
theorem dX11_loose_0 : decode cX11_loose 0 = .ok (.iconst 0, 1) := by decide +kernel
theorem dX11_loose_1 : decode cX11_loose 1 = .ok (.istore_n 1, 1) := by decide +kernel
theorem dX11_loose_2 : decode cX11_loose 2 = .ok (.iconst 0, 1) := by decide +kernel
theorem dX11_loose_3 : decode cX11_loose 3 = .ok (.istore_n 2, 1) := by decide +kernel
theorem dX11_loose_4 : decode cX11_loose 4 = .ok (.iload_n 2, 1) := by decide +kernel
theorem dX11_loose_5 : decode cX11_loose 5 = .ok (.bipush 12, 2) := by decide +kernel
theorem dX11_loose_7 : decode cX11_loose 7 = .ok (.if_icmp .ge 24, 3) := by decide +kernel
theorem dX11_loose_10 : decode cX11_loose 10 = .ok (.iload_n 1, 1) := by decide +kernel
theorem dX11_loose_11 : decode cX11_loose 11 = .ok (.aload_n 0, 1) := by decide +kernel
theorem dX11_loose_12 : decode cX11_loose 12 = .ok (.getfield 12, 3) := by decide +kernel
theorem dX11_loose_15 : decode cX11_loose 15 = .ok (.getfield 44, 3) := by decide +kernel
theorem dX11_loose_18 : decode cX11_loose 18 = .ok (.getfield 256, 3) := by decide +kernel
theorem dX11_loose_21 : decode cX11_loose 21 = .ok (.iload_n 2, 1) := by decide +kernel
theorem dX11_loose_22 : decode cX11_loose 22 = .ok (.iaload, 1) := by decide +kernel
theorem dX11_loose_23 : decode cX11_loose 23 = .ok (.ior, 1) := by decide +kernel
theorem dX11_loose_24 : decode cX11_loose 24 = .ok (.istore_n 1, 1) := by decide +kernel
theorem dX11_loose_25 : decode cX11_loose 25 = .ok (.iinc 2 1, 3) := by decide +kernel
theorem dX11_loose_28 : decode cX11_loose 28 = .ok (.goto (-24), 3) := by decide +kernel
theorem dX11_loose_31 : decode cX11_loose 31 = .ok (.sipush 4095, 3) := by decide +kernel
theorem dX11_loose_34 : decode cX11_loose 34 = .ok (.iload_n 1, 1) := by decide +kernel
theorem dX11_loose_35 : decode cX11_loose 35 = .ok (.iconst (-1), 1) := by decide +kernel
theorem dX11_loose_36 : decode cX11_loose 36 = .ok (.ixor, 1) := by decide +kernel
theorem dX11_loose_37 : decode cX11_loose 37 = .ok (.iand, 1) := by decide +kernel
theorem dX11_loose_38 : decode cX11_loose 38 = .ok (.ireturn, 1) := by decide +kernel
set_option maxRecDepth 20000 in
theorem ggX11_above_X11_isWant : GoodIn wsX11_above wsX11_isWant := goodIn_r _ [5] (by decide +kernel) (by decide +kernel)
set_option maxRecDepth 20000 in
theorem gX11_above_X11_isWant : GoodIn wsX11_above (va_wsS RX11 95 yX11_isWant wsX11_isWant) := goodIn_app (goodIn_of _ (by decide +kernel)) ggX11_above_X11_isWant
set_option maxRecDepth 20000 in
theorem ggX11_above_X6_over : GoodIn wsX11_above wsX6_over := goodIn_r _ [10, 11, 12, 13, 4, 14, 27, 28, 29, 30, 31, 32, 33, 34, 35, 36] (by decide +kernel) (by decide +kernel)
set_option maxRecDepth 20000 in
theorem gX11_above_X6_over : GoodIn wsX11_above (wsV RX11 396 RX6 yX6_over wsX6_over) := goodIn_app (goodIn_of _ (by decide +kernel)) ggX11_above_X6_over
theorem dX11_above_0 : decode cX11_above 0 = .ok (.iload_n 1, 1) := by decide +kernel
theorem dX11_above_1 : decode cX11_above 1 = .ok (.invokestatic 95, 3) := by decide +kernel
theorem dX11_above_4 : decode cX11_above 4 = .ok (.ifCond .eq 14, 3) := by decide +kernel
theorem dX11_above_7 : decode cX11_above 7 = .ok (.aload_n 0, 1) := by decide +kernel
theorem dX11_above_8 : decode cX11_above 8 = .ok (.getfield 67, 3) := by decide +kernel
theorem dX11_above_11 : decode cX11_above 11 = .ok (.iload_n 1, 1) := by decide +kernel
theorem dX11_above_12 : decode cX11_above 12 = .ok (.invokevirtual 396, 3) := by decide +kernel
theorem dX11_above_15 : decode cX11_above 15 = .ok (.goto 4, 3) := by decide +kernel
theorem dX11_above_18 : decode cX11_above 18 = .ok (.iconst (-1), 1) := by decide +kernel
theorem dX11_above_19 : decode cX11_above 19 = .ok (.ireturn, 1) := by decide +kernel
set_option maxRecDepth 20000 in
theorem ggX11_ledger_X4_entry : GoodIn wsX11_ledger wsX4_entry := goodIn_r _ [8, 9, 10, 35, 36, 37, 38, 39, 40, 41, 42, 43, 44, 45, 46] (by decide +kernel) (by decide +kernel)
set_option maxRecDepth 20000 in
theorem gX11_ledger_X4_entry : GoodIn wsX11_ledger (wsV RX11 279 RX4 yX4_entry wsX4_entry) := goodIn_app (goodIn_of _ (by decide +kernel)) ggX11_ledger_X4_entry
theorem dX11_ledger_0 : decode cX11_ledger 0 = .ok (.iconst 0, 1) := by decide +kernel
theorem dX11_ledger_1 : decode cX11_ledger 1 = .ok (.istore_n 2, 1) := by decide +kernel
theorem dX11_ledger_2 : decode cX11_ledger 2 = .ok (.iconst 0, 1) := by decide +kernel
theorem dX11_ledger_3 : decode cX11_ledger 3 = .ok (.istore_n 3, 1) := by decide +kernel
theorem dX11_ledger_4 : decode cX11_ledger 4 = .ok (.iload_n 3, 1) := by decide +kernel
theorem dX11_ledger_5 : decode cX11_ledger 5 = .ok (.bipush 30, 2) := by decide +kernel
theorem dX11_ledger_7 : decode cX11_ledger 7 = .ok (.if_icmp .ge 50, 3) := by decide +kernel
theorem dX11_ledger_10 : decode cX11_ledger 10 = .ok (.iload_n 3, 1) := by decide +kernel
theorem dX11_ledger_11 : decode cX11_ledger 11 = .ok (.aload_n 0, 1) := by decide +kernel
theorem dX11_ledger_12 : decode cX11_ledger 12 = .ok (.getfield 12, 3) := by decide +kernel
theorem dX11_ledger_15 : decode cX11_ledger 15 = .ok (.getfield 139, 3) := by decide +kernel
theorem dX11_ledger_18 : decode cX11_ledger 18 = .ok (.getfield 276, 3) := by decide +kernel
theorem dX11_ledger_21 : decode cX11_ledger 21 = .ok (.if_icmp .ge 36, 3) := by decide +kernel
theorem dX11_ledger_24 : decode cX11_ledger 24 = .ok (.aload_n 0, 1) := by decide +kernel
theorem dX11_ledger_25 : decode cX11_ledger 25 = .ok (.getfield 12, 3) := by decide +kernel
theorem dX11_ledger_28 : decode cX11_ledger 28 = .ok (.getfield 139, 3) := by decide +kernel
theorem dX11_ledger_31 : decode cX11_ledger 31 = .ok (.iload_n 3, 1) := by decide +kernel
theorem dX11_ledger_32 : decode cX11_ledger 32 = .ok (.iconst 3, 1) := by decide +kernel
theorem dX11_ledger_33 : decode cX11_ledger 33 = .ok (.invokevirtual 279, 3) := by decide +kernel
theorem dX11_ledger_36 : decode cX11_ledger 36 = .ok (.iload_n 1, 1) := by decide +kernel
theorem dX11_ledger_37 : decode cX11_ledger 37 = .ok (.ifCond .eq 7, 3) := by decide +kernel
theorem dX11_ledger_40 : decode cX11_ledger 40 = .ok (.iconst 1, 1) := by decide +kernel
theorem dX11_ledger_41 : decode cX11_ledger 41 = .ok (.goto 4, 3) := by decide +kernel
theorem dX11_ledger_44 : decode cX11_ledger 44 = .ok (.iconst 0, 1) := by decide +kernel
theorem dX11_ledger_45 : decode cX11_ledger 45 = .ok (.if_icmp .ne 6, 3) := by decide +kernel
theorem dX11_ledger_48 : decode cX11_ledger 48 = .ok (.iinc 2 1, 3) := by decide +kernel
theorem dX11_ledger_51 : decode cX11_ledger 51 = .ok (.iinc 3 1, 3) := by decide +kernel
theorem dX11_ledger_54 : decode cX11_ledger 54 = .ok (.goto (-50), 3) := by decide +kernel
theorem dX11_ledger_57 : decode cX11_ledger 57 = .ok (.iload_n 2, 1) := by decide +kernel
theorem dX11_ledger_58 : decode cX11_ledger 58 = .ok (.ireturn, 1) := by decide +kernel
set_option maxRecDepth 20000 in
theorem ggX11_image_X1_copyFrom : GoodIn wsX11_image wsX1_copyFrom := goodIn_r _ [9, 10, 11, 12, 13, 14, 15, 16, 17, 18, 19, 20, 21, 22, 23, 24, 25, 26, 27, 28, 29, 30, 31, 32, 33, 34, 35, 36, 37, 38, 39, 40, 41, 42, 43, 44, 45, 46, 47, 48, 49, 50, 51, 52, 53, 54, 67, 68, 69, 70, 71, 72, 73, 74, 75, 76, 77, 78, 91, 92, 93, 94, 95, 79, 80, 81, 82, 83, 84, 85, 86, 87, 88, 89, 90] (by decide +kernel) (by decide +kernel)
set_option maxRecDepth 20000 in
theorem gX11_image_X1_copyFrom : GoodIn wsX11_image (wsV RX11 399 RX1 yX1_copyFrom wsX1_copyFrom) := goodIn_app (goodIn_of _ (by decide +kernel)) ggX11_image_X1_copyFrom
theorem dX11_image_0 : decode cX11_image 0 = .ok (.aload_n 0, 1) := by decide +kernel
theorem dX11_image_1 : decode cX11_image 1 = .ok (.getfield 16, 3) := by decide +kernel
theorem dX11_image_4 : decode cX11_image 4 = .ok (.aload_n 0, 1) := by decide +kernel
theorem dX11_image_5 : decode cX11_image 5 = .ok (.getfield 12, 3) := by decide +kernel
theorem dX11_image_8 : decode cX11_image 8 = .ok (.invokevirtual 399, 3) := by decide +kernel
theorem dX11_image_11 : decode cX11_image 11 = .ok (.aload_n 0, 1) := by decide +kernel
theorem dX11_image_12 : decode cX11_image 12 = .ok (.getfield 12, 3) := by decide +kernel
theorem dX11_image_15 : decode cX11_image 15 = .ok (.getfield 139, 3) := by decide +kernel
theorem dX11_image_18 : decode cX11_image 18 = .ok (.getfield 170, 3) := by decide +kernel
theorem dX11_image_21 : decode cX11_image 21 = .ok (.ireturn, 1) := by decide +kernel
set_option maxRecDepth 20000 in
theorem ggX11_back_X1_copyFrom : GoodIn wsX11_back wsX1_copyFrom := goodIn_r _ [9, 10, 11, 12, 13, 14, 15, 16, 17, 18, 19, 20, 21, 22, 23, 24, 25, 26, 27, 28, 29, 30, 31, 32, 33, 34, 35, 36, 37, 38, 39, 40, 41, 42, 43, 44, 45, 46, 47, 48, 49, 50, 51, 52, 53, 54, 67, 68, 69, 70, 71, 72, 73, 74, 75, 76, 77, 78, 91, 92, 93, 94, 95, 79, 80, 81, 82, 83, 84, 85, 86, 87, 88, 89, 90] (by decide +kernel) (by decide +kernel)
set_option maxRecDepth 20000 in
theorem gX11_back_X1_copyFrom : GoodIn wsX11_back (wsV RX11 399 RX1 yX1_copyFrom wsX1_copyFrom) := goodIn_app (goodIn_of _ (by decide +kernel)) ggX11_back_X1_copyFrom
theorem dX11_back_0 : decode cX11_back 0 = .ok (.aload_n 0, 1) := by decide +kernel
theorem dX11_back_1 : decode cX11_back 1 = .ok (.getfield 12, 3) := by decide +kernel
theorem dX11_back_4 : decode cX11_back 4 = .ok (.aload_n 0, 1) := by decide +kernel
theorem dX11_back_5 : decode cX11_back 5 = .ok (.getfield 16, 3) := by decide +kernel
theorem dX11_back_8 : decode cX11_back 8 = .ok (.invokevirtual 399, 3) := by decide +kernel
theorem dX11_back_11 : decode cX11_back 11 = .ok (.aload_n 0, 1) := by decide +kernel
theorem dX11_back_12 : decode cX11_back 12 = .ok (.getfield 12, 3) := by decide +kernel
theorem dX11_back_15 : decode cX11_back 15 = .ok (.getfield 139, 3) := by decide +kernel
theorem dX11_back_18 : decode cX11_back 18 = .ok (.getfield 170, 3) := by decide +kernel
theorem dX11_back_21 : decode cX11_back 21 = .ok (.ireturn, 1) := by decide +kernel
theorem dX11_about_0 : decode cX11_about 0 = .ok (.iload_n 1, 1) := by decide +kernel
theorem dX11_about_1 : decode cX11_about 1 = .ok (.tableswitch 87 0 5 #[39, 50, 58, 66, 74, 82], 39) := by decide +kernel
theorem dX11_about_40 : decode cX11_about 40 = .ok (.aload_n 0, 1) := by decide +kernel
theorem dX11_about_41 : decode cX11_about 41 = .ok (.getfield 12, 3) := by decide +kernel
theorem dX11_about_44 : decode cX11_about 44 = .ok (.getfield 139, 3) := by decide +kernel
theorem dX11_about_47 : decode cX11_about 47 = .ok (.getfield 394, 3) := by decide +kernel
theorem dX11_about_50 : decode cX11_about 50 = .ok (.ireturn, 1) := by decide +kernel
theorem dX11_about_51 : decode cX11_about 51 = .ok (.aload_n 0, 1) := by decide +kernel
theorem dX11_about_52 : decode cX11_about 52 = .ok (.getfield 12, 3) := by decide +kernel
theorem dX11_about_55 : decode cX11_about 55 = .ok (.getfield 116, 3) := by decide +kernel
theorem dX11_about_58 : decode cX11_about 58 = .ok (.ireturn, 1) := by decide +kernel
theorem dX11_about_59 : decode cX11_about 59 = .ok (.aload_n 0, 1) := by decide +kernel
theorem dX11_about_60 : decode cX11_about 60 = .ok (.getfield 12, 3) := by decide +kernel
theorem dX11_about_63 : decode cX11_about 63 = .ok (.getfield 136, 3) := by decide +kernel
theorem dX11_about_66 : decode cX11_about 66 = .ok (.ireturn, 1) := by decide +kernel
theorem dX11_about_67 : decode cX11_about 67 = .ok (.aload_n 0, 1) := by decide +kernel
theorem dX11_about_68 : decode cX11_about 68 = .ok (.getfield 12, 3) := by decide +kernel
theorem dX11_about_71 : decode cX11_about 71 = .ok (.getfield 224, 3) := by decide +kernel
theorem dX11_about_74 : decode cX11_about 74 = .ok (.ireturn, 1) := by decide +kernel
theorem dX11_about_75 : decode cX11_about 75 = .ok (.aload_n 0, 1) := by decide +kernel
theorem dX11_about_76 : decode cX11_about 76 = .ok (.getfield 12, 3) := by decide +kernel
theorem dX11_about_79 : decode cX11_about 79 = .ok (.getfield 378, 3) := by decide +kernel
theorem dX11_about_82 : decode cX11_about 82 = .ok (.ireturn, 1) := by decide +kernel
theorem dX11_about_83 : decode cX11_about 83 = .ok (.aload_n 0, 1) := by decide +kernel
theorem dX11_about_84 : decode cX11_about 84 = .ok (.getfield 91, 3) := by decide +kernel
theorem dX11_about_87 : decode cX11_about 87 = .ok (.ireturn, 1) := by decide +kernel
theorem dX11_about_88 : decode cX11_about 88 = .ok (.bipush (-2), 2) := by decide +kernel
theorem dX11_about_90 : decode cX11_about 90 = .ok (.ireturn, 1) := by decide +kernel
theorem dX11_isText_0 : decode cX11_isText 0 = .ok (.iload_n 1, 1) := by decide +kernel
theorem dX11_isText_1 : decode cX11_isText 1 = .ok (.ifCond .lt 23, 3) := by decide +kernel
theorem dX11_isText_4 : decode cX11_isText 4 = .ok (.iload_n 1, 1) := by decide +kernel
theorem dX11_isText_5 : decode cX11_isText 5 = .ok (.aload_n 0, 1) := by decide +kernel
theorem dX11_isText_6 : decode cX11_isText 6 = .ok (.getfield 12, 3) := by decide +kernel
theorem dX11_isText_9 : decode cX11_isText 9 = .ok (.getfield 116, 3) := by decide +kernel
theorem dX11_isText_12 : decode cX11_isText 12 = .ok (.if_icmp .ge 12, 3) := by decide +kernel
theorem dX11_isText_15 : decode cX11_isText 15 = .ok (.iload_n 1, 1) := by decide +kernel
theorem dX11_isText_16 : decode cX11_isText 16 = .ok (.iconst 4, 1) := by decide +kernel
theorem dX11_isText_17 : decode cX11_isText 17 = .ok (.if_icmp .ge 7, 3) := by decide +kernel
theorem dX11_isText_20 : decode cX11_isText 20 = .ok (.iconst 1, 1) := by decide +kernel
theorem dX11_isText_21 : decode cX11_isText 21 = .ok (.goto 4, 3) := by decide +kernel
theorem dX11_isText_24 : decode cX11_isText 24 = .ok (.iconst 0, 1) := by decide +kernel
theorem dX11_isText_25 : decode cX11_isText 25 = .ok (.ireturn, 1) := by decide +kernel
theorem dX11_isWant_0 : decode cX11_isWant 0 = .ok (.iload_n 0, 1) := by decide +kernel
theorem dX11_isWant_1 : decode cX11_isWant 1 = .ok (.ifCond .lt 13, 3) := by decide +kernel
theorem dX11_isWant_4 : decode cX11_isWant 4 = .ok (.iload_n 0, 1) := by decide +kernel
theorem dX11_isWant_5 : decode cX11_isWant 5 = .ok (.bipush 12, 2) := by decide +kernel
theorem dX11_isWant_7 : decode cX11_isWant 7 = .ok (.if_icmp .ge 7, 3) := by decide +kernel
theorem dX11_isWant_10 : decode cX11_isWant 10 = .ok (.iconst 1, 1) := by decide +kernel
theorem dX11_isWant_11 : decode cX11_isWant 11 = .ok (.goto 4, 3) := by decide +kernel
theorem dX11_isWant_14 : decode cX11_isWant 14 = .ok (.iconst 0, 1) := by decide +kernel
theorem dX11_isWant_15 : decode cX11_isWant 15 = .ok (.ireturn, 1) := by decide +kernel
set_option maxRecDepth 20000 in
theorem ggX11_areWants_X11_isWant : GoodIn wsX11_areWants wsX11_isWant := goodIn_r _ [4] (by decide +kernel) (by decide +kernel)
set_option maxRecDepth 20000 in
theorem gX11_areWants_X11_isWant : GoodIn wsX11_areWants (va_wsS RX11 95 yX11_isWant wsX11_isWant) := goodIn_app (goodIn_of _ (by decide +kernel)) ggX11_areWants_X11_isWant
theorem dX11_areWants_0 : decode cX11_areWants 0 = .ok (.iload_n 0, 1) := by decide +kernel
theorem dX11_areWants_1 : decode cX11_areWants 1 = .ok (.invokestatic 95, 3) := by decide +kernel
theorem dX11_areWants_4 : decode cX11_areWants 4 = .ok (.ifCond .eq 14, 3) := by decide +kernel
theorem dX11_areWants_7 : decode cX11_areWants 7 = .ok (.iload_n 1, 1) := by decide +kernel
theorem dX11_areWants_8 : decode cX11_areWants 8 = .ok (.invokestatic 95, 3) := by decide +kernel
theorem dX11_areWants_11 : decode cX11_areWants 11 = .ok (.ifCond .eq 7, 3) := by decide +kernel
theorem dX11_areWants_14 : decode cX11_areWants 14 = .ok (.iconst 1, 1) := by decide +kernel
theorem dX11_areWants_15 : decode cX11_areWants 15 = .ok (.goto 4, 3) := by decide +kernel
theorem dX11_areWants_18 : decode cX11_areWants 18 = .ok (.iconst 0, 1) := by decide +kernel
theorem dX11_areWants_19 : decode cX11_areWants 19 = .ok (.ireturn, 1) := by decide +kernel
theorem dX11_isPerson_0 : decode cX11_isPerson 0 = .ok (.iload_n 0, 1) := by decide +kernel
theorem dX11_isPerson_1 : decode cX11_isPerson 1 = .ok (.ifCond .lt 12, 3) := by decide +kernel
theorem dX11_isPerson_4 : decode cX11_isPerson 4 = .ok (.iload_n 0, 1) := by decide +kernel
theorem dX11_isPerson_5 : decode cX11_isPerson 5 = .ok (.iconst 5, 1) := by decide +kernel
theorem dX11_isPerson_6 : decode cX11_isPerson 6 = .ok (.if_icmp .ge 7, 3) := by decide +kernel
theorem dX11_isPerson_9 : decode cX11_isPerson 9 = .ok (.iconst 1, 1) := by decide +kernel
theorem dX11_isPerson_10 : decode cX11_isPerson 10 = .ok (.goto 4, 3) := by decide +kernel
theorem dX11_isPerson_13 : decode cX11_isPerson 13 = .ok (.iconst 0, 1) := by decide +kernel
theorem dX11_isPerson_14 : decode cX11_isPerson 14 = .ok (.ireturn, 1) := by decide +kernel
theorem dX11_has_0 : decode cX11_has 0 = .ok (.iload_n 0, 1) := by decide +kernel
theorem dX11_has_1 : decode cX11_has 1 = .ok (.iload_n 1, 1) := by decide +kernel
theorem dX11_has_2 : decode cX11_has 2 = .ok (.ishr, 1) := by decide +kernel
theorem dX11_has_3 : decode cX11_has 3 = .ok (.iconst 1, 1) := by decide +kernel
theorem dX11_has_4 : decode cX11_has 4 = .ok (.iand, 1) := by decide +kernel
theorem dX11_has_5 : decode cX11_has 5 = .ok (.ifCond .eq 7, 3) := by decide +kernel
theorem dX11_has_8 : decode cX11_has 8 = .ok (.iconst 1, 1) := by decide +kernel
theorem dX11_has_9 : decode cX11_has 9 = .ok (.goto 4, 3) := by decide +kernel
theorem dX11_has_12 : decode cX11_has 12 = .ok (.iconst 0, 1) := by decide +kernel
theorem dX11_has_13 : decode cX11_has 13 = .ok (.ireturn, 1) := by decide +kernel
theorem dX11_greatestDivisor_0 : decode cX11_greatestDivisor 0 = .ok (.iconst 0, 1) := by decide +kernel
theorem dX11_greatestDivisor_1 : decode cX11_greatestDivisor 1 = .ok (.istore 4, 2) := by decide +kernel
theorem dX11_greatestDivisor_3 : decode cX11_greatestDivisor 3 = .ok (.iload 4, 2) := by decide +kernel
theorem dX11_greatestDivisor_5 : decode cX11_greatestDivisor 5 = .ok (.bipush 64, 2) := by decide +kernel
theorem dX11_greatestDivisor_7 : decode cX11_greatestDivisor 7 = .ok (.if_icmp .ge 25, 3) := by decide +kernel
theorem dX11_greatestDivisor_10 : decode cX11_greatestDivisor 10 = .ok (.lload_n 2, 1) := by decide +kernel
theorem dX11_greatestDivisor_11 : decode cX11_greatestDivisor 11 = .ok (.lconst 0, 1) := by decide +kernel
theorem dX11_greatestDivisor_12 : decode cX11_greatestDivisor 12 = .ok (.lcmp, 1) := by decide +kernel
theorem dX11_greatestDivisor_13 : decode cX11_greatestDivisor 13 = .ok (.ifCond .eq 19, 3) := by decide +kernel
theorem dX11_greatestDivisor_16 : decode cX11_greatestDivisor 16 = .ok (.lload_n 0, 1) := by decide +kernel
theorem dX11_greatestDivisor_17 : decode cX11_greatestDivisor 17 = .ok (.lload_n 2, 1) := by decide +kernel
theorem dX11_greatestDivisor_18 : decode cX11_greatestDivisor 18 = .ok (.lrem, 1) := by decide +kernel
theorem dX11_greatestDivisor_19 : decode cX11_greatestDivisor 19 = .ok (.lstore 5, 2) := by decide +kernel
theorem dX11_greatestDivisor_21 : decode cX11_greatestDivisor 21 = .ok (.lload_n 2, 1) := by decide +kernel
theorem dX11_greatestDivisor_22 : decode cX11_greatestDivisor 22 = .ok (.lstore_n 0, 1) := by decide +kernel
theorem dX11_greatestDivisor_23 : decode cX11_greatestDivisor 23 = .ok (.lload 5, 2) := by decide +kernel
theorem dX11_greatestDivisor_25 : decode cX11_greatestDivisor 25 = .ok (.lstore_n 2, 1) := by decide +kernel
theorem dX11_greatestDivisor_26 : decode cX11_greatestDivisor 26 = .ok (.iinc 4 1, 3) := by decide +kernel
theorem dX11_greatestDivisor_29 : decode cX11_greatestDivisor 29 = .ok (.goto (-26), 3) := by decide +kernel
theorem dX11_greatestDivisor_32 : decode cX11_greatestDivisor 32 = .ok (.lload_n 0, 1) := by decide +kernel
theorem dX11_greatestDivisor_33 : decode cX11_greatestDivisor 33 = .ok (.lreturn, 1) := by decide +kernel
set_option maxRecDepth 20000 in
theorem ggX12_init_X12_copy : GoodIn wsX12_init wsX12_copy := goodIn_r _ [32] (by decide +kernel) (by decide +kernel)
set_option maxRecDepth 20000 in
theorem gX12_init_X12_copy : GoodIn wsX12_init (va_wsS RX12 80 yX12_copy wsX12_copy) := goodIn_app (goodIn_of _ (by decide +kernel)) ggX12_init_X12_copy
theorem dX12_init_0 : decode cX12_init 0 = .ok (.aload_n 0, 1) := by decide +kernel
theorem dX12_init_1 : decode cX12_init 1 = .ok (.invokespecial 1, 3) := by decide +kernel
theorem dX12_init_4 : decode cX12_init 4 = .ok (.aload_n 0, 1) := by decide +kernel
theorem dX12_init_5 : decode cX12_init 5 = .ok (.sipush 2084, 3) := by decide +kernel
theorem dX12_init_8 : decode cX12_init 8 = .ok (.newarray .int, 2) := by decide +kernel
theorem dX12_init_10 : decode cX12_init 10 = .ok (.putfield 7, 3) := by decide +kernel
theorem dX12_init_13 : decode cX12_init 13 = .ok (.aload_n 0, 1) := by decide +kernel
theorem dX12_init_14 : decode cX12_init 14 = .ok (.sipush 2084, 3) := by decide +kernel
theorem dX12_init_17 : decode cX12_init 17 = .ok (.newarray .int, 2) := by decide +kernel
theorem dX12_init_19 : decode cX12_init 19 = .ok (.putfield 13, 3) := by decide +kernel
theorem dX12_init_22 : decode cX12_init 22 = .ok (.aload_n 0, 1) := by decide +kernel
theorem dX12_init_23 : decode cX12_init 23 = .ok (.sipush 2724, 3) := by decide +kernel
theorem dX12_init_26 : decode cX12_init 26 = .ok (.newarray .int, 2) := by decide +kernel
theorem dX12_init_28 : decode cX12_init 28 = .ok (.putfield 16, 3) := by decide +kernel
theorem dX12_init_31 : decode cX12_init 31 = .ok (.aload_n 0, 1) := by decide +kernel
theorem dX12_init_32 : decode cX12_init 32 = .ok (.bipush 12, 2) := by decide +kernel
theorem dX12_init_34 : decode cX12_init 34 = .ok (.newarray .int, 2) := by decide +kernel
theorem dX12_init_36 : decode cX12_init 36 = .ok (.putfield 19, 3) := by decide +kernel
theorem dX12_init_39 : decode cX12_init 39 = .ok (.aload_n 0, 1) := by decide +kernel
theorem dX12_init_40 : decode cX12_init 40 = .ok (.bipush 12, 2) := by decide +kernel
theorem dX12_init_42 : decode cX12_init 42 = .ok (.newarray .int, 2) := by decide +kernel
theorem dX12_init_44 : decode cX12_init 44 = .ok (.putfield 22, 3) := by decide +kernel
theorem dX12_init_47 : decode cX12_init 47 = .ok (.aload_n 0, 1) := by decide +kernel
theorem dX12_init_48 : decode cX12_init 48 = .ok (.sipush 300, 3) := by decide +kernel
theorem dX12_init_51 : decode cX12_init 51 = .ok (.newarray .int, 2) := by decide +kernel
theorem dX12_init_53 : decode cX12_init 53 = .ok (.putfield 25, 3) := by decide +kernel
theorem dX12_init_56 : decode cX12_init 56 = .ok (.aload_n 0, 1) := by decide +kernel
theorem dX12_init_57 : decode cX12_init 57 = .ok (.iconst (-1), 1) := by decide +kernel
theorem dX12_init_58 : decode cX12_init 58 = .ok (.putfield 28, 3) := by decide +kernel
theorem dX12_init_61 : decode cX12_init 61 = .ok (.aload_n 0, 1) := by decide +kernel
theorem dX12_init_62 : decode cX12_init 62 = .ok (.iconst (-1), 1) := by decide +kernel
theorem dX12_init_63 : decode cX12_init 63 = .ok (.putfield 32, 3) := by decide +kernel
theorem dX12_init_66 : decode cX12_init 66 = .ok (.aload_n 0, 1) := by decide +kernel
theorem dX12_init_67 : decode cX12_init 67 = .ok (.sipush 160, 3) := by decide +kernel
theorem dX12_init_70 : decode cX12_init 70 = .ok (.newarray .int, 2) := by decide +kernel
theorem dX12_init_72 : decode cX12_init 72 = .ok (.putfield 35, 3) := by decide +kernel
theorem dX12_init_75 : decode cX12_init 75 = .ok (.aload_n 0, 1) := by decide +kernel
theorem dX12_init_76 : decode cX12_init 76 = .ok (.bipush 10, 2) := by decide +kernel
theorem dX12_init_78 : decode cX12_init 78 = .ok (.newarray .int, 2) := by decide +kernel
theorem dX12_init_80 : decode cX12_init 80 = .ok (.putfield 38, 3) := by decide +kernel
theorem dX12_init_83 : decode cX12_init 83 = .ok (.aload_n 0, 1) := by decide +kernel
theorem dX12_init_84 : decode cX12_init 84 = .ok (.sipush 330, 3) := by decide +kernel
theorem dX12_init_87 : decode cX12_init 87 = .ok (.newarray .long, 2) := by decide +kernel
theorem dX12_init_89 : decode cX12_init 89 = .ok (.putfield 41, 3) := by decide +kernel
theorem dX12_init_92 : decode cX12_init 92 = .ok (.aload_n 0, 1) := by decide +kernel
theorem dX12_init_93 : decode cX12_init 93 = .ok (.sipush 330, 3) := by decide +kernel
theorem dX12_init_96 : decode cX12_init 96 = .ok (.newarray .boolean, 2) := by decide +kernel
theorem dX12_init_98 : decode cX12_init 98 = .ok (.putfield 45, 3) := by decide +kernel
theorem dX12_init_101 : decode cX12_init 101 = .ok (.aload_n 0, 1) := by decide +kernel
theorem dX12_init_102 : decode cX12_init 102 = .ok (.iconst 1, 1) := by decide +kernel
theorem dX12_init_103 : decode cX12_init 103 = .ok (.putfield 49, 3) := by decide +kernel
theorem dX12_init_106 : decode cX12_init 106 = .ok (.aload_n 0, 1) := by decide +kernel
theorem dX12_init_107 : decode cX12_init 107 = .ok (.bipush 49, 2) := by decide +kernel
theorem dX12_init_109 : decode cX12_init 109 = .ok (.newarray .int, 2) := by decide +kernel
theorem dX12_init_111 : decode cX12_init 111 = .ok (.putfield 53, 3) := by decide +kernel
theorem dX12_init_114 : decode cX12_init 114 = .ok (.aload_n 0, 1) := by decide +kernel
theorem dX12_init_115 : decode cX12_init 115 = .ok (.bipush 12, 2) := by decide +kernel
theorem dX12_init_117 : decode cX12_init 117 = .ok (.newarray .long, 2) := by decide +kernel
theorem dX12_init_119 : decode cX12_init 119 = .ok (.putfield 56, 3) := by decide +kernel
theorem dX12_init_122 : decode cX12_init 122 = .ok (.aload_n 0, 1) := by decide +kernel
theorem dX12_init_123 : decode cX12_init 123 = .ok (.bipush 12, 2) := by decide +kernel
theorem dX12_init_125 : decode cX12_init 125 = .ok (.newarray .int, 2) := by decide +kernel
theorem dX12_init_127 : decode cX12_init 127 = .ok (.putfield 59, 3) := by decide +kernel
theorem dX12_init_130 : decode cX12_init 130 = .ok (.aload_n 0, 1) := by decide +kernel
theorem dX12_init_131 : decode cX12_init 131 = .ok (.bipush 12, 2) := by decide +kernel
theorem dX12_init_133 : decode cX12_init 133 = .ok (.newarray .int, 2) := by decide +kernel
theorem dX12_init_135 : decode cX12_init 135 = .ok (.putfield 62, 3) := by decide +kernel
theorem dX12_init_138 : decode cX12_init 138 = .ok (.aload_n 0, 1) := by decide +kernel
theorem dX12_init_139 : decode cX12_init 139 = .ok (.bipush 12, 2) := by decide +kernel
theorem dX12_init_141 : decode cX12_init 141 = .ok (.newarray .int, 2) := by decide +kernel
theorem dX12_init_143 : decode cX12_init 143 = .ok (.putfield 65, 3) := by decide +kernel
theorem dX12_init_146 : decode cX12_init 146 = .ok (.aload_n 0, 1) := by decide +kernel
theorem dX12_init_147 : decode cX12_init 147 = .ok (.bipush 13, 2) := by decide +kernel
theorem dX12_init_149 : decode cX12_init 149 = .ok (.newarray .int, 2) := by decide +kernel
theorem dX12_init_151 : decode cX12_init 151 = .ok (.putfield 68, 3) := by decide +kernel
theorem dX12_init_154 : decode cX12_init 154 = .ok (.aload_n 0, 1) := by decide +kernel
theorem dX12_init_155 : decode cX12_init 155 = .ok (.sipush 4096, 3) := by decide +kernel
theorem dX12_init_158 : decode cX12_init 158 = .ok (.newarray .int, 2) := by decide +kernel
theorem dX12_init_160 : decode cX12_init 160 = .ok (.putfield 71, 3) := by decide +kernel
theorem dX12_init_163 : decode cX12_init 163 = .ok (.aload_n 0, 1) := by decide +kernel
theorem dX12_init_164 : decode cX12_init 164 = .ok (.iconst 5, 1) := by decide +kernel
theorem dX12_init_165 : decode cX12_init 165 = .ok (.newarray .int, 2) := by decide +kernel
theorem dX12_init_167 : decode cX12_init 167 = .ok (.putfield 74, 3) := by decide +kernel
theorem dX12_init_170 : decode cX12_init 170 = .ok (.aload_n 0, 1) := by decide +kernel
theorem dX12_init_171 : decode cX12_init 171 = .ok (.iconst 5, 1) := by decide +kernel
theorem dX12_init_172 : decode cX12_init 172 = .ok (.newarray .int, 2) := by decide +kernel
theorem dX12_init_174 : decode cX12_init 174 = .ok (.putfield 77, 3) := by decide +kernel
theorem dX12_init_177 : decode cX12_init 177 = .ok (.aload_n 0, 1) := by decide +kernel
theorem dX12_init_178 : decode cX12_init 178 = .ok (.getfield 7, 3) := by decide +kernel
theorem dX12_init_181 : decode cX12_init 181 = .ok (.bipush 6, 2) := by decide +kernel
theorem dX12_init_183 : decode cX12_init 183 = .ok (.sipush 251, 3) := by decide +kernel
theorem dX12_init_186 : decode cX12_init 186 = .ok (.iastore, 1) := by decide +kernel
theorem dX12_init_187 : decode cX12_init 187 = .ok (.aload_n 0, 1) := by decide +kernel
theorem dX12_init_188 : decode cX12_init 188 = .ok (.getfield 7, 3) := by decide +kernel
theorem dX12_init_191 : decode cX12_init 191 = .ok (.iconst 2, 1) := by decide +kernel
theorem dX12_init_192 : decode cX12_init 192 = .ok (.iconst (-1), 1) := by decide +kernel
theorem dX12_init_193 : decode cX12_init 193 = .ok (.iastore, 1) := by decide +kernel
theorem dX12_init_194 : decode cX12_init 194 = .ok (.iconst 0, 1) := by decide +kernel
theorem dX12_init_195 : decode cX12_init 195 = .ok (.istore_n 1, 1) := by decide +kernel
theorem dX12_init_196 : decode cX12_init 196 = .ok (.iload_n 1, 1) := by decide +kernel
theorem dX12_init_197 : decode cX12_init 197 = .ok (.bipush 12, 2) := by decide +kernel
theorem dX12_init_199 : decode cX12_init 199 = .ok (.if_icmp .ge 20, 3) := by decide +kernel
theorem dX12_init_202 : decode cX12_init 202 = .ok (.aload_n 0, 1) := by decide +kernel
theorem dX12_init_203 : decode cX12_init 203 = .ok (.getfield 7, 3) := by decide +kernel
theorem dX12_init_206 : decode cX12_init 206 = .ok (.bipush 49, 2) := by decide +kernel
theorem dX12_init_208 : decode cX12_init 208 = .ok (.iload_n 1, 1) := by decide +kernel
theorem dX12_init_209 : decode cX12_init 209 = .ok (.iadd, 1) := by decide +kernel
theorem dX12_init_210 : decode cX12_init 210 = .ok (.bipush 10, 2) := by decide +kernel
theorem dX12_init_212 : decode cX12_init 212 = .ok (.iastore, 1) := by decide +kernel
theorem dX12_init_213 : decode cX12_init 213 = .ok (.iinc 1 1, 3) := by decide +kernel
theorem dX12_init_216 : decode cX12_init 216 = .ok (.goto (-20), 3) := by decide +kernel
theorem dX12_init_219 : decode cX12_init 219 = .ok (.iconst 0, 1) := by decide +kernel
theorem dX12_init_220 : decode cX12_init 220 = .ok (.istore_n 1, 1) := by decide +kernel
theorem dX12_init_221 : decode cX12_init 221 = .ok (.iload_n 1, 1) := by decide +kernel
theorem dX12_init_222 : decode cX12_init 222 = .ok (.iconst 5, 1) := by decide +kernel
theorem dX12_init_223 : decode cX12_init 223 = .ok (.if_icmp .ge 30, 3) := by decide +kernel
theorem dX12_init_226 : decode cX12_init 226 = .ok (.aload_n 0, 1) := by decide +kernel
theorem dX12_init_227 : decode cX12_init 227 = .ok (.getfield 7, 3) := by decide +kernel
theorem dX12_init_230 : decode cX12_init 230 = .ok (.bipush 78, 2) := by decide +kernel
theorem dX12_init_232 : decode cX12_init 232 = .ok (.iload_n 1, 1) := by decide +kernel
theorem dX12_init_233 : decode cX12_init 233 = .ok (.iadd, 1) := by decide +kernel
theorem dX12_init_234 : decode cX12_init 234 = .ok (.iconst 5, 1) := by decide +kernel
theorem dX12_init_235 : decode cX12_init 235 = .ok (.iastore, 1) := by decide +kernel
theorem dX12_init_236 : decode cX12_init 236 = .ok (.aload_n 0, 1) := by decide +kernel
theorem dX12_init_237 : decode cX12_init 237 = .ok (.getfield 7, 3) := by decide +kernel
theorem dX12_init_240 : decode cX12_init 240 = .ok (.bipush 83, 2) := by decide +kernel
theorem dX12_init_242 : decode cX12_init 242 = .ok (.iload_n 1, 1) := by decide +kernel
theorem dX12_init_243 : decode cX12_init 243 = .ok (.iadd, 1) := by decide +kernel
theorem dX12_init_244 : decode cX12_init 244 = .ok (.bipush 10, 2) := by decide +kernel
theorem dX12_init_246 : decode cX12_init 246 = .ok (.iastore, 1) := by decide +kernel
theorem dX12_init_247 : decode cX12_init 247 = .ok (.iinc 1 1, 3) := by decide +kernel
theorem dX12_init_250 : decode cX12_init 250 = .ok (.goto (-29), 3) := by decide +kernel
theorem dX12_init_253 : decode cX12_init 253 = .ok (.aload_n 0, 1) := by decide +kernel
theorem dX12_init_254 : decode cX12_init 254 = .ok (.getfield 7, 3) := by decide +kernel
theorem dX12_init_257 : decode cX12_init 257 = .ok (.aload_n 0, 1) := by decide +kernel
theorem dX12_init_258 : decode cX12_init 258 = .ok (.getfield 13, 3) := by decide +kernel
theorem dX12_init_261 : decode cX12_init 261 = .ok (.invokestatic 80, 3) := by decide +kernel
theorem dX12_init_264 : decode cX12_init 264 = .ok (.return_, 1) := by decide +kernel
theorem dX12_copy_0 : decode cX12_copy 0 = .ok (.iconst 0, 1) := by decide +kernel
theorem dX12_copy_1 : decode cX12_copy 1 = .ok (.istore_n 2, 1) := by decide +kernel
theorem dX12_copy_2 : decode cX12_copy 2 = .ok (.iload_n 2, 1) := by decide +kernel
theorem dX12_copy_3 : decode cX12_copy 3 = .ok (.sipush 2084, 3) := by decide +kernel
theorem dX12_copy_6 : decode cX12_copy 6 = .ok (.if_icmp .ge 15, 3) := by decide +kernel
theorem dX12_copy_9 : decode cX12_copy 9 = .ok (.aload_n 1, 1) := by decide +kernel
theorem dX12_copy_10 : decode cX12_copy 10 = .ok (.iload_n 2, 1) := by decide +kernel
theorem dX12_copy_11 : decode cX12_copy 11 = .ok (.aload_n 0, 1) := by decide +kernel
theorem dX12_copy_12 : decode cX12_copy 12 = .ok (.iload_n 2, 1) := by decide +kernel
theorem dX12_copy_13 : decode cX12_copy 13 = .ok (.iaload, 1) := by decide +kernel
theorem dX12_copy_14 : decode cX12_copy 14 = .ok (.iastore, 1) := by decide +kernel
theorem dX12_copy_15 : decode cX12_copy 15 = .ok (.iinc 2 1, 3) := by decide +kernel
theorem dX12_copy_18 : decode cX12_copy 18 = .ok (.goto (-16), 3) := by decide +kernel
theorem dX12_copy_21 : decode cX12_copy 21 = .ok (.return_, 1) := by decide +kernel
theorem dX12_isIn_0 : decode cX12_isIn 0 = .ok (.iload_n 0, 1) := by decide +kernel
theorem dX12_isIn_1 : decode cX12_isIn 1 = .ok (.iload_n 1, 1) := by decide +kernel
theorem dX12_isIn_2 : decode cX12_isIn 2 = .ok (.if_icmp .lt 12, 3) := by decide +kernel
theorem dX12_isIn_5 : decode cX12_isIn 5 = .ok (.iload_n 0, 1) := by decide +kernel
theorem dX12_isIn_6 : decode cX12_isIn 6 = .ok (.iload_n 2, 1) := by decide +kernel
theorem dX12_isIn_7 : decode cX12_isIn 7 = .ok (.if_icmp .gt 7, 3) := by decide +kernel
theorem dX12_isIn_10 : decode cX12_isIn 10 = .ok (.iconst 1, 1) := by decide +kernel
theorem dX12_isIn_11 : decode cX12_isIn 11 = .ok (.goto 4, 3) := by decide +kernel
theorem dX12_isIn_14 : decode cX12_isIn 14 = .ok (.iconst 0, 1) := by decide +kernel
theorem dX12_isIn_15 : decode cX12_isIn 15 = .ok (.ireturn, 1) := by decide +kernel
theorem dX12_cut_0 : decode cX12_cut 0 = .ok (.lload_n 0, 1) := by decide +kernel
theorem dX12_cut_1 : decode cX12_cut 1 = .ok (.iload_n 2, 1) := by decide +kernel
theorem dX12_cut_2 : decode cX12_cut 2 = .ok (.i2l, 1) := by decide +kernel
theorem dX12_cut_3 : decode cX12_cut 3 = .ok (.lcmp, 1) := by decide +kernel
theorem dX12_cut_4 : decode cX12_cut 4 = .ok (.ifCond .ge 7, 3) := by decide +kernel
theorem dX12_cut_7 : decode cX12_cut 7 = .ok (.iload_n 2, 1) := by decide +kernel
theorem dX12_cut_8 : decode cX12_cut 8 = .ok (.goto 16, 3) := by decide +kernel
theorem dX12_cut_11 : decode cX12_cut 11 = .ok (.lload_n 0, 1) := by decide +kernel
theorem dX12_cut_12 : decode cX12_cut 12 = .ok (.iload_n 3, 1) := by decide +kernel
theorem dX12_cut_13 : decode cX12_cut 13 = .ok (.i2l, 1) := by decide +kernel
theorem dX12_cut_14 : decode cX12_cut 14 = .ok (.lcmp, 1) := by decide +kernel
theorem dX12_cut_15 : decode cX12_cut 15 = .ok (.ifCond .le 7, 3) := by decide +kernel
theorem dX12_cut_18 : decode cX12_cut 18 = .ok (.iload_n 3, 1) := by decide +kernel
theorem dX12_cut_19 : decode cX12_cut 19 = .ok (.goto 5, 3) := by decide +kernel
theorem dX12_cut_22 : decode cX12_cut 22 = .ok (.lload_n 0, 1) := by decide +kernel
theorem dX12_cut_23 : decode cX12_cut 23 = .ok (.l2i, 1) := by decide +kernel
theorem dX12_cut_24 : decode cX12_cut 24 = .ok (.ireturn, 1) := by decide +kernel
theorem dX12_has_0 : decode cX12_has 0 = .ok (.iload_n 0, 1) := by decide +kernel
theorem dX12_has_1 : decode cX12_has 1 = .ok (.iload_n 1, 1) := by decide +kernel
theorem dX12_has_2 : decode cX12_has 2 = .ok (.ishr, 1) := by decide +kernel
theorem dX12_has_3 : decode cX12_has 3 = .ok (.iconst 1, 1) := by decide +kernel
theorem dX12_has_4 : decode cX12_has 4 = .ok (.iand, 1) := by decide +kernel
theorem dX12_has_5 : decode cX12_has 5 = .ok (.iconst 1, 1) := by decide +kernel
theorem dX12_has_6 : decode cX12_has 6 = .ok (.if_icmp .ne 7, 3) := by decide +kernel
theorem dX12_has_9 : decode cX12_has 9 = .ok (.iconst 1, 1) := by decide +kernel
theorem dX12_has_10 : decode cX12_has 10 = .ok (.goto 4, 3) := by decide +kernel
theorem dX12_has_13 : decode cX12_has 13 = .ok (.iconst 0, 1) := by decide +kernel
theorem dX12_has_14 : decode cX12_has 14 = .ok (.ireturn, 1) := by decide +kernel
theorem dX12_bits_0 : decode cX12_bits 0 = .ok (.iconst 0, 1) := by decide +kernel
theorem dX12_bits_1 : decode cX12_bits 1 = .ok (.istore_n 1, 1) := by decide +kernel
theorem dX12_bits_2 : decode cX12_bits 2 = .ok (.iload_n 0, 1) := by decide +kernel
theorem dX12_bits_3 : decode cX12_bits 3 = .ok (.istore_n 2, 1) := by decide +kernel
theorem dX12_bits_4 : decode cX12_bits 4 = .ok (.iload_n 2, 1) := by decide +kernel
theorem dX12_bits_5 : decode cX12_bits 5 = .ok (.ifCond .eq 15, 3) := by decide +kernel
theorem dX12_bits_8 : decode cX12_bits 8 = .ok (.iinc 1 1, 3) := by decide +kernel
theorem dX12_bits_11 : decode cX12_bits 11 = .ok (.iload_n 2, 1) := by decide +kernel
theorem dX12_bits_12 : decode cX12_bits 12 = .ok (.iload_n 2, 1) := by decide +kernel
theorem dX12_bits_13 : decode cX12_bits 13 = .ok (.iconst 1, 1) := by decide +kernel
theorem dX12_bits_14 : decode cX12_bits 14 = .ok (.isub, 1) := by decide +kernel
theorem dX12_bits_15 : decode cX12_bits 15 = .ok (.iand, 1) := by decide +kernel
theorem dX12_bits_16 : decode cX12_bits 16 = .ok (.istore_n 2, 1) := by decide +kernel
theorem dX12_bits_17 : decode cX12_bits 17 = .ok (.goto (-13), 3) := by decide +kernel
theorem dX12_bits_20 : decode cX12_bits 20 = .ok (.iload_n 1, 1) := by decide +kernel
theorem dX12_bits_21 : decode cX12_bits 21 = .ok (.ireturn, 1) := by decide +kernel
set_option maxRecDepth 20000 in
theorem ggX12_isWant_X12_isIn : GoodIn wsX12_isWant wsX12_isIn := goodIn_r _ [4] (by decide +kernel) (by decide +kernel)
set_option maxRecDepth 20000 in
theorem gX12_isWant_X12_isIn : GoodIn wsX12_isWant (va_wsS RX12 84 yX12_isIn wsX12_isIn) := goodIn_app (goodIn_of _ (by decide +kernel)) ggX12_isWant_X12_isIn
theorem dX12_isWant_0 : decode cX12_isWant 0 = .ok (.iload_n 0, 1) := by decide +kernel
theorem dX12_isWant_1 : decode cX12_isWant 1 = .ok (.iconst 0, 1) := by decide +kernel
theorem dX12_isWant_2 : decode cX12_isWant 2 = .ok (.bipush 11, 2) := by decide +kernel
theorem dX12_isWant_4 : decode cX12_isWant 4 = .ok (.invokestatic 84, 3) := by decide +kernel
theorem dX12_isWant_7 : decode cX12_isWant 7 = .ok (.ireturn, 1) := by decide +kernel
set_option maxRecDepth 20000 in
theorem ggX12_isPerson_X12_isIn : GoodIn wsX12_isPerson wsX12_isIn := goodIn_r _ [5] (by decide +kernel) (by decide +kernel)
set_option maxRecDepth 20000 in
theorem gX12_isPerson_X12_isIn : GoodIn wsX12_isPerson (va_wsS RX12 84 yX12_isIn wsX12_isIn) := goodIn_app (goodIn_of _ (by decide +kernel)) ggX12_isPerson_X12_isIn
theorem dX12_isPerson_0 : decode cX12_isPerson 0 = .ok (.iload_n 1, 1) := by decide +kernel
theorem dX12_isPerson_1 : decode cX12_isPerson 1 = .ok (.iconst 0, 1) := by decide +kernel
theorem dX12_isPerson_2 : decode cX12_isPerson 2 = .ok (.aload_n 0, 1) := by decide +kernel
theorem dX12_isPerson_3 : decode cX12_isPerson 3 = .ok (.getfield 7, 3) := by decide +kernel
theorem dX12_isPerson_6 : decode cX12_isPerson 6 = .ok (.iconst 0, 1) := by decide +kernel
theorem dX12_isPerson_7 : decode cX12_isPerson 7 = .ok (.iaload, 1) := by decide +kernel
theorem dX12_isPerson_8 : decode cX12_isPerson 8 = .ok (.iconst 1, 1) := by decide +kernel
theorem dX12_isPerson_9 : decode cX12_isPerson 9 = .ok (.isub, 1) := by decide +kernel
theorem dX12_isPerson_10 : decode cX12_isPerson 10 = .ok (.invokestatic 84, 3) := by decide +kernel
theorem dX12_isPerson_13 : decode cX12_isPerson 13 = .ok (.ireturn, 1) := by decide +kernel
theorem dX12_get_0 : decode cX12_get 0 = .ok (.aload_n 0, 1) := by decide +kernel
theorem dX12_get_1 : decode cX12_get 1 = .ok (.getfield 7, 3) := by decide +kernel
theorem dX12_get_4 : decode cX12_get 4 = .ok (.bipush 9, 2) := by decide +kernel
theorem dX12_get_6 : decode cX12_get 6 = .ok (.bipush 8, 2) := by decide +kernel
theorem dX12_get_8 : decode cX12_get 8 = .ok (.iload_n 1, 1) := by decide +kernel
theorem dX12_get_9 : decode cX12_get 9 = .ok (.imul, 1) := by decide +kernel
theorem dX12_get_10 : decode cX12_get 10 = .ok (.iadd, 1) := by decide +kernel
theorem dX12_get_11 : decode cX12_get 11 = .ok (.iload_n 2, 1) := by decide +kernel
theorem dX12_get_12 : decode cX12_get 12 = .ok (.iadd, 1) := by decide +kernel
theorem dX12_get_13 : decode cX12_get 13 = .ok (.iaload, 1) := by decide +kernel
theorem dX12_get_14 : decode cX12_get 14 = .ok (.ireturn, 1) := by decide +kernel
theorem dX12_put_0 : decode cX12_put 0 = .ok (.aload_n 0, 1) := by decide +kernel
theorem dX12_put_1 : decode cX12_put 1 = .ok (.getfield 7, 3) := by decide +kernel
theorem dX12_put_4 : decode cX12_put 4 = .ok (.bipush 9, 2) := by decide +kernel
theorem dX12_put_6 : decode cX12_put 6 = .ok (.bipush 8, 2) := by decide +kernel
theorem dX12_put_8 : decode cX12_put 8 = .ok (.iload_n 1, 1) := by decide +kernel
theorem dX12_put_9 : decode cX12_put 9 = .ok (.imul, 1) := by decide +kernel
theorem dX12_put_10 : decode cX12_put 10 = .ok (.iadd, 1) := by decide +kernel
theorem dX12_put_11 : decode cX12_put 11 = .ok (.iload_n 2, 1) := by decide +kernel
theorem dX12_put_12 : decode cX12_put 12 = .ok (.iadd, 1) := by decide +kernel
theorem dX12_put_13 : decode cX12_put 13 = .ok (.iload_n 3, 1) := by decide +kernel
theorem dX12_put_14 : decode cX12_put 14 = .ok (.iastore, 1) := by decide +kernel
theorem dX12_put_15 : decode cX12_put 15 = .ok (.return_, 1) := by decide +kernel
set_option maxRecDepth 20000 in
theorem ggX12_isWaiting_X12_isPerson : GoodIn wsX12_isWaiting wsX12_isPerson := goodIn_r _ [5, 6, 7, 8, 4, 9, 14, 15, 16, 17, 18, 19, 20, 21, 22, 23, 24, 25, 26, 27, 28, 29, 30, 31, 32, 33, 34, 35, 36, 37, 38, 39, 40, 41, 42, 43, 44, 45, 46, 47, 48, 49] (by decide +kernel) (by decide +kernel)
set_option maxRecDepth 20000 in
theorem gX12_isWaiting_X12_isPerson : GoodIn wsX12_isWaiting (wsV RX12 88 RX12 yX12_isPerson wsX12_isPerson) := goodIn_app (goodIn_of _ (by decide +kernel)) ggX12_isWaiting_X12_isPerson
set_option maxRecDepth 20000 in
theorem ggX12_isWaiting_X12_get : GoodIn wsX12_isWaiting wsX12_get := goodIn_r _ [13, 6, 14, 15, 16, 17, 18, 19, 20, 21, 22, 23, 24, 25, 26, 27, 28, 29, 30, 31, 32, 33, 34, 35, 36, 37, 38, 39, 40, 41, 42, 43, 44, 45, 46, 47, 48, 49] (by decide +kernel) (by decide +kernel)
set_option maxRecDepth 20000 in
theorem gX12_isWaiting_X12_get : GoodIn wsX12_isWaiting (wsV RX12 92 RX12 yX12_get wsX12_get) := goodIn_app (goodIn_of _ (by decide +kernel)) ggX12_isWaiting_X12_get
theorem dX12_isWaiting_0 : decode cX12_isWaiting 0 = .ok (.aload_n 0, 1) := by decide +kernel
theorem dX12_isWaiting_1 : decode cX12_isWaiting 1 = .ok (.iload_n 1, 1) := by decide +kernel
theorem dX12_isWaiting_2 : decode cX12_isWaiting 2 = .ok (.invokevirtual 88, 3) := by decide +kernel
theorem dX12_isWaiting_5 : decode cX12_isWaiting 5 = .ok (.ifCond .eq 16, 3) := by decide +kernel
theorem dX12_isWaiting_8 : decode cX12_isWaiting 8 = .ok (.aload_n 0, 1) := by decide +kernel
theorem dX12_isWaiting_9 : decode cX12_isWaiting 9 = .ok (.iload_n 1, 1) := by decide +kernel
theorem dX12_isWaiting_10 : decode cX12_isWaiting 10 = .ok (.iconst 1, 1) := by decide +kernel
theorem dX12_isWaiting_11 : decode cX12_isWaiting 11 = .ok (.invokevirtual 92, 3) := by decide +kernel
theorem dX12_isWaiting_14 : decode cX12_isWaiting 14 = .ok (.ifCond .ne 7, 3) := by decide +kernel
theorem dX12_isWaiting_17 : decode cX12_isWaiting 17 = .ok (.iconst 1, 1) := by decide +kernel
theorem dX12_isWaiting_18 : decode cX12_isWaiting 18 = .ok (.goto 4, 3) := by decide +kernel
theorem dX12_isWaiting_21 : decode cX12_isWaiting 21 = .ok (.iconst 0, 1) := by decide +kernel
theorem dX12_isWaiting_22 : decode cX12_isWaiting 22 = .ok (.ireturn, 1) := by decide +kernel
set_option maxRecDepth 20000 in
theorem ggX12_layLows_X12_has : GoodIn wsX12_layLows wsX12_has := goodIn_r _ [7] (by decide +kernel) (by decide +kernel)
set_option maxRecDepth 20000 in
theorem gX12_layLows_X12_has : GoodIn wsX12_layLows (va_wsS RX12 96 yX12_has wsX12_has) := goodIn_app (goodIn_of _ (by decide +kernel)) ggX12_layLows_X12_has
theorem dX12_layLows_0 : decode cX12_layLows 0 = .ok (.bipush 11, 2) := by decide +kernel
theorem dX12_layLows_2 : decode cX12_layLows 2 = .ok (.istore_n 1, 1) := by decide +kernel
theorem dX12_layLows_3 : decode cX12_layLows 3 = .ok (.iload_n 1, 1) := by decide +kernel
theorem dX12_layLows_4 : decode cX12_layLows 4 = .ok (.ifCond .lt 119, 3) := by decide +kernel
theorem dX12_layLows_7 : decode cX12_layLows 7 = .ok (.aload_n 0, 1) := by decide +kernel
theorem dX12_layLows_8 : decode cX12_layLows 8 = .ok (.getfield 19, 3) := by decide +kernel
theorem dX12_layLows_11 : decode cX12_layLows 11 = .ok (.iload_n 1, 1) := by decide +kernel
theorem dX12_layLows_12 : decode cX12_layLows 12 = .ok (.aload_n 0, 1) := by decide +kernel
theorem dX12_layLows_13 : decode cX12_layLows 13 = .ok (.getfield 7, 3) := by decide +kernel
theorem dX12_layLows_16 : decode cX12_layLows 16 = .ok (.bipush 61, 2) := by decide +kernel
theorem dX12_layLows_18 : decode cX12_layLows 18 = .ok (.iload_n 1, 1) := by decide +kernel
theorem dX12_layLows_19 : decode cX12_layLows 19 = .ok (.iadd, 1) := by decide +kernel
theorem dX12_layLows_20 : decode cX12_layLows 20 = .ok (.iaload, 1) := by decide +kernel
theorem dX12_layLows_21 : decode cX12_layLows 21 = .ok (.iastore, 1) := by decide +kernel
theorem dX12_layLows_22 : decode cX12_layLows 22 = .ok (.aload_n 0, 1) := by decide +kernel
theorem dX12_layLows_23 : decode cX12_layLows 23 = .ok (.getfield 22, 3) := by decide +kernel
theorem dX12_layLows_26 : decode cX12_layLows 26 = .ok (.iload_n 1, 1) := by decide +kernel
theorem dX12_layLows_27 : decode cX12_layLows 27 = .ok (.iconst 0, 1) := by decide +kernel
theorem dX12_layLows_28 : decode cX12_layLows 28 = .ok (.iastore, 1) := by decide +kernel
theorem dX12_layLows_29 : decode cX12_layLows 29 = .ok (.iload_n 1, 1) := by decide +kernel
theorem dX12_layLows_30 : decode cX12_layLows 30 = .ok (.iconst 1, 1) := by decide +kernel
theorem dX12_layLows_31 : decode cX12_layLows 31 = .ok (.iadd, 1) := by decide +kernel
theorem dX12_layLows_32 : decode cX12_layLows 32 = .ok (.istore_n 2, 1) := by decide +kernel
theorem dX12_layLows_33 : decode cX12_layLows 33 = .ok (.iload_n 2, 1) := by decide +kernel
theorem dX12_layLows_34 : decode cX12_layLows 34 = .ok (.bipush 12, 2) := by decide +kernel
theorem dX12_layLows_36 : decode cX12_layLows 36 = .ok (.if_icmp .ge 81, 3) := by decide +kernel
theorem dX12_layLows_39 : decode cX12_layLows 39 = .ok (.aload_n 0, 1) := by decide +kernel
theorem dX12_layLows_40 : decode cX12_layLows 40 = .ok (.getfield 7, 3) := by decide +kernel
theorem dX12_layLows_43 : decode cX12_layLows 43 = .ok (.bipush 61, 2) := by decide +kernel
theorem dX12_layLows_45 : decode cX12_layLows 45 = .ok (.iload_n 1, 1) := by decide +kernel
theorem dX12_layLows_46 : decode cX12_layLows 46 = .ok (.iadd, 1) := by decide +kernel
theorem dX12_layLows_47 : decode cX12_layLows 47 = .ok (.iaload, 1) := by decide +kernel
theorem dX12_layLows_48 : decode cX12_layLows 48 = .ok (.iload_n 2, 1) := by decide +kernel
theorem dX12_layLows_49 : decode cX12_layLows 49 = .ok (.invokestatic 96, 3) := by decide +kernel
theorem dX12_layLows_52 : decode cX12_layLows 52 = .ok (.ifCond .ne 6, 3) := by decide +kernel
theorem dX12_layLows_55 : decode cX12_layLows 55 = .ok (.goto 56, 3) := by decide +kernel
theorem dX12_layLows_58 : decode cX12_layLows 58 = .ok (.aload_n 0, 1) := by decide +kernel
theorem dX12_layLows_59 : decode cX12_layLows 59 = .ok (.getfield 19, 3) := by decide +kernel
theorem dX12_layLows_62 : decode cX12_layLows 62 = .ok (.iload_n 1, 1) := by decide +kernel
theorem dX12_layLows_63 : decode cX12_layLows 63 = .ok (.dup2, 1) := by decide +kernel
theorem dX12_layLows_64 : decode cX12_layLows 64 = .ok (.iaload, 1) := by decide +kernel
theorem dX12_layLows_65 : decode cX12_layLows 65 = .ok (.aload_n 0, 1) := by decide +kernel
theorem dX12_layLows_66 : decode cX12_layLows 66 = .ok (.getfield 19, 3) := by decide +kernel
theorem dX12_layLows_69 : decode cX12_layLows 69 = .ok (.iload_n 2, 1) := by decide +kernel
theorem dX12_layLows_70 : decode cX12_layLows 70 = .ok (.iaload, 1) := by decide +kernel
theorem dX12_layLows_71 : decode cX12_layLows 71 = .ok (.ior, 1) := by decide +kernel
theorem dX12_layLows_72 : decode cX12_layLows 72 = .ok (.iastore, 1) := by decide +kernel
theorem dX12_layLows_73 : decode cX12_layLows 73 = .ok (.aload_n 0, 1) := by decide +kernel
theorem dX12_layLows_74 : decode cX12_layLows 74 = .ok (.getfield 22, 3) := by decide +kernel
theorem dX12_layLows_77 : decode cX12_layLows 77 = .ok (.iload_n 1, 1) := by decide +kernel
theorem dX12_layLows_78 : decode cX12_layLows 78 = .ok (.aload_n 0, 1) := by decide +kernel
theorem dX12_layLows_79 : decode cX12_layLows 79 = .ok (.getfield 22, 3) := by decide +kernel
theorem dX12_layLows_82 : decode cX12_layLows 82 = .ok (.iload_n 2, 1) := by decide +kernel
theorem dX12_layLows_83 : decode cX12_layLows 83 = .ok (.iaload, 1) := by decide +kernel
theorem dX12_layLows_84 : decode cX12_layLows 84 = .ok (.aload_n 0, 1) := by decide +kernel
theorem dX12_layLows_85 : decode cX12_layLows 85 = .ok (.getfield 22, 3) := by decide +kernel
theorem dX12_layLows_88 : decode cX12_layLows 88 = .ok (.iload_n 1, 1) := by decide +kernel
theorem dX12_layLows_89 : decode cX12_layLows 89 = .ok (.iaload, 1) := by decide +kernel
theorem dX12_layLows_90 : decode cX12_layLows 90 = .ok (.if_icmp .lt 14, 3) := by decide +kernel
theorem dX12_layLows_93 : decode cX12_layLows 93 = .ok (.aload_n 0, 1) := by decide +kernel
theorem dX12_layLows_94 : decode cX12_layLows 94 = .ok (.getfield 22, 3) := by decide +kernel
theorem dX12_layLows_97 : decode cX12_layLows 97 = .ok (.iload_n 2, 1) := by decide +kernel
theorem dX12_layLows_98 : decode cX12_layLows 98 = .ok (.iaload, 1) := by decide +kernel
theorem dX12_layLows_99 : decode cX12_layLows 99 = .ok (.iconst 1, 1) := by decide +kernel
theorem dX12_layLows_100 : decode cX12_layLows 100 = .ok (.iadd, 1) := by decide +kernel
theorem dX12_layLows_101 : decode cX12_layLows 101 = .ok (.goto 9, 3) := by decide +kernel
theorem dX12_layLows_104 : decode cX12_layLows 104 = .ok (.aload_n 0, 1) := by decide +kernel
theorem dX12_layLows_105 : decode cX12_layLows 105 = .ok (.getfield 22, 3) := by decide +kernel
theorem dX12_layLows_108 : decode cX12_layLows 108 = .ok (.iload_n 1, 1) := by decide +kernel
theorem dX12_layLows_109 : decode cX12_layLows 109 = .ok (.iaload, 1) := by decide +kernel
theorem dX12_layLows_110 : decode cX12_layLows 110 = .ok (.iastore, 1) := by decide +kernel
theorem dX12_layLows_111 : decode cX12_layLows 111 = .ok (.iinc 2 1, 3) := by decide +kernel
theorem dX12_layLows_114 : decode cX12_layLows 114 = .ok (.goto (-81), 3) := by decide +kernel
theorem dX12_layLows_117 : decode cX12_layLows 117 = .ok (.iinc 1 (-1), 3) := by decide +kernel
theorem dX12_layLows_120 : decode cX12_layLows 120 = .ok (.goto (-117), 3) := by decide +kernel
theorem dX12_layLows_123 : decode cX12_layLows 123 = .ok (.return_, 1) := by decide +kernel
set_option maxRecDepth 20000 in
theorem ggX12_pain_X12_isWant : GoodIn wsX12_pain wsX12_isWant := goodIn_r _ [5, 6, 7, 4, 8] (by decide +kernel) (by decide +kernel)
set_option maxRecDepth 20000 in
theorem gX12_pain_X12_isWant : GoodIn wsX12_pain (va_wsS RX12 100 yX12_isWant wsX12_isWant) := goodIn_app (goodIn_of _ (by decide +kernel)) ggX12_pain_X12_isWant
set_option maxRecDepth 20000 in
theorem ggX12_pain_X12_isIn : GoodIn wsX12_pain wsX12_isIn := goodIn_r _ [8] (by decide +kernel) (by decide +kernel)
set_option maxRecDepth 20000 in
theorem gX12_pain_X12_isIn : GoodIn wsX12_pain (va_wsS RX12 84 yX12_isIn wsX12_isIn) := goodIn_app (goodIn_of _ (by decide +kernel)) ggX12_pain_X12_isIn
theorem dX12_pain_0 : decode cX12_pain 0 = .ok (.iload_n 1, 1) := by decide +kernel
theorem dX12_pain_1 : decode cX12_pain 1 = .ok (.invokestatic 100, 3) := by decide +kernel
theorem dX12_pain_4 : decode cX12_pain 4 = .ok (.ifCond .eq 13, 3) := by decide +kernel
theorem dX12_pain_7 : decode cX12_pain 7 = .ok (.iload_n 2, 1) := by decide +kernel
theorem dX12_pain_8 : decode cX12_pain 8 = .ok (.iconst 0, 1) := by decide +kernel
theorem dX12_pain_9 : decode cX12_pain 9 = .ok (.bipush 99, 2) := by decide +kernel
theorem dX12_pain_11 : decode cX12_pain 11 = .ok (.invokestatic 84, 3) := by decide +kernel
theorem dX12_pain_14 : decode cX12_pain 14 = .ok (.ifCond .ne 5, 3) := by decide +kernel
theorem dX12_pain_17 : decode cX12_pain 17 = .ok (.iconst 0, 1) := by decide +kernel
theorem dX12_pain_18 : decode cX12_pain 18 = .ok (.ireturn, 1) := by decide +kernel
theorem dX12_pain_19 : decode cX12_pain 19 = .ok (.aload_n 0, 1) := by decide +kernel
theorem dX12_pain_20 : decode cX12_pain 20 = .ok (.getfield 7, 3) := by decide +kernel
theorem dX12_pain_23 : decode cX12_pain 23 = .ok (.bipush 49, 2) := by decide +kernel
theorem dX12_pain_25 : decode cX12_pain 25 = .ok (.iload_n 1, 1) := by decide +kernel
theorem dX12_pain_26 : decode cX12_pain 26 = .ok (.iadd, 1) := by decide +kernel
theorem dX12_pain_27 : decode cX12_pain 27 = .ok (.iload_n 2, 1) := by decide +kernel
theorem dX12_pain_28 : decode cX12_pain 28 = .ok (.iastore, 1) := by decide +kernel
theorem dX12_pain_29 : decode cX12_pain 29 = .ok (.iconst 1, 1) := by decide +kernel
theorem dX12_pain_30 : decode cX12_pain 30 = .ok (.ireturn, 1) := by decide +kernel
set_option maxRecDepth 20000 in
theorem ggX12_hang_X12_isWant : GoodIn wsX12_hang wsX12_isWant := goodIn_r _ [5, 6, 7, 4, 8] (by decide +kernel) (by decide +kernel)
set_option maxRecDepth 20000 in
theorem gX12_hang_X12_isWant : GoodIn wsX12_hang (va_wsS RX12 100 yX12_isWant wsX12_isWant) := goodIn_app (goodIn_of _ (by decide +kernel)) ggX12_hang_X12_isWant
set_option maxRecDepth 20000 in
theorem ggX12_hang_X12_has : GoodIn wsX12_hang wsX12_has := goodIn_r _ [11] (by decide +kernel) (by decide +kernel)
set_option maxRecDepth 20000 in
theorem gX12_hang_X12_has : GoodIn wsX12_hang (va_wsS RX12 96 yX12_has wsX12_has) := goodIn_app (goodIn_of _ (by decide +kernel)) ggX12_hang_X12_has
theorem dX12_hang_0 : decode cX12_hang 0 = .ok (.iload_n 1, 1) := by decide +kernel
theorem dX12_hang_1 : decode cX12_hang 1 = .ok (.invokestatic 100, 3) := by decide +kernel
theorem dX12_hang_4 : decode cX12_hang 4 = .ok (.ifCond .eq 32, 3) := by decide +kernel
theorem dX12_hang_7 : decode cX12_hang 7 = .ok (.iload_n 2, 1) := by decide +kernel
theorem dX12_hang_8 : decode cX12_hang 8 = .ok (.invokestatic 100, 3) := by decide +kernel
theorem dX12_hang_11 : decode cX12_hang 11 = .ok (.ifCond .eq 25, 3) := by decide +kernel
theorem dX12_hang_14 : decode cX12_hang 14 = .ok (.iload_n 2, 1) := by decide +kernel
theorem dX12_hang_15 : decode cX12_hang 15 = .ok (.iload_n 1, 1) := by decide +kernel
theorem dX12_hang_16 : decode cX12_hang 16 = .ok (.if_icmp .le 20, 3) := by decide +kernel
theorem dX12_hang_19 : decode cX12_hang 19 = .ok (.aload_n 0, 1) := by decide +kernel
theorem dX12_hang_20 : decode cX12_hang 20 = .ok (.getfield 7, 3) := by decide +kernel
theorem dX12_hang_23 : decode cX12_hang 23 = .ok (.bipush 61, 2) := by decide +kernel
theorem dX12_hang_25 : decode cX12_hang 25 = .ok (.iload_n 1, 1) := by decide +kernel
theorem dX12_hang_26 : decode cX12_hang 26 = .ok (.iadd, 1) := by decide +kernel
theorem dX12_hang_27 : decode cX12_hang 27 = .ok (.iaload, 1) := by decide +kernel
theorem dX12_hang_28 : decode cX12_hang 28 = .ok (.iload_n 2, 1) := by decide +kernel
theorem dX12_hang_29 : decode cX12_hang 29 = .ok (.invokestatic 96, 3) := by decide +kernel
theorem dX12_hang_32 : decode cX12_hang 32 = .ok (.iload_n 3, 1) := by decide +kernel
theorem dX12_hang_33 : decode cX12_hang 33 = .ok (.if_icmp .ne 5, 3) := by decide +kernel
theorem dX12_hang_36 : decode cX12_hang 36 = .ok (.iconst 0, 1) := by decide +kernel
theorem dX12_hang_37 : decode cX12_hang 37 = .ok (.ireturn, 1) := by decide +kernel
theorem dX12_hang_38 : decode cX12_hang 38 = .ok (.aload_n 0, 1) := by decide +kernel
theorem dX12_hang_39 : decode cX12_hang 39 = .ok (.getfield 7, 3) := by decide +kernel
theorem dX12_hang_42 : decode cX12_hang 42 = .ok (.bipush 61, 2) := by decide +kernel
theorem dX12_hang_44 : decode cX12_hang 44 = .ok (.iload_n 1, 1) := by decide +kernel
theorem dX12_hang_45 : decode cX12_hang 45 = .ok (.iadd, 1) := by decide +kernel
theorem dX12_hang_46 : decode cX12_hang 46 = .ok (.dup2, 1) := by decide +kernel
theorem dX12_hang_47 : decode cX12_hang 47 = .ok (.iaload, 1) := by decide +kernel
theorem dX12_hang_48 : decode cX12_hang 48 = .ok (.iconst 1, 1) := by decide +kernel
theorem dX12_hang_49 : decode cX12_hang 49 = .ok (.iload_n 2, 1) := by decide +kernel
theorem dX12_hang_50 : decode cX12_hang 50 = .ok (.ishl, 1) := by decide +kernel
theorem dX12_hang_51 : decode cX12_hang 51 = .ok (.ixor, 1) := by decide +kernel
theorem dX12_hang_52 : decode cX12_hang 52 = .ok (.iastore, 1) := by decide +kernel
theorem dX12_hang_53 : decode cX12_hang 53 = .ok (.iconst 1, 1) := by decide +kernel
theorem dX12_hang_54 : decode cX12_hang 54 = .ok (.ireturn, 1) := by decide +kernel
set_option maxRecDepth 20000 in
theorem ggX12_person_X12_isWant : GoodIn wsX12_person wsX12_isWant := goodIn_r _ [5, 6, 7, 4, 8] (by decide +kernel) (by decide +kernel)
set_option maxRecDepth 20000 in
theorem gX12_person_X12_isWant : GoodIn wsX12_person (va_wsS RX12 100 yX12_isWant wsX12_isWant) := goodIn_app (goodIn_of _ (by decide +kernel)) ggX12_person_X12_isWant
set_option maxRecDepth 20000 in
theorem ggX12_person_X12_isIn : GoodIn wsX12_person wsX12_isIn := goodIn_r _ [8] (by decide +kernel) (by decide +kernel)
set_option maxRecDepth 20000 in
theorem gX12_person_X12_isIn : GoodIn wsX12_person (va_wsS RX12 84 yX12_isIn wsX12_isIn) := goodIn_app (goodIn_of _ (by decide +kernel)) ggX12_person_X12_isIn
set_option maxRecDepth 20000 in
theorem ggX12_person_X12_put : GoodIn wsX12_person wsX12_put := goodIn_r _ [12, 1, 17, 18, 19, 20, 21, 22, 23, 24, 25, 26, 27, 28, 29, 30, 31, 32, 33, 34, 35, 36, 37, 38, 39, 40, 41, 42, 43, 44, 45, 46, 47, 48, 49, 50, 51, 52] (by decide +kernel) (by decide +kernel)
set_option maxRecDepth 20000 in
theorem gX12_person_X12_put : GoodIn wsX12_person (wsV RX12 103 RX12 yX12_put wsX12_put) := goodIn_app (goodIn_of _ (by decide +kernel)) ggX12_person_X12_put
set_option maxRecDepth 20000 in
theorem ggX12_person_X12_begin : GoodIn wsX12_person wsX12_begin := goodIn_r _ [16, 9, 10, 11, 4, 12, 1, 17, 18, 19, 20, 21, 22, 23, 24, 25, 26, 27, 28, 29, 30, 31, 32, 33, 34, 35, 36, 37, 38, 39, 40, 41, 42, 43, 44, 45, 46, 47, 48, 49, 50, 51, 52] (by decide +kernel) (by decide +kernel)
set_option maxRecDepth 20000 in
theorem gX12_person_X12_begin : GoodIn wsX12_person (wsV RX12 107 RX12 yX12_begin wsX12_begin) := goodIn_app (goodIn_of _ (by decide +kernel)) ggX12_person_X12_begin
theorem dX12_person_0 : decode cX12_person 0 = .ok (.iload_n 1, 1) := by decide +kernel
theorem dX12_person_1 : decode cX12_person 1 = .ok (.invokestatic 100, 3) := by decide +kernel
theorem dX12_person_4 : decode cX12_person 4 = .ok (.ifCond .eq 23, 3) := by decide +kernel
theorem dX12_person_7 : decode cX12_person 7 = .ok (.iload_n 2, 1) := by decide +kernel
theorem dX12_person_8 : decode cX12_person 8 = .ok (.iconst 0, 1) := by decide +kernel
theorem dX12_person_9 : decode cX12_person 9 = .ok (.bipush 99, 2) := by decide +kernel
theorem dX12_person_11 : decode cX12_person 11 = .ok (.invokestatic 84, 3) := by decide +kernel
theorem dX12_person_14 : decode cX12_person 14 = .ok (.ifCond .eq 13, 3) := by decide +kernel
theorem dX12_person_17 : decode cX12_person 17 = .ok (.aload_n 0, 1) := by decide +kernel
theorem dX12_person_18 : decode cX12_person 18 = .ok (.getfield 7, 3) := by decide +kernel
theorem dX12_person_21 : decode cX12_person 21 = .ok (.iconst 0, 1) := by decide +kernel
theorem dX12_person_22 : decode cX12_person 22 = .ok (.iaload, 1) := by decide +kernel
theorem dX12_person_23 : decode cX12_person 23 = .ok (.iconst 5, 1) := by decide +kernel
theorem dX12_person_24 : decode cX12_person 24 = .ok (.if_icmp .ne 5, 3) := by decide +kernel
theorem dX12_person_27 : decode cX12_person 27 = .ok (.iconst (-1), 1) := by decide +kernel
theorem dX12_person_28 : decode cX12_person 28 = .ok (.ireturn, 1) := by decide +kernel
theorem dX12_person_29 : decode cX12_person 29 = .ok (.aload_n 0, 1) := by decide +kernel
theorem dX12_person_30 : decode cX12_person 30 = .ok (.getfield 7, 3) := by decide +kernel
theorem dX12_person_33 : decode cX12_person 33 = .ok (.iconst 0, 1) := by decide +kernel
theorem dX12_person_34 : decode cX12_person 34 = .ok (.iaload, 1) := by decide +kernel
theorem dX12_person_35 : decode cX12_person 35 = .ok (.istore_n 3, 1) := by decide +kernel
theorem dX12_person_36 : decode cX12_person 36 = .ok (.aload_n 0, 1) := by decide +kernel
theorem dX12_person_37 : decode cX12_person 37 = .ok (.iload_n 3, 1) := by decide +kernel
theorem dX12_person_38 : decode cX12_person 38 = .ok (.bipush 6, 2) := by decide +kernel
theorem dX12_person_40 : decode cX12_person 40 = .ok (.iload_n 1, 1) := by decide +kernel
theorem dX12_person_41 : decode cX12_person 41 = .ok (.invokevirtual 103, 3) := by decide +kernel
theorem dX12_person_44 : decode cX12_person 44 = .ok (.aload_n 0, 1) := by decide +kernel
theorem dX12_person_45 : decode cX12_person 45 = .ok (.iload_n 3, 1) := by decide +kernel
theorem dX12_person_46 : decode cX12_person 46 = .ok (.bipush 7, 2) := by decide +kernel
theorem dX12_person_48 : decode cX12_person 48 = .ok (.iload_n 2, 1) := by decide +kernel
theorem dX12_person_49 : decode cX12_person 49 = .ok (.invokevirtual 103, 3) := by decide +kernel
theorem dX12_person_52 : decode cX12_person 52 = .ok (.aload_n 0, 1) := by decide +kernel
theorem dX12_person_53 : decode cX12_person 53 = .ok (.iload_n 3, 1) := by decide +kernel
theorem dX12_person_54 : decode cX12_person 54 = .ok (.iconst 4, 1) := by decide +kernel
theorem dX12_person_55 : decode cX12_person 55 = .ok (.iload_n 2, 1) := by decide +kernel
theorem dX12_person_56 : decode cX12_person 56 = .ok (.invokevirtual 103, 3) := by decide +kernel
theorem dX12_person_59 : decode cX12_person 59 = .ok (.aload_n 0, 1) := by decide +kernel
theorem dX12_person_60 : decode cX12_person 60 = .ok (.iload_n 3, 1) := by decide +kernel
theorem dX12_person_61 : decode cX12_person 61 = .ok (.iload_n 1, 1) := by decide +kernel
theorem dX12_person_62 : decode cX12_person 62 = .ok (.invokevirtual 107, 3) := by decide +kernel
theorem dX12_person_65 : decode cX12_person 65 = .ok (.aload_n 0, 1) := by decide +kernel
theorem dX12_person_66 : decode cX12_person 66 = .ok (.getfield 7, 3) := by decide +kernel
theorem dX12_person_69 : decode cX12_person 69 = .ok (.iconst 0, 1) := by decide +kernel
theorem dX12_person_70 : decode cX12_person 70 = .ok (.dup2, 1) := by decide +kernel
theorem dX12_person_71 : decode cX12_person 71 = .ok (.iaload, 1) := by decide +kernel
theorem dX12_person_72 : decode cX12_person 72 = .ok (.iconst 1, 1) := by decide +kernel
theorem dX12_person_73 : decode cX12_person 73 = .ok (.iadd, 1) := by decide +kernel
theorem dX12_person_74 : decode cX12_person 74 = .ok (.iastore, 1) := by decide +kernel
theorem dX12_person_75 : decode cX12_person 75 = .ok (.iload_n 3, 1) := by decide +kernel
theorem dX12_person_76 : decode cX12_person 76 = .ok (.ireturn, 1) := by decide +kernel
set_option maxRecDepth 20000 in
theorem ggX12_begin_X12_put : GoodIn wsX12_begin wsX12_put := goodIn_r _ [5, 6, 7, 8, 9, 10, 11, 12, 13, 14, 15, 16, 17, 18, 19, 20, 21, 22, 23, 24, 25, 26, 27, 28, 29, 30, 31, 32, 33, 34, 35, 36, 37, 38, 39, 40, 41, 42] (by decide +kernel) (by decide +kernel)
set_option maxRecDepth 20000 in
theorem gX12_begin_X12_put : GoodIn wsX12_begin (wsV RX12 103 RX12 yX12_put wsX12_put) := goodIn_app (goodIn_of _ (by decide +kernel)) ggX12_begin_X12_put
theorem dX12_begin_0 : decode cX12_begin 0 = .ok (.aload_n 0, 1) := by decide +kernel
theorem dX12_begin_1 : decode cX12_begin 1 = .ok (.iload_n 1, 1) := by decide +kernel
theorem dX12_begin_2 : decode cX12_begin 2 = .ok (.iconst 0, 1) := by decide +kernel
theorem dX12_begin_3 : decode cX12_begin 3 = .ok (.iload_n 2, 1) := by decide +kernel
theorem dX12_begin_4 : decode cX12_begin 4 = .ok (.invokevirtual 103, 3) := by decide +kernel
theorem dX12_begin_7 : decode cX12_begin 7 = .ok (.aload_n 0, 1) := by decide +kernel
theorem dX12_begin_8 : decode cX12_begin 8 = .ok (.iload_n 1, 1) := by decide +kernel
theorem dX12_begin_9 : decode cX12_begin 9 = .ok (.iconst 1, 1) := by decide +kernel
theorem dX12_begin_10 : decode cX12_begin 10 = .ok (.iconst 0, 1) := by decide +kernel
theorem dX12_begin_11 : decode cX12_begin 11 = .ok (.invokevirtual 103, 3) := by decide +kernel
theorem dX12_begin_14 : decode cX12_begin 14 = .ok (.aload_n 0, 1) := by decide +kernel
theorem dX12_begin_15 : decode cX12_begin 15 = .ok (.iload_n 1, 1) := by decide +kernel
theorem dX12_begin_16 : decode cX12_begin 16 = .ok (.iconst 2, 1) := by decide +kernel
theorem dX12_begin_17 : decode cX12_begin 17 = .ok (.iconst 0, 1) := by decide +kernel
theorem dX12_begin_18 : decode cX12_begin 18 = .ok (.invokevirtual 103, 3) := by decide +kernel
theorem dX12_begin_21 : decode cX12_begin 21 = .ok (.aload_n 0, 1) := by decide +kernel
theorem dX12_begin_22 : decode cX12_begin 22 = .ok (.iload_n 1, 1) := by decide +kernel
theorem dX12_begin_23 : decode cX12_begin 23 = .ok (.iconst 3, 1) := by decide +kernel
theorem dX12_begin_24 : decode cX12_begin 24 = .ok (.iconst 0, 1) := by decide +kernel
theorem dX12_begin_25 : decode cX12_begin 25 = .ok (.invokevirtual 103, 3) := by decide +kernel
theorem dX12_begin_28 : decode cX12_begin 28 = .ok (.aload_n 0, 1) := by decide +kernel
theorem dX12_begin_29 : decode cX12_begin 29 = .ok (.iload_n 1, 1) := by decide +kernel
theorem dX12_begin_30 : decode cX12_begin 30 = .ok (.iconst 5, 1) := by decide +kernel
theorem dX12_begin_31 : decode cX12_begin 31 = .ok (.iconst 0, 1) := by decide +kernel
theorem dX12_begin_32 : decode cX12_begin 32 = .ok (.invokevirtual 103, 3) := by decide +kernel
theorem dX12_begin_35 : decode cX12_begin 35 = .ok (.return_, 1) := by decide +kernel
theorem dX12_four_0 : decode cX12_four 0 = .ok (.bipush 24, 2) := by decide +kernel
theorem dX12_four_2 : decode cX12_four 2 = .ok (.istore_n 2, 1) := by decide +kernel
theorem dX12_four_3 : decode cX12_four 3 = .ok (.iload_n 2, 1) := by decide +kernel
theorem dX12_four_4 : decode cX12_four 4 = .ok (.ifCond .lt 35, 3) := by decide +kernel
theorem dX12_four_7 : decode cX12_four 7 = .ok (.aload_n 0, 1) := by decide +kernel
theorem dX12_four_8 : decode cX12_four 8 = .ok (.getfield 25, 3) := by decide +kernel
theorem dX12_four_11 : decode cX12_four 11 = .ok (.aload_n 0, 1) := by decide +kernel
theorem dX12_four_12 : decode cX12_four 12 = .ok (.getfield 111, 3) := by decide +kernel
theorem dX12_four_15 : decode cX12_four 15 = .ok (.iload_n 1, 1) := by decide +kernel
theorem dX12_four_16 : decode cX12_four 16 = .ok (.iload_n 2, 1) := by decide +kernel
theorem dX12_four_17 : decode cX12_four 17 = .ok (.ishr, 1) := by decide +kernel
theorem dX12_four_18 : decode cX12_four 18 = .ok (.sipush 255, 3) := by decide +kernel
theorem dX12_four_21 : decode cX12_four 21 = .ok (.iand, 1) := by decide +kernel
theorem dX12_four_22 : decode cX12_four 22 = .ok (.iastore, 1) := by decide +kernel
theorem dX12_four_23 : decode cX12_four 23 = .ok (.aload_n 0, 1) := by decide +kernel
theorem dX12_four_24 : decode cX12_four 24 = .ok (.dup, 1) := by decide +kernel
theorem dX12_four_25 : decode cX12_four 25 = .ok (.getfield 111, 3) := by decide +kernel
theorem dX12_four_28 : decode cX12_four 28 = .ok (.iconst 1, 1) := by decide +kernel
theorem dX12_four_29 : decode cX12_four 29 = .ok (.iadd, 1) := by decide +kernel
theorem dX12_four_30 : decode cX12_four 30 = .ok (.putfield 111, 3) := by decide +kernel
theorem dX12_four_33 : decode cX12_four 33 = .ok (.iinc 2 (-8), 3) := by decide +kernel
theorem dX12_four_36 : decode cX12_four 36 = .ok (.goto (-33), 3) := by decide +kernel
theorem dX12_four_39 : decode cX12_four 39 = .ok (.return_, 1) := by decide +kernel
set_option maxRecDepth 20000 in
theorem ggX12_feed_X12_four : GoodIn wsX12_feed wsX12_four := goodIn_r _ [6, 7, 1, 8, 9, 10, 11, 12, 13, 14, 15, 16, 17, 18, 19, 20, 21, 22, 23, 24, 25, 26, 27, 28, 29, 30, 31, 32, 33, 34, 35, 36, 37, 38, 39, 40, 41, 42, 43] (by decide +kernel) (by decide +kernel)
set_option maxRecDepth 20000 in
theorem gX12_feed_X12_four : GoodIn wsX12_feed (wsV RX12 114 RX12 yX12_four wsX12_four) := goodIn_app (goodIn_of _ (by decide +kernel)) ggX12_feed_X12_four
theorem dX12_feed_0 : decode cX12_feed 0 = .ok (.aload_n 0, 1) := by decide +kernel
theorem dX12_feed_1 : decode cX12_feed 1 = .ok (.getfield 111, 3) := by decide +kernel
theorem dX12_feed_4 : decode cX12_feed 4 = .ok (.bipush 20, 2) := by decide +kernel
theorem dX12_feed_6 : decode cX12_feed 6 = .ok (.iadd, 1) := by decide +kernel
theorem dX12_feed_7 : decode cX12_feed 7 = .ok (.sipush 300, 3) := by decide +kernel
theorem dX12_feed_10 : decode cX12_feed 10 = .ok (.if_icmp .le 5, 3) := by decide +kernel
theorem dX12_feed_13 : decode cX12_feed 13 = .ok (.iconst (-1), 1) := by decide +kernel
theorem dX12_feed_14 : decode cX12_feed 14 = .ok (.ireturn, 1) := by decide +kernel
theorem dX12_feed_15 : decode cX12_feed 15 = .ok (.aload_n 0, 1) := by decide +kernel
theorem dX12_feed_16 : decode cX12_feed 16 = .ok (.iload_n 1, 1) := by decide +kernel
theorem dX12_feed_17 : decode cX12_feed 17 = .ok (.invokevirtual 114, 3) := by decide +kernel
theorem dX12_feed_20 : decode cX12_feed 20 = .ok (.aload_n 0, 1) := by decide +kernel
theorem dX12_feed_21 : decode cX12_feed 21 = .ok (.iload_n 2, 1) := by decide +kernel
theorem dX12_feed_22 : decode cX12_feed 22 = .ok (.invokevirtual 114, 3) := by decide +kernel
theorem dX12_feed_25 : decode cX12_feed 25 = .ok (.aload_n 0, 1) := by decide +kernel
theorem dX12_feed_26 : decode cX12_feed 26 = .ok (.iload_n 3, 1) := by decide +kernel
theorem dX12_feed_27 : decode cX12_feed 27 = .ok (.invokevirtual 114, 3) := by decide +kernel
theorem dX12_feed_30 : decode cX12_feed 30 = .ok (.aload_n 0, 1) := by decide +kernel
theorem dX12_feed_31 : decode cX12_feed 31 = .ok (.iload 4, 2) := by decide +kernel
theorem dX12_feed_33 : decode cX12_feed 33 = .ok (.invokevirtual 114, 3) := by decide +kernel
theorem dX12_feed_36 : decode cX12_feed 36 = .ok (.aload_n 0, 1) := by decide +kernel
theorem dX12_feed_37 : decode cX12_feed 37 = .ok (.iload 5, 2) := by decide +kernel
theorem dX12_feed_39 : decode cX12_feed 39 = .ok (.invokevirtual 114, 3) := by decide +kernel
theorem dX12_feed_42 : decode cX12_feed 42 = .ok (.aload_n 0, 1) := by decide +kernel
theorem dX12_feed_43 : decode cX12_feed 43 = .ok (.getfield 111, 3) := by decide +kernel
theorem dX12_feed_46 : decode cX12_feed 46 = .ok (.ireturn, 1) := by decide +kernel
set_option maxRecDepth 20000 in
theorem ggX12_end_X12_isIn : GoodIn wsX12_end wsX12_isIn := goodIn_r _ [5] (by decide +kernel) (by decide +kernel)
set_option maxRecDepth 20000 in
theorem gX12_end_X12_isIn : GoodIn wsX12_end (va_wsS RX12 84 yX12_isIn wsX12_isIn) := goodIn_app (goodIn_of _ (by decide +kernel)) ggX12_end_X12_isIn
theorem dX12_end_0 : decode cX12_end 0 = .ok (.iload_n 1, 1) := by decide +kernel
theorem dX12_end_1 : decode cX12_end 1 = .ok (.iconst 0, 1) := by decide +kernel
theorem dX12_end_2 : decode cX12_end 2 = .ok (.aload_n 0, 1) := by decide +kernel
theorem dX12_end_3 : decode cX12_end 3 = .ok (.getfield 111, 3) := by decide +kernel
theorem dX12_end_6 : decode cX12_end 6 = .ok (.invokestatic 84, 3) := by decide +kernel
theorem dX12_end_9 : decode cX12_end 9 = .ok (.ifCond .ne 5, 3) := by decide +kernel
theorem dX12_end_12 : decode cX12_end 12 = .ok (.iconst (-1), 1) := by decide +kernel
theorem dX12_end_13 : decode cX12_end 13 = .ok (.ireturn, 1) := by decide +kernel
theorem dX12_end_14 : decode cX12_end 14 = .ok (.aload_n 0, 1) := by decide +kernel
theorem dX12_end_15 : decode cX12_end 15 = .ok (.iload_n 1, 1) := by decide +kernel
theorem dX12_end_16 : decode cX12_end 16 = .ok (.putfield 111, 3) := by decide +kernel
theorem dX12_end_19 : decode cX12_end 19 = .ok (.iload_n 1, 1) := by decide +kernel
theorem dX12_end_20 : decode cX12_end 20 = .ok (.ireturn, 1) := by decide +kernel
theorem dX12_byteAt_0 : decode cX12_byteAt 0 = .ok (.iload_n 1, 1) := by decide +kernel
theorem dX12_byteAt_1 : decode cX12_byteAt 1 = .ok (.aload_n 0, 1) := by decide +kernel
theorem dX12_byteAt_2 : decode cX12_byteAt 2 = .ok (.getfield 111, 3) := by decide +kernel
theorem dX12_byteAt_5 : decode cX12_byteAt 5 = .ok (.if_icmp .ge 12, 3) := by decide +kernel
theorem dX12_byteAt_8 : decode cX12_byteAt 8 = .ok (.aload_n 0, 1) := by decide +kernel
theorem dX12_byteAt_9 : decode cX12_byteAt 9 = .ok (.getfield 25, 3) := by decide +kernel
theorem dX12_byteAt_12 : decode cX12_byteAt 12 = .ok (.iload_n 1, 1) := by decide +kernel
theorem dX12_byteAt_13 : decode cX12_byteAt 13 = .ok (.iaload, 1) := by decide +kernel
theorem dX12_byteAt_14 : decode cX12_byteAt 14 = .ok (.goto 4, 3) := by decide +kernel
theorem dX12_byteAt_17 : decode cX12_byteAt 17 = .ok (.iconst (-1), 1) := by decide +kernel
theorem dX12_byteAt_18 : decode cX12_byteAt 18 = .ok (.ireturn, 1) := by decide +kernel
theorem dX12_isLetterByte_0 : decode cX12_isLetterByte 0 = .ok (.iload_n 0, 1) := by decide +kernel
theorem dX12_isLetterByte_1 : decode cX12_isLetterByte 1 = .ok (.bipush 97, 2) := by decide +kernel
theorem dX12_isLetterByte_3 : decode cX12_isLetterByte 3 = .ok (.if_icmp .lt 9, 3) := by decide +kernel
theorem dX12_isLetterByte_6 : decode cX12_isLetterByte 6 = .ok (.iload_n 0, 1) := by decide +kernel
theorem dX12_isLetterByte_7 : decode cX12_isLetterByte 7 = .ok (.bipush 122, 2) := by decide +kernel
theorem dX12_isLetterByte_9 : decode cX12_isLetterByte 9 = .ok (.if_icmp .le 15, 3) := by decide +kernel
theorem dX12_isLetterByte_12 : decode cX12_isLetterByte 12 = .ok (.iload_n 0, 1) := by decide +kernel
theorem dX12_isLetterByte_13 : decode cX12_isLetterByte 13 = .ok (.bipush 65, 2) := by decide +kernel
theorem dX12_isLetterByte_15 : decode cX12_isLetterByte 15 = .ok (.if_icmp .lt 13, 3) := by decide +kernel
theorem dX12_isLetterByte_18 : decode cX12_isLetterByte 18 = .ok (.iload_n 0, 1) := by decide +kernel
theorem dX12_isLetterByte_19 : decode cX12_isLetterByte 19 = .ok (.bipush 90, 2) := by decide +kernel
theorem dX12_isLetterByte_21 : decode cX12_isLetterByte 21 = .ok (.if_icmp .gt 7, 3) := by decide +kernel
theorem dX12_isLetterByte_24 : decode cX12_isLetterByte 24 = .ok (.iconst 1, 1) := by decide +kernel
theorem dX12_isLetterByte_25 : decode cX12_isLetterByte 25 = .ok (.goto 4, 3) := by decide +kernel
theorem dX12_isLetterByte_28 : decode cX12_isLetterByte 28 = .ok (.iconst 0, 1) := by decide +kernel
theorem dX12_isLetterByte_29 : decode cX12_isLetterByte 29 = .ok (.ireturn, 1) := by decide +kernel
theorem dX12_isFigure_0 : decode cX12_isFigure 0 = .ok (.iload_n 0, 1) := by decide +kernel
theorem dX12_isFigure_1 : decode cX12_isFigure 1 = .ok (.bipush 48, 2) := by decide +kernel
theorem dX12_isFigure_3 : decode cX12_isFigure 3 = .ok (.if_icmp .lt 13, 3) := by decide +kernel
theorem dX12_isFigure_6 : decode cX12_isFigure 6 = .ok (.iload_n 0, 1) := by decide +kernel
theorem dX12_isFigure_7 : decode cX12_isFigure 7 = .ok (.bipush 57, 2) := by decide +kernel
theorem dX12_isFigure_9 : decode cX12_isFigure 9 = .ok (.if_icmp .gt 7, 3) := by decide +kernel
theorem dX12_isFigure_12 : decode cX12_isFigure 12 = .ok (.iconst 1, 1) := by decide +kernel
theorem dX12_isFigure_13 : decode cX12_isFigure 13 = .ok (.goto 4, 3) := by decide +kernel
theorem dX12_isFigure_16 : decode cX12_isFigure 16 = .ok (.iconst 0, 1) := by decide +kernel
theorem dX12_isFigure_17 : decode cX12_isFigure 17 = .ok (.ireturn, 1) := by decide +kernel
theorem dX12_isSign_0 : decode cX12_isSign 0 = .ok (.iload_n 0, 1) := by decide +kernel
theorem dX12_isSign_1 : decode cX12_isSign 1 = .ok (.tableswitch 129 35 62 #[127, 129, 129, 129, 129, 127, 127, 127, 127, 129, 127, 129, 127, 129, 129, 129, 129, 129, 129, 129, 129, 129, 129, 127, 127, 127, 127, 127], 127) := by decide +kernel
theorem dX12_isSign_128 : decode cX12_isSign 128 = .ok (.iconst 1, 1) := by decide +kernel
theorem dX12_isSign_129 : decode cX12_isSign 129 = .ok (.ireturn, 1) := by decide +kernel
theorem dX12_isSign_130 : decode cX12_isSign 130 = .ok (.iconst 0, 1) := by decide +kernel
theorem dX12_isSign_131 : decode cX12_isSign 131 = .ok (.ireturn, 1) := by decide +kernel
set_option maxRecDepth 20000 in
theorem ggX12_nextToken_X12_byteAt : GoodIn wsX12_nextToken wsX12_byteAt := goodIn_r _ [12, 13, 14, 24, 25, 26, 27, 28, 29, 30, 31, 32, 33, 34, 35, 36, 37, 38, 39, 40, 41, 42, 43, 44, 45, 46, 47, 48, 49, 50, 51, 52, 53, 54, 55, 56, 57, 58, 59] (by decide +kernel) (by decide +kernel)
set_option maxRecDepth 20000 in
theorem gX12_nextToken_X12_byteAt : GoodIn wsX12_nextToken (wsV RX12 121 RX12 yX12_byteAt wsX12_byteAt) := goodIn_app (goodIn_of _ (by decide +kernel)) ggX12_nextToken_X12_byteAt
set_option maxRecDepth 20000 in
theorem ggX12_nextToken_X12_isFigure : GoodIn wsX12_nextToken wsX12_isFigure := goodIn_r _ [17] (by decide +kernel) (by decide +kernel)
set_option maxRecDepth 20000 in
theorem gX12_nextToken_X12_isFigure : GoodIn wsX12_nextToken (va_wsS RX12 131 yX12_isFigure wsX12_isFigure) := goodIn_app (goodIn_of _ (by decide +kernel)) ggX12_nextToken_X12_isFigure
set_option maxRecDepth 20000 in
theorem ggX12_nextToken_X12_isLetterByte : GoodIn wsX12_nextToken wsX12_isLetterByte := goodIn_r _ [20] (by decide +kernel) (by decide +kernel)
set_option maxRecDepth 20000 in
theorem gX12_nextToken_X12_isLetterByte : GoodIn wsX12_nextToken (va_wsS RX12 138 yX12_isLetterByte wsX12_isLetterByte) := goodIn_app (goodIn_of _ (by decide +kernel)) ggX12_nextToken_X12_isLetterByte
set_option maxRecDepth 20000 in
theorem ggX12_nextToken_X12_isSign : GoodIn wsX12_nextToken wsX12_isSign := goodIn_r _ [23] (by decide +kernel) (by decide +kernel)
set_option maxRecDepth 20000 in
theorem gX12_nextToken_X12_isSign : GoodIn wsX12_nextToken (va_wsS RX12 147 yX12_isSign wsX12_isSign) := goodIn_app (goodIn_of _ (by decide +kernel)) ggX12_nextToken_X12_isSign
theorem dX12_nextToken_0 : decode cX12_nextToken 0 = .ok (.aload_n 0, 1) := by decide +kernel
theorem dX12_nextToken_1 : decode cX12_nextToken 1 = .ok (.aload_n 0, 1) := by decide +kernel
theorem dX12_nextToken_2 : decode cX12_nextToken 2 = .ok (.getfield 118, 3) := by decide +kernel
theorem dX12_nextToken_5 : decode cX12_nextToken 5 = .ok (.invokevirtual 121, 3) := by decide +kernel
theorem dX12_nextToken_8 : decode cX12_nextToken 8 = .ok (.bipush 32, 2) := by decide +kernel
theorem dX12_nextToken_10 : decode cX12_nextToken 10 = .ok (.if_icmp .eq 16, 3) := by decide +kernel
theorem dX12_nextToken_13 : decode cX12_nextToken 13 = .ok (.aload_n 0, 1) := by decide +kernel
theorem dX12_nextToken_14 : decode cX12_nextToken 14 = .ok (.aload_n 0, 1) := by decide +kernel
theorem dX12_nextToken_15 : decode cX12_nextToken 15 = .ok (.getfield 118, 3) := by decide +kernel
theorem dX12_nextToken_18 : decode cX12_nextToken 18 = .ok (.invokevirtual 121, 3) := by decide +kernel
theorem dX12_nextToken_21 : decode cX12_nextToken 21 = .ok (.bipush 10, 2) := by decide +kernel
theorem dX12_nextToken_23 : decode cX12_nextToken 23 = .ok (.if_icmp .ne 16, 3) := by decide +kernel
theorem dX12_nextToken_26 : decode cX12_nextToken 26 = .ok (.aload_n 0, 1) := by decide +kernel
theorem dX12_nextToken_27 : decode cX12_nextToken 27 = .ok (.dup, 1) := by decide +kernel
theorem dX12_nextToken_28 : decode cX12_nextToken 28 = .ok (.getfield 118, 3) := by decide +kernel
theorem dX12_nextToken_31 : decode cX12_nextToken 31 = .ok (.iconst 1, 1) := by decide +kernel
theorem dX12_nextToken_32 : decode cX12_nextToken 32 = .ok (.iadd, 1) := by decide +kernel
theorem dX12_nextToken_33 : decode cX12_nextToken 33 = .ok (.putfield 118, 3) := by decide +kernel
theorem dX12_nextToken_36 : decode cX12_nextToken 36 = .ok (.goto (-36), 3) := by decide +kernel
theorem dX12_nextToken_39 : decode cX12_nextToken 39 = .ok (.aload_n 0, 1) := by decide +kernel
theorem dX12_nextToken_40 : decode cX12_nextToken 40 = .ok (.aload_n 0, 1) := by decide +kernel
theorem dX12_nextToken_41 : decode cX12_nextToken 41 = .ok (.getfield 118, 3) := by decide +kernel
theorem dX12_nextToken_44 : decode cX12_nextToken 44 = .ok (.putfield 125, 3) := by decide +kernel
theorem dX12_nextToken_47 : decode cX12_nextToken 47 = .ok (.aload_n 0, 1) := by decide +kernel
theorem dX12_nextToken_48 : decode cX12_nextToken 48 = .ok (.aload_n 0, 1) := by decide +kernel
theorem dX12_nextToken_49 : decode cX12_nextToken 49 = .ok (.getfield 118, 3) := by decide +kernel
theorem dX12_nextToken_52 : decode cX12_nextToken 52 = .ok (.invokevirtual 121, 3) := by decide +kernel
theorem dX12_nextToken_55 : decode cX12_nextToken 55 = .ok (.istore_n 1, 1) := by decide +kernel
theorem dX12_nextToken_56 : decode cX12_nextToken 56 = .ok (.iload_n 1, 1) := by decide +kernel
theorem dX12_nextToken_57 : decode cX12_nextToken 57 = .ok (.ifCond .ge 11, 3) := by decide +kernel
theorem dX12_nextToken_60 : decode cX12_nextToken 60 = .ok (.aload_n 0, 1) := by decide +kernel
theorem dX12_nextToken_61 : decode cX12_nextToken 61 = .ok (.iconst 0, 1) := by decide +kernel
theorem dX12_nextToken_62 : decode cX12_nextToken 62 = .ok (.putfield 128, 3) := by decide +kernel
theorem dX12_nextToken_65 : decode cX12_nextToken 65 = .ok (.goto 245, 3) := by decide +kernel
theorem dX12_nextToken_68 : decode cX12_nextToken 68 = .ok (.iload_n 1, 1) := by decide +kernel
theorem dX12_nextToken_69 : decode cX12_nextToken 69 = .ok (.invokestatic 131, 3) := by decide +kernel
theorem dX12_nextToken_72 : decode cX12_nextToken 72 = .ok (.ifCond .eq 79, 3) := by decide +kernel
theorem dX12_nextToken_75 : decode cX12_nextToken 75 = .ok (.aload_n 0, 1) := by decide +kernel
theorem dX12_nextToken_76 : decode cX12_nextToken 76 = .ok (.iconst 1, 1) := by decide +kernel
theorem dX12_nextToken_77 : decode cX12_nextToken 77 = .ok (.putfield 128, 3) := by decide +kernel
theorem dX12_nextToken_80 : decode cX12_nextToken 80 = .ok (.aload_n 0, 1) := by decide +kernel
theorem dX12_nextToken_81 : decode cX12_nextToken 81 = .ok (.iconst 0, 1) := by decide +kernel
theorem dX12_nextToken_82 : decode cX12_nextToken 82 = .ok (.putfield 134, 3) := by decide +kernel
theorem dX12_nextToken_85 : decode cX12_nextToken 85 = .ok (.aload_n 0, 1) := by decide +kernel
theorem dX12_nextToken_86 : decode cX12_nextToken 86 = .ok (.aload_n 0, 1) := by decide +kernel
theorem dX12_nextToken_87 : decode cX12_nextToken 87 = .ok (.getfield 118, 3) := by decide +kernel
theorem dX12_nextToken_90 : decode cX12_nextToken 90 = .ok (.invokevirtual 121, 3) := by decide +kernel
theorem dX12_nextToken_93 : decode cX12_nextToken 93 = .ok (.invokestatic 131, 3) := by decide +kernel
theorem dX12_nextToken_96 : decode cX12_nextToken 96 = .ok (.ifCond .eq 214, 3) := by decide +kernel
theorem dX12_nextToken_99 : decode cX12_nextToken 99 = .ok (.aload_n 0, 1) := by decide +kernel
theorem dX12_nextToken_100 : decode cX12_nextToken 100 = .ok (.aload_n 0, 1) := by decide +kernel
theorem dX12_nextToken_101 : decode cX12_nextToken 101 = .ok (.getfield 134, 3) := by decide +kernel
theorem dX12_nextToken_104 : decode cX12_nextToken 104 = .ok (.ldc 137, 2) := by decide +kernel
theorem dX12_nextToken_106 : decode cX12_nextToken 106 = .ok (.if_icmp .le 10, 3) := by decide +kernel
theorem dX12_nextToken_109 : decode cX12_nextToken 109 = .ok (.aload_n 0, 1) := by decide +kernel
theorem dX12_nextToken_110 : decode cX12_nextToken 110 = .ok (.getfield 134, 3) := by decide +kernel
theorem dX12_nextToken_113 : decode cX12_nextToken 113 = .ok (.goto 22, 3) := by decide +kernel
theorem dX12_nextToken_116 : decode cX12_nextToken 116 = .ok (.bipush 10, 2) := by decide +kernel
theorem dX12_nextToken_118 : decode cX12_nextToken 118 = .ok (.aload_n 0, 1) := by decide +kernel
theorem dX12_nextToken_119 : decode cX12_nextToken 119 = .ok (.getfield 134, 3) := by decide +kernel
theorem dX12_nextToken_122 : decode cX12_nextToken 122 = .ok (.imul, 1) := by decide +kernel
theorem dX12_nextToken_123 : decode cX12_nextToken 123 = .ok (.aload_n 0, 1) := by decide +kernel
theorem dX12_nextToken_124 : decode cX12_nextToken 124 = .ok (.aload_n 0, 1) := by decide +kernel
theorem dX12_nextToken_125 : decode cX12_nextToken 125 = .ok (.getfield 118, 3) := by decide +kernel
theorem dX12_nextToken_128 : decode cX12_nextToken 128 = .ok (.invokevirtual 121, 3) := by decide +kernel
theorem dX12_nextToken_131 : decode cX12_nextToken 131 = .ok (.iadd, 1) := by decide +kernel
theorem dX12_nextToken_132 : decode cX12_nextToken 132 = .ok (.bipush 48, 2) := by decide +kernel
theorem dX12_nextToken_134 : decode cX12_nextToken 134 = .ok (.isub, 1) := by decide +kernel
theorem dX12_nextToken_135 : decode cX12_nextToken 135 = .ok (.putfield 134, 3) := by decide +kernel
theorem dX12_nextToken_138 : decode cX12_nextToken 138 = .ok (.aload_n 0, 1) := by decide +kernel
theorem dX12_nextToken_139 : decode cX12_nextToken 139 = .ok (.dup, 1) := by decide +kernel
theorem dX12_nextToken_140 : decode cX12_nextToken 140 = .ok (.getfield 118, 3) := by decide +kernel
theorem dX12_nextToken_143 : decode cX12_nextToken 143 = .ok (.iconst 1, 1) := by decide +kernel
theorem dX12_nextToken_144 : decode cX12_nextToken 144 = .ok (.iadd, 1) := by decide +kernel
theorem dX12_nextToken_145 : decode cX12_nextToken 145 = .ok (.putfield 118, 3) := by decide +kernel
theorem dX12_nextToken_148 : decode cX12_nextToken 148 = .ok (.goto (-63), 3) := by decide +kernel
theorem dX12_nextToken_151 : decode cX12_nextToken 151 = .ok (.iload_n 1, 1) := by decide +kernel
theorem dX12_nextToken_152 : decode cX12_nextToken 152 = .ok (.invokestatic 138, 3) := by decide +kernel
theorem dX12_nextToken_155 : decode cX12_nextToken 155 = .ok (.ifCond .eq 79, 3) := by decide +kernel
theorem dX12_nextToken_158 : decode cX12_nextToken 158 = .ok (.aload_n 0, 1) := by decide +kernel
theorem dX12_nextToken_159 : decode cX12_nextToken 159 = .ok (.iconst 2, 1) := by decide +kernel
theorem dX12_nextToken_160 : decode cX12_nextToken 160 = .ok (.putfield 128, 3) := by decide +kernel
theorem dX12_nextToken_163 : decode cX12_nextToken 163 = .ok (.aload_n 0, 1) := by decide +kernel
theorem dX12_nextToken_164 : decode cX12_nextToken 164 = .ok (.lconst 0, 1) := by decide +kernel
theorem dX12_nextToken_165 : decode cX12_nextToken 165 = .ok (.putfield 141, 3) := by decide +kernel
theorem dX12_nextToken_168 : decode cX12_nextToken 168 = .ok (.aload_n 0, 1) := by decide +kernel
theorem dX12_nextToken_169 : decode cX12_nextToken 169 = .ok (.aload_n 0, 1) := by decide +kernel
theorem dX12_nextToken_170 : decode cX12_nextToken 170 = .ok (.getfield 118, 3) := by decide +kernel
theorem dX12_nextToken_173 : decode cX12_nextToken 173 = .ok (.invokevirtual 121, 3) := by decide +kernel
theorem dX12_nextToken_176 : decode cX12_nextToken 176 = .ok (.invokestatic 138, 3) := by decide +kernel
theorem dX12_nextToken_179 : decode cX12_nextToken 179 = .ok (.ifCond .eq 131, 3) := by decide +kernel
theorem dX12_nextToken_182 : decode cX12_nextToken 182 = .ok (.aload_n 0, 1) := by decide +kernel
theorem dX12_nextToken_183 : decode cX12_nextToken 183 = .ok (.aload_n 0, 1) := by decide +kernel
theorem dX12_nextToken_184 : decode cX12_nextToken 184 = .ok (.getfield 141, 3) := by decide +kernel
theorem dX12_nextToken_187 : decode cX12_nextToken 187 = .ok (.bipush 48, 2) := by decide +kernel
theorem dX12_nextToken_189 : decode cX12_nextToken 189 = .ok (.lshr, 1) := by decide +kernel
theorem dX12_nextToken_190 : decode cX12_nextToken 190 = .ok (.lconst 0, 1) := by decide +kernel
theorem dX12_nextToken_191 : decode cX12_nextToken 191 = .ok (.lcmp, 1) := by decide +kernel
theorem dX12_nextToken_192 : decode cX12_nextToken 192 = .ok (.ifCond .eq 9, 3) := by decide +kernel
theorem dX12_nextToken_195 : decode cX12_nextToken 195 = .ok (.ldc2_w 145, 3) := by decide +kernel
theorem dX12_nextToken_198 : decode cX12_nextToken 198 = .ok (.goto 20, 3) := by decide +kernel
theorem dX12_nextToken_201 : decode cX12_nextToken 201 = .ok (.aload_n 0, 1) := by decide +kernel
theorem dX12_nextToken_202 : decode cX12_nextToken 202 = .ok (.getfield 141, 3) := by decide +kernel
theorem dX12_nextToken_205 : decode cX12_nextToken 205 = .ok (.bipush 8, 2) := by decide +kernel
theorem dX12_nextToken_207 : decode cX12_nextToken 207 = .ok (.lshl, 1) := by decide +kernel
theorem dX12_nextToken_208 : decode cX12_nextToken 208 = .ok (.aload_n 0, 1) := by decide +kernel
