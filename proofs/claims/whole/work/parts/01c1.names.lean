theorem dX10_moveTo_17 : decode cX10_moveTo 17 = .ok (.iaload, 1) := by decide +kernel
theorem dX10_moveTo_18 : decode cX10_moveTo 18 = .ok (.istore_n 3, 1) := by decide +kernel
theorem dX10_moveTo_19 : decode cX10_moveTo 19 = .ok (.iconst 0, 1) := by decide +kernel
theorem dX10_moveTo_20 : decode cX10_moveTo 20 = .ok (.istore 4, 2) := by decide +kernel
theorem dX10_moveTo_22 : decode cX10_moveTo 22 = .ok (.iload 4, 2) := by decide +kernel
theorem dX10_moveTo_24 : decode cX10_moveTo 24 = .ok (.iload_n 2, 1) := by decide +kernel
theorem dX10_moveTo_25 : decode cX10_moveTo 25 = .ok (.if_icmp .ge 46, 3) := by decide +kernel
theorem dX10_moveTo_28 : decode cX10_moveTo 28 = .ok (.iload 4, 2) := by decide +kernel
theorem dX10_moveTo_30 : decode cX10_moveTo 30 = .ok (.bipush 8, 2) := by decide +kernel
theorem dX10_moveTo_32 : decode cX10_moveTo 32 = .ok (.if_icmp .ge 39, 3) := by decide +kernel
theorem dX10_moveTo_35 : decode cX10_moveTo 35 = .ok (.iload_n 3, 1) := by decide +kernel
theorem dX10_moveTo_36 : decode cX10_moveTo 36 = .ok (.iconst 4, 1) := by decide +kernel
theorem dX10_moveTo_37 : decode cX10_moveTo 37 = .ok (.ishr, 1) := by decide +kernel
theorem dX10_moveTo_38 : decode cX10_moveTo 38 = .ok (.istore 5, 2) := by decide +kernel
theorem dX10_moveTo_40 : decode cX10_moveTo 40 = .ok (.iload 5, 2) := by decide +kernel
theorem dX10_moveTo_42 : decode cX10_moveTo 42 = .ok (.ifCond .lt 21, 3) := by decide +kernel
theorem dX10_moveTo_45 : decode cX10_moveTo 45 = .ok (.iload 5, 2) := by decide +kernel
theorem dX10_moveTo_47 : decode cX10_moveTo 47 = .ok (.sipush 4096, 3) := by decide +kernel
theorem dX10_moveTo_50 : decode cX10_moveTo 50 = .ok (.if_icmp .ge 13, 3) := by decide +kernel
theorem dX10_moveTo_53 : decode cX10_moveTo 53 = .ok (.aload_n 0, 1) := by decide +kernel
theorem dX10_moveTo_54 : decode cX10_moveTo 54 = .ok (.getfield 19, 3) := by decide +kernel
theorem dX10_moveTo_57 : decode cX10_moveTo 57 = .ok (.iload 5, 2) := by decide +kernel
theorem dX10_moveTo_59 : decode cX10_moveTo 59 = .ok (.iaload, 1) := by decide +kernel
theorem dX10_moveTo_60 : decode cX10_moveTo 60 = .ok (.goto 4, 3) := by decide +kernel
theorem dX10_moveTo_63 : decode cX10_moveTo 63 = .ok (.iconst 0, 1) := by decide +kernel
theorem dX10_moveTo_64 : decode cX10_moveTo 64 = .ok (.istore_n 3, 1) := by decide +kernel
theorem dX10_moveTo_65 : decode cX10_moveTo 65 = .ok (.iinc 4 1, 3) := by decide +kernel
theorem dX10_moveTo_68 : decode cX10_moveTo 68 = .ok (.goto (-46), 3) := by decide +kernel
theorem dX10_moveTo_71 : decode cX10_moveTo 71 = .ok (.iload_n 3, 1) := by decide +kernel
theorem dX10_moveTo_72 : decode cX10_moveTo 72 = .ok (.bipush 15, 2) := by decide +kernel
theorem dX10_moveTo_74 : decode cX10_moveTo 74 = .ok (.iand, 1) := by decide +kernel
theorem dX10_moveTo_75 : decode cX10_moveTo 75 = .ok (.ireturn, 1) := by decide +kernel
set_option maxRecDepth 20000 in
theorem ggX10_spread_X0_allows : GoodIn wsX10_spread wsX0_allows := goodIn_r _ [7, 8, 9, 10, 11, 12, 13, 14, 15, 16, 17, 18, 19, 20, 21, 22, 23, 24, 6, 25, 26, 27, 151, 152, 153, 154, 155, 156, 157, 158, 159, 160, 161, 162, 163, 164, 165, 166, 167, 168, 169, 170, 171] (by decide +kernel) (by decide +kernel)
set_option maxRecDepth 20000 in
theorem gX10_spread_X0_allows : GoodIn wsX10_spread (wsV RX10 62 RX0 yX0_allows wsX0_allows) := goodIn_app (goodIn_of _ (by decide +kernel)) ggX10_spread_X0_allows
set_option maxRecDepth 20000 in
theorem ggX10_spread_X0_after : GoodIn wsX10_spread wsX0_after := goodIn_r _ [31, 16, 17, 11, 18, 13, 14, 15, 32, 33, 34, 35, 36, 37, 6, 38, 39, 40, 41, 42, 43, 44, 45, 46, 47, 48, 49, 50, 51, 22, 23, 24, 25, 26, 27, 19, 20, 21, 52, 53, 54, 55, 56, 57, 58, 59, 60, 61, 62, 63, 64, 65, 66, 67, 68, 69, 70, 71, 72, 73, 74, 75, 76, 77, 78, 79, 80, 81, 82, 83, 84, 85, 86, 87, 88, 89, 90, 91, 92, 93, 94, 95, 96, 97, 98, 99, 100, 101, 102, 103, 104, 105, 106, 107, 108, 109, 110, 111, 112, 113, 114, 115, 116, 117, 163, 164, 165, 166, 167, 168, 169, 170, 171, 172, 151, 152, 153, 154, 155, 156, 157, 158, 159, 160, 161, 162] (by decide +kernel) (by decide +kernel)
set_option maxRecDepth 20000 in
theorem gX10_spread_X0_after : GoodIn wsX10_spread (wsV RX10 68 RX0 yX0_after wsX0_after) := goodIn_app (goodIn_of _ (by decide +kernel)) ggX10_spread_X0_after
set_option maxRecDepth 20000 in
theorem ggX10_spread_X7_ending : GoodIn wsX10_spread wsX7_ending := goodIn_r _ [12] (by decide +kernel) (by decide +kernel)
set_option maxRecDepth 20000 in
theorem gX10_spread_X7_ending : GoodIn wsX10_spread (va_wsS RX10 38 yX7_ending wsX7_ending) := goodIn_app (goodIn_of _ (by decide +kernel)) ggX10_spread_X7_ending
set_option maxRecDepth 20000 in
theorem ggX10_spread_X7_outcome : GoodIn wsX10_spread wsX7_outcome := goodIn_r _ [121, 122, 10, 11, 12, 123, 124, 125] (by decide +kernel) (by decide +kernel)
set_option maxRecDepth 20000 in
theorem gX10_spread_X7_outcome : GoodIn wsX10_spread (va_wsS RX10 48 yX7_outcome wsX7_outcome) := goodIn_app (goodIn_of _ (by decide +kernel)) ggX10_spread_X7_outcome
set_option maxRecDepth 20000 in
theorem ggX10_spread_X10_reach : GoodIn wsX10_spread wsX10_reach := goodIn_r _ [130, 131, 132, 142, 143, 144, 145, 146, 147, 148, 149, 150] (by decide +kernel) (by decide +kernel)
set_option maxRecDepth 20000 in
theorem gX10_spread_X10_reach : GoodIn wsX10_spread (wsV RX10 51 RX10 yX10_reach wsX10_reach) := goodIn_app (goodIn_of _ (by decide +kernel)) ggX10_spread_X10_reach
set_option maxRecDepth 20000 in
theorem ggX10_spread_X10_arrive : GoodIn wsX10_spread wsX10_arrive := goodIn_r _ [136, 137, 138, 139, 1, 2, 140, 141, 46, 11, 47, 48, 49, 50, 51, 14, 15, 142, 143, 144, 145, 146, 147, 148, 149, 150] (by decide +kernel) (by decide +kernel)
set_option maxRecDepth 20000 in
theorem gX10_spread_X10_arrive : GoodIn wsX10_spread (wsV RX10 55 RX10 yX10_arrive wsX10_arrive) := goodIn_app (goodIn_of _ (by decide +kernel)) ggX10_spread_X10_arrive
theorem dX10_spread_0 : decode cX10_spread 0 = .ok (.aload_n 0, 1) := by decide +kernel
theorem dX10_spread_1 : decode cX10_spread 1 = .ok (.getfield 9, 3) := by decide +kernel
theorem dX10_spread_4 : decode cX10_spread 4 = .ok (.iload_n 2, 1) := by decide +kernel
theorem dX10_spread_5 : decode cX10_spread 5 = .ok (.iaload, 1) := by decide +kernel
theorem dX10_spread_6 : decode cX10_spread 6 = .ok (.istore_n 3, 1) := by decide +kernel
theorem dX10_spread_7 : decode cX10_spread 7 = .ok (.iconst 0, 1) := by decide +kernel
theorem dX10_spread_8 : decode cX10_spread 8 = .ok (.istore 4, 2) := by decide +kernel
theorem dX10_spread_10 : decode cX10_spread 10 = .ok (.iload 4, 2) := by decide +kernel
theorem dX10_spread_12 : decode cX10_spread 12 = .ok (.bipush 11, 2) := by decide +kernel
theorem dX10_spread_14 : decode cX10_spread 14 = .ok (.if_icmp .ge 79, 3) := by decide +kernel
theorem dX10_spread_17 : decode cX10_spread 17 = .ok (.aload_n 1, 1) := by decide +kernel
theorem dX10_spread_18 : decode cX10_spread 18 = .ok (.iload_n 3, 1) := by decide +kernel
theorem dX10_spread_19 : decode cX10_spread 19 = .ok (.iload 4, 2) := by decide +kernel
theorem dX10_spread_21 : decode cX10_spread 21 = .ok (.invokevirtual 62, 3) := by decide +kernel
theorem dX10_spread_24 : decode cX10_spread 24 = .ok (.ifCond .eq 63, 3) := by decide +kernel
theorem dX10_spread_27 : decode cX10_spread 27 = .ok (.aload_n 1, 1) := by decide +kernel
theorem dX10_spread_28 : decode cX10_spread 28 = .ok (.iload_n 3, 1) := by decide +kernel
theorem dX10_spread_29 : decode cX10_spread 29 = .ok (.iload 4, 2) := by decide +kernel
theorem dX10_spread_31 : decode cX10_spread 31 = .ok (.iconst 1, 1) := by decide +kernel
theorem dX10_spread_32 : decode cX10_spread 32 = .ok (.invokevirtual 68, 3) := by decide +kernel
theorem dX10_spread_35 : decode cX10_spread 35 = .ok (.istore 5, 2) := by decide +kernel
theorem dX10_spread_37 : decode cX10_spread 37 = .ok (.iload_n 2, 1) := by decide +kernel
theorem dX10_spread_38 : decode cX10_spread 38 = .ok (.iconst 4, 1) := by decide +kernel
theorem dX10_spread_39 : decode cX10_spread 39 = .ok (.ishl, 1) := by decide +kernel
theorem dX10_spread_40 : decode cX10_spread 40 = .ok (.iload 4, 2) := by decide +kernel
theorem dX10_spread_42 : decode cX10_spread 42 = .ok (.ior, 1) := by decide +kernel
theorem dX10_spread_43 : decode cX10_spread 43 = .ok (.istore 6, 2) := by decide +kernel
theorem dX10_spread_45 : decode cX10_spread 45 = .ok (.iload 5, 2) := by decide +kernel
theorem dX10_spread_47 : decode cX10_spread 47 = .ok (.invokestatic 38, 3) := by decide +kernel
theorem dX10_spread_50 : decode cX10_spread 50 = .ok (.ifCond .eq 23, 3) := by decide +kernel
theorem dX10_spread_53 : decode cX10_spread 53 = .ok (.aload_n 0, 1) := by decide +kernel
theorem dX10_spread_54 : decode cX10_spread 54 = .ok (.iload 5, 2) := by decide +kernel
theorem dX10_spread_56 : decode cX10_spread 56 = .ok (.invokestatic 48, 3) := by decide +kernel
theorem dX10_spread_59 : decode cX10_spread 59 = .ok (.aload_n 0, 1) := by decide +kernel
theorem dX10_spread_60 : decode cX10_spread 60 = .ok (.getfield 15, 3) := by decide +kernel
theorem dX10_spread_63 : decode cX10_spread 63 = .ok (.iload_n 2, 1) := by decide +kernel
theorem dX10_spread_64 : decode cX10_spread 64 = .ok (.laload, 1) := by decide +kernel
theorem dX10_spread_65 : decode cX10_spread 65 = .ok (.iload 6, 2) := by decide +kernel
theorem dX10_spread_67 : decode cX10_spread 67 = .ok (.invokevirtual 51, 3) := by decide +kernel
theorem dX10_spread_70 : decode cX10_spread 70 = .ok (.goto 17, 3) := by decide +kernel
theorem dX10_spread_73 : decode cX10_spread 73 = .ok (.aload_n 0, 1) := by decide +kernel
theorem dX10_spread_74 : decode cX10_spread 74 = .ok (.iload 5, 2) := by decide +kernel
theorem dX10_spread_76 : decode cX10_spread 76 = .ok (.aload_n 0, 1) := by decide +kernel
theorem dX10_spread_77 : decode cX10_spread 77 = .ok (.getfield 15, 3) := by decide +kernel
theorem dX10_spread_80 : decode cX10_spread 80 = .ok (.iload_n 2, 1) := by decide +kernel
theorem dX10_spread_81 : decode cX10_spread 81 = .ok (.laload, 1) := by decide +kernel
theorem dX10_spread_82 : decode cX10_spread 82 = .ok (.iload 6, 2) := by decide +kernel
theorem dX10_spread_84 : decode cX10_spread 84 = .ok (.invokevirtual 55, 3) := by decide +kernel
theorem dX10_spread_87 : decode cX10_spread 87 = .ok (.iinc 4 1, 3) := by decide +kernel
theorem dX10_spread_90 : decode cX10_spread 90 = .ok (.goto (-80), 3) := by decide +kernel
theorem dX10_spread_93 : decode cX10_spread 93 = .ok (.return_, 1) := by decide +kernel
theorem dX10_reach_0 : decode cX10_reach 0 = .ok (.iload_n 1, 1) := by decide +kernel
theorem dX10_reach_1 : decode cX10_reach 1 = .ok (.ifCond .lt 9, 3) := by decide +kernel
theorem dX10_reach_4 : decode cX10_reach 4 = .ok (.iload_n 1, 1) := by decide +kernel
theorem dX10_reach_5 : decode cX10_reach 5 = .ok (.bipush 20, 2) := by decide +kernel
theorem dX10_reach_7 : decode cX10_reach 7 = .ok (.if_icmp .lt 4, 3) := by decide +kernel
theorem dX10_reach_10 : decode cX10_reach 10 = .ok (.return_, 1) := by decide +kernel
theorem dX10_reach_11 : decode cX10_reach 11 = .ok (.aload_n 0, 1) := by decide +kernel
theorem dX10_reach_12 : decode cX10_reach 12 = .ok (.getfield 25, 3) := by decide +kernel
theorem dX10_reach_15 : decode cX10_reach 15 = .ok (.iload_n 1, 1) := by decide +kernel
theorem dX10_reach_16 : decode cX10_reach 16 = .ok (.laload, 1) := by decide +kernel
theorem dX10_reach_17 : decode cX10_reach 17 = .ok (.lconst 0, 1) := by decide +kernel
theorem dX10_reach_18 : decode cX10_reach 18 = .ok (.lcmp, 1) := by decide +kernel
theorem dX10_reach_19 : decode cX10_reach 19 = .ok (.ifCond .ne 11, 3) := by decide +kernel
theorem dX10_reach_22 : decode cX10_reach 22 = .ok (.aload_n 0, 1) := by decide +kernel
theorem dX10_reach_23 : decode cX10_reach 23 = .ok (.getfield 28, 3) := by decide +kernel
theorem dX10_reach_26 : decode cX10_reach 26 = .ok (.iload_n 1, 1) := by decide +kernel
theorem dX10_reach_27 : decode cX10_reach 27 = .ok (.iload 4, 2) := by decide +kernel
theorem dX10_reach_29 : decode cX10_reach 29 = .ok (.iastore, 1) := by decide +kernel
theorem dX10_reach_30 : decode cX10_reach 30 = .ok (.aload_n 0, 1) := by decide +kernel
theorem dX10_reach_31 : decode cX10_reach 31 = .ok (.getfield 25, 3) := by decide +kernel
theorem dX10_reach_34 : decode cX10_reach 34 = .ok (.iload_n 1, 1) := by decide +kernel
theorem dX10_reach_35 : decode cX10_reach 35 = .ok (.dup2, 1) := by decide +kernel
theorem dX10_reach_36 : decode cX10_reach 36 = .ok (.laload, 1) := by decide +kernel
theorem dX10_reach_37 : decode cX10_reach 37 = .ok (.lload_n 2, 1) := by decide +kernel
theorem dX10_reach_38 : decode cX10_reach 38 = .ok (.ladd, 1) := by decide +kernel
theorem dX10_reach_39 : decode cX10_reach 39 = .ok (.lastore, 1) := by decide +kernel
theorem dX10_reach_40 : decode cX10_reach 40 = .ok (.return_, 1) := by decide +kernel
set_option maxRecDepth 20000 in
theorem ggX10_arrive_X7_spot : GoodIn wsX10_arrive wsX7_spot := goodIn_r _ [10, 11, 12, 9, 13, 14, 15, 16] (by decide +kernel) (by decide +kernel)
set_option maxRecDepth 20000 in
theorem gX10_arrive_X7_spot : GoodIn wsX10_arrive (va_wsS RX10 72 yX7_spot wsX7_spot) := goodIn_app (goodIn_of _ (by decide +kernel)) ggX10_arrive_X7_spot
theorem dX10_arrive_0 : decode cX10_arrive 0 = .ok (.iload_n 1, 1) := by decide +kernel
theorem dX10_arrive_1 : decode cX10_arrive 1 = .ok (.invokestatic 72, 3) := by decide +kernel
theorem dX10_arrive_4 : decode cX10_arrive 4 = .ok (.istore 5, 2) := by decide +kernel
theorem dX10_arrive_6 : decode cX10_arrive 6 = .ok (.aload_n 0, 1) := by decide +kernel
theorem dX10_arrive_7 : decode cX10_arrive 7 = .ok (.getfield 22, 3) := by decide +kernel
theorem dX10_arrive_10 : decode cX10_arrive 10 = .ok (.iload 5, 2) := by decide +kernel
theorem dX10_arrive_12 : decode cX10_arrive 12 = .ok (.iaload, 1) := by decide +kernel
theorem dX10_arrive_13 : decode cX10_arrive 13 = .ok (.bipush 12, 2) := by decide +kernel
theorem dX10_arrive_15 : decode cX10_arrive 15 = .ok (.ishr, 1) := by decide +kernel
theorem dX10_arrive_16 : decode cX10_arrive 16 = .ok (.aload_n 0, 1) := by decide +kernel
theorem dX10_arrive_17 : decode cX10_arrive 17 = .ok (.getfield 31, 3) := by decide +kernel
theorem dX10_arrive_20 : decode cX10_arrive 20 = .ok (.if_icmp .eq 73, 3) := by decide +kernel
theorem dX10_arrive_23 : decode cX10_arrive 23 = .ok (.aload_n 0, 1) := by decide +kernel
theorem dX10_arrive_24 : decode cX10_arrive 24 = .ok (.getfield 35, 3) := by decide +kernel
theorem dX10_arrive_27 : decode cX10_arrive 27 = .ok (.sipush 4096, 3) := by decide +kernel
theorem dX10_arrive_30 : decode cX10_arrive 30 = .ok (.if_icmp .ge 63, 3) := by decide +kernel
theorem dX10_arrive_33 : decode cX10_arrive 33 = .ok (.aload_n 0, 1) := by decide +kernel
theorem dX10_arrive_34 : decode cX10_arrive 34 = .ok (.getfield 22, 3) := by decide +kernel
theorem dX10_arrive_37 : decode cX10_arrive 37 = .ok (.iload 5, 2) := by decide +kernel
theorem dX10_arrive_39 : decode cX10_arrive 39 = .ok (.aload_n 0, 1) := by decide +kernel
theorem dX10_arrive_40 : decode cX10_arrive 40 = .ok (.getfield 31, 3) := by decide +kernel
theorem dX10_arrive_43 : decode cX10_arrive 43 = .ok (.bipush 12, 2) := by decide +kernel
theorem dX10_arrive_45 : decode cX10_arrive 45 = .ok (.ishl, 1) := by decide +kernel
theorem dX10_arrive_46 : decode cX10_arrive 46 = .ok (.aload_n 0, 1) := by decide +kernel
theorem dX10_arrive_47 : decode cX10_arrive 47 = .ok (.getfield 35, 3) := by decide +kernel
theorem dX10_arrive_50 : decode cX10_arrive 50 = .ok (.ior, 1) := by decide +kernel
theorem dX10_arrive_51 : decode cX10_arrive 51 = .ok (.iastore, 1) := by decide +kernel
theorem dX10_arrive_52 : decode cX10_arrive 52 = .ok (.aload_n 0, 1) := by decide +kernel
theorem dX10_arrive_53 : decode cX10_arrive 53 = .ok (.getfield 9, 3) := by decide +kernel
theorem dX10_arrive_56 : decode cX10_arrive 56 = .ok (.aload_n 0, 1) := by decide +kernel
theorem dX10_arrive_57 : decode cX10_arrive 57 = .ok (.getfield 35, 3) := by decide +kernel
theorem dX10_arrive_60 : decode cX10_arrive 60 = .ok (.iload_n 1, 1) := by decide +kernel
theorem dX10_arrive_61 : decode cX10_arrive 61 = .ok (.iastore, 1) := by decide +kernel
theorem dX10_arrive_62 : decode cX10_arrive 62 = .ok (.aload_n 0, 1) := by decide +kernel
theorem dX10_arrive_63 : decode cX10_arrive 63 = .ok (.getfield 15, 3) := by decide +kernel
theorem dX10_arrive_66 : decode cX10_arrive 66 = .ok (.aload_n 0, 1) := by decide +kernel
theorem dX10_arrive_67 : decode cX10_arrive 67 = .ok (.getfield 35, 3) := by decide +kernel
theorem dX10_arrive_70 : decode cX10_arrive 70 = .ok (.lconst 0, 1) := by decide +kernel
theorem dX10_arrive_71 : decode cX10_arrive 71 = .ok (.lastore, 1) := by decide +kernel
theorem dX10_arrive_72 : decode cX10_arrive 72 = .ok (.aload_n 0, 1) := by decide +kernel
theorem dX10_arrive_73 : decode cX10_arrive 73 = .ok (.getfield 19, 3) := by decide +kernel
theorem dX10_arrive_76 : decode cX10_arrive 76 = .ok (.aload_n 0, 1) := by decide +kernel
theorem dX10_arrive_77 : decode cX10_arrive 77 = .ok (.getfield 35, 3) := by decide +kernel
theorem dX10_arrive_80 : decode cX10_arrive 80 = .ok (.iload 4, 2) := by decide +kernel
theorem dX10_arrive_82 : decode cX10_arrive 82 = .ok (.iastore, 1) := by decide +kernel
theorem dX10_arrive_83 : decode cX10_arrive 83 = .ok (.aload_n 0, 1) := by decide +kernel
theorem dX10_arrive_84 : decode cX10_arrive 84 = .ok (.dup, 1) := by decide +kernel
theorem dX10_arrive_85 : decode cX10_arrive 85 = .ok (.getfield 35, 3) := by decide +kernel
theorem dX10_arrive_88 : decode cX10_arrive 88 = .ok (.iconst 1, 1) := by decide +kernel
theorem dX10_arrive_89 : decode cX10_arrive 89 = .ok (.iadd, 1) := by decide +kernel
theorem dX10_arrive_90 : decode cX10_arrive 90 = .ok (.putfield 35, 3) := by decide +kernel
theorem dX10_arrive_93 : decode cX10_arrive 93 = .ok (.aload_n 0, 1) := by decide +kernel
theorem dX10_arrive_94 : decode cX10_arrive 94 = .ok (.getfield 15, 3) := by decide +kernel
theorem dX10_arrive_97 : decode cX10_arrive 97 = .ok (.aload_n 0, 1) := by decide +kernel
theorem dX10_arrive_98 : decode cX10_arrive 98 = .ok (.getfield 22, 3) := by decide +kernel
theorem dX10_arrive_101 : decode cX10_arrive 101 = .ok (.iload 5, 2) := by decide +kernel
theorem dX10_arrive_103 : decode cX10_arrive 103 = .ok (.iaload, 1) := by decide +kernel
theorem dX10_arrive_104 : decode cX10_arrive 104 = .ok (.sipush 4095, 3) := by decide +kernel
theorem dX10_arrive_107 : decode cX10_arrive 107 = .ok (.iand, 1) := by decide +kernel
theorem dX10_arrive_108 : decode cX10_arrive 108 = .ok (.dup2, 1) := by decide +kernel
theorem dX10_arrive_109 : decode cX10_arrive 109 = .ok (.laload, 1) := by decide +kernel
theorem dX10_arrive_110 : decode cX10_arrive 110 = .ok (.lload_n 2, 1) := by decide +kernel
theorem dX10_arrive_111 : decode cX10_arrive 111 = .ok (.ladd, 1) := by decide +kernel
theorem dX10_arrive_112 : decode cX10_arrive 112 = .ok (.lastore, 1) := by decide +kernel
theorem dX10_arrive_113 : decode cX10_arrive 113 = .ok (.return_, 1) := by decide +kernel
