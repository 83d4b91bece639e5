set_option maxRecDepth 20000 in
theorem ggX0_init_X6_init : GoodIn wsX0_init wsX6_init := goodIn_r _ [18, 19, 2, 3, 14, 20, 34] (by decide +kernel) (by decide +kernel)
set_option maxRecDepth 20000 in
theorem gX0_init_X6_init_n11 : GoodIn wsX0_init (wsX6_init) := ggX0_init_X6_init
set_option maxRecDepth 20000 in
theorem ggX0_init_X2_init : GoodIn wsX0_init wsX2_init := goodIn_r _ [22, 23, 2, 3, 14, 24, 25, 26, 27, 28, 29, 30, 31, 32, 33, 44, 45, 46, 47, 48, 49, 50, 51, 52, 53, 54, 55] (by decide +kernel) (by decide +kernel)
set_option maxRecDepth 20000 in
theorem gX0_init_X2_init_n23 : GoodIn wsX0_init (wsX2_init) := ggX0_init_X2_init
theorem dX0_init_0 : decode cX0_init 0 = .ok (.aload_n 0, 1) := by decide +kernel
theorem dX0_init_1 : decode cX0_init 1 = .ok (.invokespecial 3, 3) := by decide +kernel
theorem dX0_init_4 : decode cX0_init 4 = .ok (.aload_n 0, 1) := by decide +kernel
theorem dX0_init_5 : decode cX0_init 5 = .ok (.new 9, 3) := by decide +kernel
theorem dX0_init_8 : decode cX0_init 8 = .ok (.dup, 1) := by decide +kernel
theorem dX0_init_9 : decode cX0_init 9 = .ok (.invokespecial 11, 3) := by decide +kernel
theorem dX0_init_12 : decode cX0_init 12 = .ok (.putfield 12, 3) := by decide +kernel
theorem dX0_init_15 : decode cX0_init 15 = .ok (.aload_n 0, 1) := by decide +kernel
theorem dX0_init_16 : decode cX0_init 16 = .ok (.new 9, 3) := by decide +kernel
theorem dX0_init_19 : decode cX0_init 19 = .ok (.dup, 1) := by decide +kernel
theorem dX0_init_20 : decode cX0_init 20 = .ok (.invokespecial 11, 3) := by decide +kernel
theorem dX0_init_23 : decode cX0_init 23 = .ok (.putfield 18, 3) := by decide +kernel
theorem dX0_init_26 : decode cX0_init 26 = .ok (.aload_n 0, 1) := by decide +kernel
theorem dX0_init_27 : decode cX0_init 27 = .ok (.new 21, 3) := by decide +kernel
theorem dX0_init_30 : decode cX0_init 30 = .ok (.dup, 1) := by decide +kernel
theorem dX0_init_31 : decode cX0_init 31 = .ok (.invokespecial 23, 3) := by decide +kernel
theorem dX0_init_34 : decode cX0_init 34 = .ok (.putfield 24, 3) := by decide +kernel
theorem dX0_init_37 : decode cX0_init 37 = .ok (.aload_n 0, 1) := by decide +kernel
theorem dX0_init_38 : decode cX0_init 38 = .ok (.new 21, 3) := by decide +kernel
theorem dX0_init_41 : decode cX0_init 41 = .ok (.dup, 1) := by decide +kernel
theorem dX0_init_42 : decode cX0_init 42 = .ok (.invokespecial 23, 3) := by decide +kernel
theorem dX0_init_45 : decode cX0_init 45 = .ok (.putfield 28, 3) := by decide +kernel
theorem dX0_init_48 : decode cX0_init 48 = .ok (.aload_n 0, 1) := by decide +kernel
theorem dX0_init_49 : decode cX0_init 49 = .ok (.sipush 4096, 3) := by decide +kernel
theorem dX0_init_52 : decode cX0_init 52 = .ok (.newarray .int, 2) := by decide +kernel
theorem dX0_init_54 : decode cX0_init 54 = .ok (.putfield 31, 3) := by decide +kernel
theorem dX0_init_57 : decode cX0_init 57 = .ok (.aload_n 0, 1) := by decide +kernel
theorem dX0_init_58 : decode cX0_init 58 = .ok (.sipush 4096, 3) := by decide +kernel
theorem dX0_init_61 : decode cX0_init 61 = .ok (.newarray .int, 2) := by decide +kernel
theorem dX0_init_63 : decode cX0_init 63 = .ok (.putfield 35, 3) := by decide +kernel
theorem dX0_init_66 : decode cX0_init 66 = .ok (.return_, 1) := by decide +kernel
set_option maxRecDepth 20000 in
theorem ggX0_set_X6_turnTo : GoodIn wsX0_set wsX6_turnTo := goodIn_r _ [17, 18, 19, 20, 21, 22, 23, 24, 25, 26, 27, 28, 29, 30, 31, 32, 33, 34, 35, 36, 37, 38, 39, 40, 41, 42, 43, 44, 66, 67, 68, 69, 70, 71, 72, 73, 74, 75] (by decide +kernel) (by decide +kernel)
set_option maxRecDepth 20000 in
theorem gX0_set_X6_turnTo : GoodIn wsX0_set (wsV RX0 38 RX6 yX6_turnTo wsX6_turnTo) := goodIn_app (goodIn_of _ (by decide +kernel)) ggX0_set_X6_turnTo
theorem dX0_set_0 : decode cX0_set 0 = .ok (.aload_n 0, 1) := by decide +kernel
theorem dX0_set_1 : decode cX0_set 1 = .ok (.getfield 12, 3) := by decide +kernel
theorem dX0_set_4 : decode cX0_set 4 = .ok (.aload_n 1, 1) := by decide +kernel
theorem dX0_set_5 : decode cX0_set 5 = .ok (.iload_n 2, 1) := by decide +kernel
theorem dX0_set_6 : decode cX0_set 6 = .ok (.iload_n 3, 1) := by decide +kernel
theorem dX0_set_7 : decode cX0_set 7 = .ok (.iload 4, 2) := by decide +kernel
theorem dX0_set_9 : decode cX0_set 9 = .ok (.invokevirtual 38, 3) := by decide +kernel
theorem dX0_set_12 : decode cX0_set 12 = .ok (.aload_n 0, 1) := by decide +kernel
theorem dX0_set_13 : decode cX0_set 13 = .ok (.getfield 18, 3) := by decide +kernel
theorem dX0_set_16 : decode cX0_set 16 = .ok (.aload_n 1, 1) := by decide +kernel
theorem dX0_set_17 : decode cX0_set 17 = .ok (.iload_n 3, 1) := by decide +kernel
theorem dX0_set_18 : decode cX0_set 18 = .ok (.iload_n 2, 1) := by decide +kernel
theorem dX0_set_19 : decode cX0_set 19 = .ok (.iload 4, 2) := by decide +kernel
theorem dX0_set_21 : decode cX0_set 21 = .ok (.invokevirtual 38, 3) := by decide +kernel
theorem dX0_set_24 : decode cX0_set 24 = .ok (.aload_n 0, 1) := by decide +kernel
theorem dX0_set_25 : decode cX0_set 25 = .ok (.aload 5, 2) := by decide +kernel
theorem dX0_set_27 : decode cX0_set 27 = .ok (.putfield 24, 3) := by decide +kernel
theorem dX0_set_30 : decode cX0_set 30 = .ok (.aload_n 0, 1) := by decide +kernel
theorem dX0_set_31 : decode cX0_set 31 = .ok (.aload 6, 2) := by decide +kernel
theorem dX0_set_33 : decode cX0_set 33 = .ok (.putfield 28, 3) := by decide +kernel
theorem dX0_set_36 : decode cX0_set 36 = .ok (.aload_n 0, 1) := by decide +kernel
theorem dX0_set_37 : decode cX0_set 37 = .ok (.aload 5, 2) := by decide +kernel
theorem dX0_set_39 : decode cX0_set 39 = .ok (.getfield 42, 3) := by decide +kernel
theorem dX0_set_42 : decode cX0_set 42 = .ok (.aload 6, 2) := by decide +kernel
theorem dX0_set_44 : decode cX0_set 44 = .ok (.getfield 42, 3) := by decide +kernel
theorem dX0_set_47 : decode cX0_set 47 = .ok (.invokestatic 46, 3) := by decide +kernel
theorem dX0_set_50 : decode cX0_set 50 = .ok (.putfield 52, 3) := by decide +kernel
theorem dX0_set_53 : decode cX0_set 53 = .ok (.aload_n 0, 1) := by decide +kernel
theorem dX0_set_54 : decode cX0_set 54 = .ok (.iconst 0, 1) := by decide +kernel
theorem dX0_set_55 : decode cX0_set 55 = .ok (.putfield 53, 3) := by decide +kernel
theorem dX0_set_58 : decode cX0_set 58 = .ok (.aload_n 0, 1) := by decide +kernel
theorem dX0_set_59 : decode cX0_set 59 = .ok (.dup, 1) := by decide +kernel
theorem dX0_set_60 : decode cX0_set 60 = .ok (.getfield 56, 3) := by decide +kernel
theorem dX0_set_63 : decode cX0_set 63 = .ok (.iconst 1, 1) := by decide +kernel
theorem dX0_set_64 : decode cX0_set 64 = .ok (.iadd, 1) := by decide +kernel
theorem dX0_set_65 : decode cX0_set 65 = .ok (.putfield 56, 3) := by decide +kernel
theorem dX0_set_68 : decode cX0_set 68 = .ok (.return_, 1) := by decide +kernel
set_option maxRecDepth 20000 in
theorem ggX0_open_X6_setHour : GoodIn wsX0_open wsX6_setHour := goodIn_r _ [12, 13, 58] (by decide +kernel) (by decide +kernel)
set_option maxRecDepth 20000 in
theorem gX0_open_X6_setHour : GoodIn wsX0_open (wsV RX0 59 RX6 yX6_setHour wsX6_setHour) := goodIn_app (goodIn_of _ (by decide +kernel)) ggX0_open_X6_setHour
set_option maxRecDepth 20000 in
theorem ggX0_open_X2_weight : GoodIn wsX0_open wsX2_weight := goodIn_r _ [18, 19, 20, 21, 22, 23, 17, 24, 25, 26, 27, 28, 29, 30, 31, 32, 33, 34, 35, 36, 37, 11, 38, 13, 39, 40, 41, 59, 60, 61, 62, 63, 64, 65, 66, 67, 68, 69, 70, 58] (by decide +kernel) (by decide +kernel)
set_option maxRecDepth 20000 in
theorem gX0_open_X2_weight : GoodIn wsX0_open (wsV RX0 63 RX2 yX2_weight wsX2_weight) := goodIn_app (goodIn_of _ (by decide +kernel)) ggX0_open_X2_weight
set_option maxRecDepth 20000 in
theorem ggX0_open_X7_of : GoodIn wsX0_open wsX7_of := goodIn_r _ [45] (by decide +kernel) (by decide +kernel)
set_option maxRecDepth 20000 in
theorem gX0_open_X7_of : GoodIn wsX0_open (va_wsS RX0 67 yX7_of wsX7_of) := goodIn_app (goodIn_of _ (by decide +kernel)) ggX0_open_X7_of
set_option maxRecDepth 20000 in
theorem ggX0_open_X7_ended : GoodIn wsX0_open wsX7_ended := goodIn_r _ [48] (by decide +kernel) (by decide +kernel)
set_option maxRecDepth 20000 in
theorem gX0_open_X7_ended : GoodIn wsX0_open (va_wsS RX0 73 yX7_ended wsX7_ended) := goodIn_app (goodIn_of _ (by decide +kernel)) ggX0_open_X7_ended
theorem dX0_open_0 : decode cX0_open 0 = .ok (.aload_n 0, 1) := by decide +kernel
theorem dX0_open_1 : decode cX0_open 1 = .ok (.getfield 12, 3) := by decide +kernel
theorem dX0_open_4 : decode cX0_open 4 = .ok (.iconst 0, 1) := by decide +kernel
theorem dX0_open_5 : decode cX0_open 5 = .ok (.iconst 0, 1) := by decide +kernel
theorem dX0_open_6 : decode cX0_open 6 = .ok (.iconst 0, 1) := by decide +kernel
theorem dX0_open_7 : decode cX0_open 7 = .ok (.invokevirtual 59, 3) := by decide +kernel
theorem dX0_open_10 : decode cX0_open 10 = .ok (.iload_n 2, 1) := by decide +kernel
theorem dX0_open_11 : decode cX0_open 11 = .ok (.ifCond .eq 23, 3) := by decide +kernel
theorem dX0_open_14 : decode cX0_open 14 = .ok (.bipush 15, 2) := by decide +kernel
theorem dX0_open_16 : decode cX0_open 16 = .ok (.aload_n 0, 1) := by decide +kernel
theorem dX0_open_17 : decode cX0_open 17 = .ok (.getfield 28, 3) := by decide +kernel
theorem dX0_open_20 : decode cX0_open 20 = .ok (.iload_n 1, 1) := by decide +kernel
theorem dX0_open_21 : decode cX0_open 21 = .ok (.aload_n 0, 1) := by decide +kernel
theorem dX0_open_22 : decode cX0_open 22 = .ok (.getfield 12, 3) := by decide +kernel
theorem dX0_open_25 : decode cX0_open 25 = .ok (.invokevirtual 63, 3) := by decide +kernel
theorem dX0_open_28 : decode cX0_open 28 = .ok (.invokestatic 46, 3) := by decide +kernel
theorem dX0_open_31 : decode cX0_open 31 = .ok (.goto 4, 3) := by decide +kernel
theorem dX0_open_34 : decode cX0_open 34 = .ok (.iconst 0, 1) := by decide +kernel
theorem dX0_open_35 : decode cX0_open 35 = .ok (.istore_n 3, 1) := by decide +kernel
theorem dX0_open_36 : decode cX0_open 36 = .ok (.iconst 0, 1) := by decide +kernel
theorem dX0_open_37 : decode cX0_open 37 = .ok (.iload_n 3, 1) := by decide +kernel
theorem dX0_open_38 : decode cX0_open 38 = .ok (.aload_n 0, 1) := by decide +kernel
theorem dX0_open_39 : decode cX0_open 39 = .ok (.getfield 52, 3) := by decide +kernel
theorem dX0_open_42 : decode cX0_open 42 = .ok (.iconst 1, 1) := by decide +kernel
theorem dX0_open_43 : decode cX0_open 43 = .ok (.iconst 0, 1) := by decide +kernel
theorem dX0_open_44 : decode cX0_open 44 = .ok (.invokestatic 67, 3) := by decide +kernel
theorem dX0_open_47 : decode cX0_open 47 = .ok (.istore 4, 2) := by decide +kernel
theorem dX0_open_49 : decode cX0_open 49 = .ok (.iload_n 3, 1) := by decide +kernel
theorem dX0_open_50 : decode cX0_open 50 = .ok (.ifCond .ne 13, 3) := by decide +kernel
theorem dX0_open_53 : decode cX0_open 53 = .ok (.iload 4, 2) := by decide +kernel
theorem dX0_open_55 : decode cX0_open 55 = .ok (.iconst 1, 1) := by decide +kernel
theorem dX0_open_56 : decode cX0_open 56 = .ok (.iconst 0, 1) := by decide +kernel
theorem dX0_open_57 : decode cX0_open 57 = .ok (.invokestatic 73, 3) := by decide +kernel
theorem dX0_open_60 : decode cX0_open 60 = .ok (.goto 5, 3) := by decide +kernel
theorem dX0_open_63 : decode cX0_open 63 = .ok (.iload 4, 2) := by decide +kernel
theorem dX0_open_65 : decode cX0_open 65 = .ok (.ireturn, 1) := by decide +kernel
set_option maxRecDepth 20000 in
theorem ggX0_allows_X7_ending : GoodIn wsX0_allows wsX7_ending := goodIn_r _ [5] (by decide +kernel) (by decide +kernel)
set_option maxRecDepth 20000 in
theorem gX0_allows_X7_ending : GoodIn wsX0_allows (va_wsS RX0 77 yX7_ending wsX7_ending) := goodIn_app (goodIn_of _ (by decide +kernel)) ggX0_allows_X7_ending
set_option maxRecDepth 20000 in
theorem ggX0_allows_X7_asked : GoodIn wsX0_allows wsX7_asked := goodIn_r _ [8] (by decide +kernel) (by decide +kernel)
set_option maxRecDepth 20000 in
theorem gX0_allows_X7_asked : GoodIn wsX0_allows (va_wsS RX0 81 yX7_asked wsX7_asked) := goodIn_app (goodIn_of _ (by decide +kernel)) ggX0_allows_X7_asked
set_option maxRecDepth 20000 in
theorem ggX0_allows_X7_turn : GoodIn wsX0_allows wsX7_turn := goodIn_r _ [11] (by decide +kernel) (by decide +kernel)
set_option maxRecDepth 20000 in
theorem gX0_allows_X7_turn : GoodIn wsX0_allows (va_wsS RX0 84 yX7_turn wsX7_turn) := goodIn_app (goodIn_of _ (by decide +kernel)) ggX0_allows_X7_turn
set_option maxRecDepth 20000 in
theorem ggX0_allows_X7_owed : GoodIn wsX0_allows wsX7_owed := goodIn_r _ [14] (by decide +kernel) (by decide +kernel)
set_option maxRecDepth 20000 in
theorem gX0_allows_X7_owed : GoodIn wsX0_allows (va_wsS RX0 87 yX7_owed wsX7_owed) := goodIn_app (goodIn_of _ (by decide +kernel)) ggX0_allows_X7_owed
set_option maxRecDepth 20000 in
theorem ggX0_allows_X0_codeOf : GoodIn wsX0_allows wsX0_codeOf := goodIn_r _ [19, 20, 21, 34, 35, 36, 37, 38, 39, 40, 41, 42] (by decide +kernel) (by decide +kernel)
set_option maxRecDepth 20000 in
theorem gX0_allows_X0_codeOf : GoodIn wsX0_allows (wsV RX0 90 RX0 yX0_codeOf wsX0_codeOf) := goodIn_app (goodIn_of _ (by decide +kernel)) ggX0_allows_X0_codeOf
theorem dX0_allows_0 : decode cX0_allows 0 = .ok (.iload_n 1, 1) := by decide +kernel
theorem dX0_allows_1 : decode cX0_allows 1 = .ok (.invokestatic 77, 3) := by decide +kernel
theorem dX0_allows_4 : decode cX0_allows 4 = .ok (.ifCond .ne 13, 3) := by decide +kernel
theorem dX0_allows_7 : decode cX0_allows 7 = .ok (.iload_n 2, 1) := by decide +kernel
theorem dX0_allows_8 : decode cX0_allows 8 = .ok (.ifCond .lt 9, 3) := by decide +kernel
theorem dX0_allows_11 : decode cX0_allows 11 = .ok (.iload_n 2, 1) := by decide +kernel
theorem dX0_allows_12 : decode cX0_allows 12 = .ok (.bipush 11, 2) := by decide +kernel
theorem dX0_allows_14 : decode cX0_allows 14 = .ok (.if_icmp .lt 5, 3) := by decide +kernel
theorem dX0_allows_17 : decode cX0_allows 17 = .ok (.iconst 0, 1) := by decide +kernel
theorem dX0_allows_18 : decode cX0_allows 18 = .ok (.ireturn, 1) := by decide +kernel
theorem dX0_allows_19 : decode cX0_allows 19 = .ok (.iload_n 1, 1) := by decide +kernel
theorem dX0_allows_20 : decode cX0_allows 20 = .ok (.invokestatic 81, 3) := by decide +kernel
theorem dX0_allows_23 : decode cX0_allows 23 = .ok (.ifCond .eq 21, 3) := by decide +kernel
theorem dX0_allows_26 : decode cX0_allows 26 = .ok (.iload_n 2, 1) := by decide +kernel
theorem dX0_allows_27 : decode cX0_allows 27 = .ok (.bipush 8, 2) := by decide +kernel
theorem dX0_allows_29 : decode cX0_allows 29 = .ok (.if_icmp .eq 9, 3) := by decide +kernel
theorem dX0_allows_32 : decode cX0_allows 32 = .ok (.iload_n 2, 1) := by decide +kernel
theorem dX0_allows_33 : decode cX0_allows 33 = .ok (.bipush 9, 2) := by decide +kernel
theorem dX0_allows_35 : decode cX0_allows 35 = .ok (.if_icmp .ne 7, 3) := by decide +kernel
theorem dX0_allows_38 : decode cX0_allows 38 = .ok (.iconst 1, 1) := by decide +kernel
theorem dX0_allows_39 : decode cX0_allows 39 = .ok (.goto 4, 3) := by decide +kernel
theorem dX0_allows_42 : decode cX0_allows 42 = .ok (.iconst 0, 1) := by decide +kernel
theorem dX0_allows_43 : decode cX0_allows 43 = .ok (.ireturn, 1) := by decide +kernel
theorem dX0_allows_44 : decode cX0_allows 44 = .ok (.iload_n 1, 1) := by decide +kernel
theorem dX0_allows_45 : decode cX0_allows 45 = .ok (.invokestatic 84, 3) := by decide +kernel
theorem dX0_allows_48 : decode cX0_allows 48 = .ok (.istore_n 3, 1) := by decide +kernel
theorem dX0_allows_49 : decode cX0_allows 49 = .ok (.iload_n 2, 1) := by decide +kernel
theorem dX0_allows_50 : decode cX0_allows 50 = .ok (.iconst 4, 1) := by decide +kernel
theorem dX0_allows_51 : decode cX0_allows 51 = .ok (.if_icmp .ge 5, 3) := by decide +kernel
theorem dX0_allows_54 : decode cX0_allows 54 = .ok (.iconst 1, 1) := by decide +kernel
theorem dX0_allows_55 : decode cX0_allows 55 = .ok (.ireturn, 1) := by decide +kernel
theorem dX0_allows_56 : decode cX0_allows 56 = .ok (.iload_n 2, 1) := by decide +kernel
theorem dX0_allows_57 : decode cX0_allows 57 = .ok (.bipush 8, 2) := by decide +kernel
theorem dX0_allows_59 : decode cX0_allows 59 = .ok (.if_icmp .ge 19, 3) := by decide +kernel
theorem dX0_allows_62 : decode cX0_allows 62 = .ok (.iload_n 1, 1) := by decide +kernel
theorem dX0_allows_63 : decode cX0_allows 63 = .ok (.iconst 1, 1) := by decide +kernel
theorem dX0_allows_64 : decode cX0_allows 64 = .ok (.iload_n 3, 1) := by decide +kernel
theorem dX0_allows_65 : decode cX0_allows 65 = .ok (.isub, 1) := by decide +kernel
theorem dX0_allows_66 : decode cX0_allows 66 = .ok (.invokestatic 87, 3) := by decide +kernel
theorem dX0_allows_69 : decode cX0_allows 69 = .ok (.ifCond .le 7, 3) := by decide +kernel
theorem dX0_allows_72 : decode cX0_allows 72 = .ok (.iconst 1, 1) := by decide +kernel
theorem dX0_allows_73 : decode cX0_allows 73 = .ok (.goto 4, 3) := by decide +kernel
theorem dX0_allows_76 : decode cX0_allows 76 = .ok (.iconst 0, 1) := by decide +kernel
theorem dX0_allows_77 : decode cX0_allows 77 = .ok (.ireturn, 1) := by decide +kernel
theorem dX0_allows_78 : decode cX0_allows 78 = .ok (.iload_n 2, 1) := by decide +kernel
theorem dX0_allows_79 : decode cX0_allows 79 = .ok (.bipush 8, 2) := by decide +kernel
theorem dX0_allows_81 : decode cX0_allows 81 = .ok (.if_icmp .ne 25, 3) := by decide +kernel
theorem dX0_allows_84 : decode cX0_allows 84 = .ok (.iload_n 1, 1) := by decide +kernel
theorem dX0_allows_85 : decode cX0_allows 85 = .ok (.iload_n 3, 1) := by decide +kernel
theorem dX0_allows_86 : decode cX0_allows 86 = .ok (.invokestatic 87, 3) := by decide +kernel
theorem dX0_allows_89 : decode cX0_allows 89 = .ok (.aload_n 0, 1) := by decide +kernel
theorem dX0_allows_90 : decode cX0_allows 90 = .ok (.iload_n 3, 1) := by decide +kernel
theorem dX0_allows_91 : decode cX0_allows 91 = .ok (.invokevirtual 90, 3) := by decide +kernel
theorem dX0_allows_94 : decode cX0_allows 94 = .ok (.getfield 94, 3) := by decide +kernel
theorem dX0_allows_97 : decode cX0_allows 97 = .ok (.if_icmp .lt 7, 3) := by decide +kernel
theorem dX0_allows_100 : decode cX0_allows 100 = .ok (.iconst 1, 1) := by decide +kernel
theorem dX0_allows_101 : decode cX0_allows 101 = .ok (.goto 4, 3) := by decide +kernel
theorem dX0_allows_104 : decode cX0_allows 104 = .ok (.iconst 0, 1) := by decide +kernel
theorem dX0_allows_105 : decode cX0_allows 105 = .ok (.ireturn, 1) := by decide +kernel
theorem dX0_allows_106 : decode cX0_allows 106 = .ok (.iload_n 2, 1) := by decide +kernel
theorem dX0_allows_107 : decode cX0_allows 107 = .ok (.bipush 10, 2) := by decide +kernel
theorem dX0_allows_109 : decode cX0_allows 109 = .ok (.if_icmp .ne 7, 3) := by decide +kernel
theorem dX0_allows_112 : decode cX0_allows 112 = .ok (.iconst 1, 1) := by decide +kernel
theorem dX0_allows_113 : decode cX0_allows 113 = .ok (.goto 4, 3) := by decide +kernel
theorem dX0_allows_116 : decode cX0_allows 116 = .ok (.iconst 0, 1) := by decide +kernel
theorem dX0_allows_117 : decode cX0_allows 117 = .ok (.ireturn, 1) := by decide +kernel
set_option maxRecDepth 20000 in
theorem ggX0_after_X7_turn : GoodIn wsX0_after wsX7_turn := goodIn_r _ [4] (by decide +kernel) (by decide +kernel)
set_option maxRecDepth 20000 in
theorem gX0_after_X7_turn : GoodIn wsX0_after (va_wsS RX0 84 yX7_turn wsX7_turn) := goodIn_app (goodIn_of _ (by decide +kernel)) ggX0_after_X7_turn
set_option maxRecDepth 20000 in
theorem ggX0_after_X7_asked : GoodIn wsX0_after wsX7_asked := goodIn_r _ [7] (by decide +kernel) (by decide +kernel)
set_option maxRecDepth 20000 in
theorem gX0_after_X7_asked : GoodIn wsX0_after (va_wsS RX0 81 yX7_asked wsX7_asked) := goodIn_app (goodIn_of _ (by decide +kernel)) ggX0_after_X7_asked
set_option maxRecDepth 20000 in
theorem ggX0_after_X7_ended : GoodIn wsX0_after wsX7_ended := goodIn_r _ [10] (by decide +kernel) (by decide +kernel)
set_option maxRecDepth 20000 in
theorem gX0_after_X7_ended : GoodIn wsX0_after (va_wsS RX0 73 yX7_ended wsX7_ended) := goodIn_app (goodIn_of _ (by decide +kernel)) ggX0_after_X7_ended
set_option maxRecDepth 20000 in
theorem ggX0_after_X0_look : GoodIn wsX0_after wsX0_look := goodIn_r _ [15, 16, 17, 18, 19, 20, 21, 22, 23, 3, 24, 25, 26, 27, 28, 6, 7, 1, 2, 4, 29, 30, 31, 14, 32, 33, 34, 35, 36, 37, 38, 39, 40, 41, 42, 43, 44, 5, 45, 46, 47, 48, 49, 50, 51, 52, 53, 54, 55, 56, 57, 58, 59, 60, 61, 62, 63, 64, 65, 66, 67, 68, 69, 70, 71, 72, 73, 74, 75, 104, 105, 106, 107, 108, 109, 110, 111, 112, 113, 114, 115, 116, 117, 118, 119, 120, 121, 122, 123, 124, 125] (by decide +kernel) (by decide +kernel)
set_option maxRecDepth 20000 in
theorem gX0_after_X0_look : GoodIn wsX0_after (wsV RX0 97 RX0 yX0_look wsX0_look) := goodIn_app (goodIn_of _ (by decide +kernel)) ggX0_after_X0_look
set_option maxRecDepth 20000 in
theorem ggX0_after_X7_owed : GoodIn wsX0_after wsX7_owed := goodIn_r _ [37] (by decide +kernel) (by decide +kernel)
set_option maxRecDepth 20000 in
theorem gX0_after_X7_owed : GoodIn wsX0_after (va_wsS RX0 87 yX7_owed wsX7_owed) := goodIn_app (goodIn_of _ (by decide +kernel)) ggX0_after_X7_owed
set_option maxRecDepth 20000 in
theorem ggX0_after_X0_codeOf : GoodIn wsX0_after wsX0_codeOf := goodIn_r _ [32, 33, 34, 104, 105, 106, 107, 108, 109, 110, 111, 112] (by decide +kernel) (by decide +kernel)
set_option maxRecDepth 20000 in
theorem gX0_after_X0_codeOf : GoodIn wsX0_after (wsV RX0 90 RX0 yX0_codeOf wsX0_codeOf) := goodIn_app (goodIn_of _ (by decide +kernel)) ggX0_after_X0_codeOf
set_option maxRecDepth 20000 in
theorem ggX0_after_X0_weighed : GoodIn wsX0_after wsX0_weighed := goodIn_r _ [79, 80, 81, 82, 83, 48, 84, 85, 104, 105, 106, 107, 108, 109, 110, 111, 112, 114, 115, 116, 117, 118, 119, 120, 121, 122, 123, 124, 125] (by decide +kernel) (by decide +kernel)
set_option maxRecDepth 20000 in
theorem gX0_after_X0_weighed : GoodIn wsX0_after (wsV RX0 100 RX0 yX0_weighed wsX0_weighed) := goodIn_app (goodIn_of _ (by decide +kernel)) ggX0_after_X0_weighed
set_option maxRecDepth 20000 in
theorem ggX0_after_X0_changed : GoodIn wsX0_after wsX0_changed := goodIn_r _ [88, 89, 90, 91, 92, 93, 94, 95] (by decide +kernel) (by decide +kernel)
set_option maxRecDepth 20000 in
theorem gX0_after_X0_changed : GoodIn wsX0_after (va_wsS RX0 104 yX0_changed wsX0_changed) := goodIn_app (goodIn_of _ (by decide +kernel)) ggX0_after_X0_changed
set_option maxRecDepth 20000 in
theorem ggX0_after_X7_left : GoodIn wsX0_after wsX7_left := goodIn_r _ [27] (by decide +kernel) (by decide +kernel)
set_option maxRecDepth 20000 in
theorem gX0_after_X7_left : GoodIn wsX0_after (va_wsS RX0 107 yX7_left wsX7_left) := goodIn_app (goodIn_of _ (by decide +kernel)) ggX0_after_X7_left
set_option maxRecDepth 20000 in
theorem ggX0_after_X7_of : GoodIn wsX0_after wsX7_of := goodIn_r _ [98] (by decide +kernel) (by decide +kernel)
set_option maxRecDepth 20000 in
theorem gX0_after_X7_of : GoodIn wsX0_after (va_wsS RX0 67 yX7_of wsX7_of) := goodIn_app (goodIn_of _ (by decide +kernel)) ggX0_after_X7_of
set_option maxRecDepth 20000 in
theorem ggX0_after_X0_lessOf : GoodIn wsX0_after wsX0_lessOf := goodIn_r _ [102, 33, 103, 34, 104, 105, 106, 107, 108, 109, 110, 111, 112, 114, 115, 116, 117, 118, 119, 120, 121, 122, 123, 124, 125] (by decide +kernel) (by decide +kernel)
set_option maxRecDepth 20000 in
theorem gX0_after_X0_lessOf : GoodIn wsX0_after (wsV RX0 110 RX0 yX0_lessOf wsX0_lessOf) := goodIn_app (goodIn_of _ (by decide +kernel)) ggX0_after_X0_lessOf
theorem dX0_after_0 : decode cX0_after 0 = .ok (.iload_n 1, 1) := by decide +kernel
theorem dX0_after_1 : decode cX0_after 1 = .ok (.invokestatic 84, 3) := by decide +kernel
theorem dX0_after_4 : decode cX0_after 4 = .ok (.istore 4, 2) := by decide +kernel
theorem dX0_after_6 : decode cX0_after 6 = .ok (.iload_n 1, 1) := by decide +kernel
theorem dX0_after_7 : decode cX0_after 7 = .ok (.invokestatic 81, 3) := by decide +kernel
theorem dX0_after_10 : decode cX0_after 10 = .ok (.ifCond .eq 41, 3) := by decide +kernel
theorem dX0_after_13 : decode cX0_after 13 = .ok (.iload_n 2, 1) := by decide +kernel
theorem dX0_after_14 : decode cX0_after 14 = .ok (.bipush 8, 2) := by decide +kernel
theorem dX0_after_16 : decode cX0_after 16 = .ok (.if_icmp .ne 12, 3) := by decide +kernel
theorem dX0_after_19 : decode cX0_after 19 = .ok (.iload_n 1, 1) := by decide +kernel
theorem dX0_after_20 : decode cX0_after 20 = .ok (.iconst 2, 1) := by decide +kernel
theorem dX0_after_21 : decode cX0_after 21 = .ok (.iconst 0, 1) := by decide +kernel
theorem dX0_after_22 : decode cX0_after 22 = .ok (.invokestatic 73, 3) := by decide +kernel
theorem dX0_after_25 : decode cX0_after 25 = .ok (.goto 25, 3) := by decide +kernel
theorem dX0_after_28 : decode cX0_after 28 = .ok (.iload_n 1, 1) := by decide +kernel
theorem dX0_after_29 : decode cX0_after 29 = .ok (.iconst 3, 1) := by decide +kernel
theorem dX0_after_30 : decode cX0_after 30 = .ok (.aload_n 0, 1) := by decide +kernel
theorem dX0_after_31 : decode cX0_after 31 = .ok (.iload_n 1, 1) := by decide +kernel
theorem dX0_after_32 : decode cX0_after 32 = .ok (.invokevirtual 97, 3) := by decide +kernel
theorem dX0_after_35 : decode cX0_after 35 = .ok (.iconst 1, 1) := by decide +kernel
theorem dX0_after_36 : decode cX0_after 36 = .ok (.if_icmp .ne 7, 3) := by decide +kernel
theorem dX0_after_39 : decode cX0_after 39 = .ok (.iconst 0, 1) := by decide +kernel
theorem dX0_after_40 : decode cX0_after 40 = .ok (.goto 7, 3) := by decide +kernel
theorem dX0_after_43 : decode cX0_after 43 = .ok (.iconst 1, 1) := by decide +kernel
theorem dX0_after_44 : decode cX0_after 44 = .ok (.iload 4, 2) := by decide +kernel
theorem dX0_after_46 : decode cX0_after 46 = .ok (.iadd, 1) := by decide +kernel
theorem dX0_after_47 : decode cX0_after 47 = .ok (.invokestatic 73, 3) := by decide +kernel
theorem dX0_after_50 : decode cX0_after 50 = .ok (.ireturn, 1) := by decide +kernel
theorem dX0_after_51 : decode cX0_after 51 = .ok (.iconst 1, 1) := by decide +kernel
theorem dX0_after_52 : decode cX0_after 52 = .ok (.iload 4, 2) := by decide +kernel
theorem dX0_after_54 : decode cX0_after 54 = .ok (.isub, 1) := by decide +kernel
theorem dX0_after_55 : decode cX0_after 55 = .ok (.istore 5, 2) := by decide +kernel
theorem dX0_after_57 : decode cX0_after 57 = .ok (.iload_n 1, 1) := by decide +kernel
theorem dX0_after_58 : decode cX0_after 58 = .ok (.iload 4, 2) := by decide +kernel
theorem dX0_after_60 : decode cX0_after 60 = .ok (.invokestatic 87, 3) := by decide +kernel
theorem dX0_after_63 : decode cX0_after 63 = .ok (.istore 6, 2) := by decide +kernel
theorem dX0_after_65 : decode cX0_after 65 = .ok (.iload_n 1, 1) := by decide +kernel
theorem dX0_after_66 : decode cX0_after 66 = .ok (.iload 5, 2) := by decide +kernel
theorem dX0_after_68 : decode cX0_after 68 = .ok (.invokestatic 87, 3) := by decide +kernel
theorem dX0_after_71 : decode cX0_after 71 = .ok (.istore 7, 2) := by decide +kernel
theorem dX0_after_73 : decode cX0_after 73 = .ok (.iload_n 3, 1) := by decide +kernel
theorem dX0_after_74 : decode cX0_after 74 = .ok (.ifCond .eq 39, 3) := by decide +kernel
theorem dX0_after_77 : decode cX0_after 77 = .ok (.iload_n 2, 1) := by decide +kernel
theorem dX0_after_78 : decode cX0_after 78 = .ok (.bipush 8, 2) := by decide +kernel
theorem dX0_after_80 : decode cX0_after 80 = .ok (.if_icmp .ge 33, 3) := by decide +kernel
theorem dX0_after_83 : decode cX0_after 83 = .ok (.iload 7, 2) := by decide +kernel
theorem dX0_after_85 : decode cX0_after 85 = .ok (.iload_n 2, 1) := by decide +kernel
theorem dX0_after_86 : decode cX0_after 86 = .ok (.aload_n 0, 1) := by decide +kernel
theorem dX0_after_87 : decode cX0_after 87 = .ok (.aload_n 0, 1) := by decide +kernel
theorem dX0_after_88 : decode cX0_after 88 = .ok (.iload_n 1, 1) := by decide +kernel
theorem dX0_after_89 : decode cX0_after 89 = .ok (.invokevirtual 97, 3) := by decide +kernel
theorem dX0_after_92 : decode cX0_after 92 = .ok (.iconst 4, 1) := by decide +kernel
theorem dX0_after_93 : decode cX0_after 93 = .ok (.iload_n 2, 1) := by decide +kernel
theorem dX0_after_94 : decode cX0_after 94 = .ok (.imul, 1) := by decide +kernel
theorem dX0_after_95 : decode cX0_after 95 = .ok (.ishr, 1) := by decide +kernel
theorem dX0_after_96 : decode cX0_after 96 = .ok (.bipush 15, 2) := by decide +kernel
theorem dX0_after_98 : decode cX0_after 98 = .ok (.iand, 1) := by decide +kernel
theorem dX0_after_99 : decode cX0_after 99 = .ok (.aload_n 0, 1) := by decide +kernel
theorem dX0_after_100 : decode cX0_after 100 = .ok (.iload 5, 2) := by decide +kernel
theorem dX0_after_102 : decode cX0_after 102 = .ok (.invokevirtual 90, 3) := by decide +kernel
theorem dX0_after_105 : decode cX0_after 105 = .ok (.invokevirtual 100, 3) := by decide +kernel
theorem dX0_after_108 : decode cX0_after 108 = .ok (.invokestatic 104, 3) := by decide +kernel
theorem dX0_after_111 : decode cX0_after 111 = .ok (.istore 7, 2) := by decide +kernel
theorem dX0_after_113 : decode cX0_after 113 = .ok (.iload 4, 2) := by decide +kernel
theorem dX0_after_115 : decode cX0_after 115 = .ok (.ifCond .ne 8, 3) := by decide +kernel
theorem dX0_after_118 : decode cX0_after 118 = .ok (.iload 6, 2) := by decide +kernel
theorem dX0_after_120 : decode cX0_after 120 = .ok (.goto 5, 3) := by decide +kernel
theorem dX0_after_123 : decode cX0_after 123 = .ok (.iload 7, 2) := by decide +kernel
theorem dX0_after_125 : decode cX0_after 125 = .ok (.istore 8, 2) := by decide +kernel
theorem dX0_after_127 : decode cX0_after 127 = .ok (.iload 4, 2) := by decide +kernel
theorem dX0_after_129 : decode cX0_after 129 = .ok (.ifCond .ne 8, 3) := by decide +kernel
theorem dX0_after_132 : decode cX0_after 132 = .ok (.iload 7, 2) := by decide +kernel
theorem dX0_after_134 : decode cX0_after 134 = .ok (.goto 5, 3) := by decide +kernel
theorem dX0_after_137 : decode cX0_after 137 = .ok (.iload 6, 2) := by decide +kernel
theorem dX0_after_139 : decode cX0_after 139 = .ok (.istore 9, 2) := by decide +kernel
theorem dX0_after_141 : decode cX0_after 141 = .ok (.iload_n 2, 1) := by decide +kernel
theorem dX0_after_142 : decode cX0_after 142 = .ok (.bipush 8, 2) := by decide +kernel
theorem dX0_after_144 : decode cX0_after 144 = .ok (.if_icmp .ne 10, 3) := by decide +kernel
theorem dX0_after_147 : decode cX0_after 147 = .ok (.iload 4, 2) := by decide +kernel
theorem dX0_after_149 : decode cX0_after 149 = .ok (.iconst 1, 1) := by decide +kernel
theorem dX0_after_150 : decode cX0_after 150 = .ok (.iadd, 1) := by decide +kernel
theorem dX0_after_151 : decode cX0_after 151 = .ok (.goto 4, 3) := by decide +kernel
theorem dX0_after_154 : decode cX0_after 154 = .ok (.iconst 0, 1) := by decide +kernel
theorem dX0_after_155 : decode cX0_after 155 = .ok (.istore 10, 2) := by decide +kernel
theorem dX0_after_157 : decode cX0_after 157 = .ok (.iload_n 1, 1) := by decide +kernel
theorem dX0_after_158 : decode cX0_after 158 = .ok (.invokestatic 107, 3) := by decide +kernel
theorem dX0_after_161 : decode cX0_after 161 = .ok (.istore 11, 2) := by decide +kernel
theorem dX0_after_163 : decode cX0_after 163 = .ok (.iload 6, 2) := by decide +kernel
theorem dX0_after_165 : decode cX0_after 165 = .ok (.ifCond .ne 29, 3) := by decide +kernel
theorem dX0_after_168 : decode cX0_after 168 = .ok (.iload 7, 2) := by decide +kernel
theorem dX0_after_170 : decode cX0_after 170 = .ok (.ifCond .ne 24, 3) := by decide +kernel
theorem dX0_after_173 : decode cX0_after 173 = .ok (.iload 10, 2) := by decide +kernel
theorem dX0_after_175 : decode cX0_after 175 = .ok (.ifCond .ne 19, 3) := by decide +kernel
theorem dX0_after_178 : decode cX0_after 178 = .ok (.iconst 0, 1) := by decide +kernel
theorem dX0_after_179 : decode cX0_after 179 = .ok (.iconst 0, 1) := by decide +kernel
theorem dX0_after_180 : decode cX0_after 180 = .ok (.iload 11, 2) := by decide +kernel
theorem dX0_after_182 : decode cX0_after 182 = .ok (.iload 5, 2) := by decide +kernel
theorem dX0_after_184 : decode cX0_after 184 = .ok (.iconst 0, 1) := by decide +kernel
theorem dX0_after_185 : decode cX0_after 185 = .ok (.invokestatic 67, 3) := by decide +kernel
theorem dX0_after_188 : decode cX0_after 188 = .ok (.iconst 1, 1) := by decide +kernel
theorem dX0_after_189 : decode cX0_after 189 = .ok (.iconst 0, 1) := by decide +kernel
theorem dX0_after_190 : decode cX0_after 190 = .ok (.invokestatic 73, 3) := by decide +kernel
theorem dX0_after_193 : decode cX0_after 193 = .ok (.ireturn, 1) := by decide +kernel
theorem dX0_after_194 : decode cX0_after 194 = .ok (.iload 8, 2) := by decide +kernel
theorem dX0_after_196 : decode cX0_after 196 = .ok (.iload 9, 2) := by decide +kernel
theorem dX0_after_198 : decode cX0_after 198 = .ok (.iload 11, 2) := by decide +kernel
theorem dX0_after_200 : decode cX0_after 200 = .ok (.iconst 1, 1) := by decide +kernel
theorem dX0_after_201 : decode cX0_after 201 = .ok (.isub, 1) := by decide +kernel
theorem dX0_after_202 : decode cX0_after 202 = .ok (.bipush 15, 2) := by decide +kernel
theorem dX0_after_204 : decode cX0_after 204 = .ok (.iand, 1) := by decide +kernel
theorem dX0_after_205 : decode cX0_after 205 = .ok (.iload 5, 2) := by decide +kernel
theorem dX0_after_207 : decode cX0_after 207 = .ok (.iload 10, 2) := by decide +kernel
theorem dX0_after_209 : decode cX0_after 209 = .ok (.invokestatic 67, 3) := by decide +kernel
theorem dX0_after_212 : decode cX0_after 212 = .ok (.istore 12, 2) := by decide +kernel
theorem dX0_after_214 : decode cX0_after 214 = .ok (.iload 11, 2) := by decide +kernel
theorem dX0_after_216 : decode cX0_after 216 = .ok (.iconst 1, 1) := by decide +kernel
theorem dX0_after_217 : decode cX0_after 217 = .ok (.if_icmp .le 8, 3) := by decide +kernel
theorem dX0_after_220 : decode cX0_after 220 = .ok (.iload 12, 2) := by decide +kernel
theorem dX0_after_222 : decode cX0_after 222 = .ok (.goto 17, 3) := by decide +kernel
theorem dX0_after_225 : decode cX0_after 225 = .ok (.iload 12, 2) := by decide +kernel
theorem dX0_after_227 : decode cX0_after 227 = .ok (.iconst 4, 1) := by decide +kernel
theorem dX0_after_228 : decode cX0_after 228 = .ok (.aload_n 0, 1) := by decide +kernel
theorem dX0_after_229 : decode cX0_after 229 = .ok (.iload 8, 2) := by decide +kernel
theorem dX0_after_231 : decode cX0_after 231 = .ok (.iload 9, 2) := by decide +kernel
theorem dX0_after_233 : decode cX0_after 233 = .ok (.invokevirtual 110, 3) := by decide +kernel
theorem dX0_after_236 : decode cX0_after 236 = .ok (.invokestatic 73, 3) := by decide +kernel
theorem dX0_after_239 : decode cX0_after 239 = .ok (.ireturn, 1) := by decide +kernel
set_option maxRecDepth 20000 in
theorem ggX0_heard_X4_moveAt : GoodIn wsX0_heard wsX4_moveAt := goodIn_r _ [6, 7, 8, 132, 133, 134, 135, 136, 137, 138, 139] (by decide +kernel) (by decide +kernel)
set_option maxRecDepth 20000 in
theorem gX0_heard_X4_moveAt : GoodIn wsX0_heard (wsV RX0 113 RX4 yX4_moveAt wsX4_moveAt) := goodIn_app (goodIn_of _ (by decide +kernel)) ggX0_heard_X4_moveAt
set_option maxRecDepth 20000 in
theorem ggX0_heard_X0_open : GoodIn wsX0_heard wsX0_open := goodIn_r _ [13, 14, 15, 16, 17, 18, 19, 20, 21, 22, 23, 24, 25, 26, 27, 28, 29, 30, 31, 32, 33, 34, 35, 36, 37, 38, 39, 40, 41, 42, 43, 44, 45, 46, 47, 48, 49, 50, 51, 52, 53, 54, 55, 56, 57, 58, 59, 60, 61, 140, 141, 142, 143, 144, 145, 146, 147, 148, 149, 150, 151, 152, 153, 154, 155, 156, 157, 158, 159, 160, 161] (by decide +kernel) (by decide +kernel)
set_option maxRecDepth 20000 in
theorem gX0_heard_X0_open : GoodIn wsX0_heard (wsV RX0 118 RX0 yX0_open wsX0_open) := goodIn_app (goodIn_of _ (by decide +kernel)) ggX0_heard_X0_open
set_option maxRecDepth 20000 in
theorem ggX0_heard_X0_allows : GoodIn wsX0_heard wsX0_allows := goodIn_r _ [65, 66, 67, 68, 57, 69, 70, 71, 72, 73, 74, 75, 76, 77, 78, 79, 80, 81, 12, 82, 83, 15, 150, 151, 152, 153, 154, 155, 156, 157, 158, 159, 160, 161, 140, 141, 142, 143, 144, 145, 146, 147, 148] (by decide +kernel) (by decide +kernel)
set_option maxRecDepth 20000 in
theorem gX0_heard_X0_allows : GoodIn wsX0_heard (wsV RX0 125 RX0 yX0_allows wsX0_allows) := goodIn_app (goodIn_of _ (by decide +kernel)) ggX0_heard_X0_allows
set_option maxRecDepth 20000 in
theorem ggX0_heard_X0_after : GoodIn wsX0_heard wsX0_after := goodIn_r _ [87, 73, 74, 57, 75, 70, 71, 72, 59, 60, 61, 88, 89, 90, 12, 91, 92, 93, 94, 14, 95, 20, 96, 97, 98, 99, 100, 101, 102, 79, 80, 81, 82, 83, 15, 76, 77, 78, 103, 21, 22, 23, 24, 25, 26, 104, 105, 106, 30, 107, 32, 34, 35, 36, 37, 38, 39, 40, 41, 42, 43, 44, 45, 46, 47, 48, 49, 50, 51, 52, 53, 54, 108, 109, 110, 111, 112, 113, 114, 115, 116, 117, 118, 119, 120, 33, 121, 122, 123, 16, 17, 18, 19, 124, 125, 126, 55, 56, 58, 127, 128, 129, 130, 131, 140, 141, 142, 143, 144, 145, 146, 147, 148, 149, 150, 151, 152, 153, 154, 155, 156, 157, 158, 159, 160, 161] (by decide +kernel) (by decide +kernel)
set_option maxRecDepth 20000 in
theorem gX0_heard_X0_after : GoodIn wsX0_heard (wsV RX0 129 RX0 yX0_after wsX0_after) := goodIn_app (goodIn_of _ (by decide +kernel)) ggX0_heard_X0_after
theorem dX0_heard_0 : decode cX0_heard 0 = .ok (.aload_n 0, 1) := by decide +kernel
theorem dX0_heard_1 : decode cX0_heard 1 = .ok (.aload_n 1, 1) := by decide +kernel
theorem dX0_heard_2 : decode cX0_heard 2 = .ok (.iconst 0, 1) := by decide +kernel
theorem dX0_heard_3 : decode cX0_heard 3 = .ok (.invokevirtual 113, 3) := by decide +kernel
theorem dX0_heard_6 : decode cX0_heard 6 = .ok (.iload_n 2, 1) := by decide +kernel
theorem dX0_heard_7 : decode cX0_heard 7 = .ok (.iconst 1, 1) := by decide +kernel
theorem dX0_heard_8 : decode cX0_heard 8 = .ok (.iand, 1) := by decide +kernel
theorem dX0_heard_9 : decode cX0_heard 9 = .ok (.ifCond .ne 7, 3) := by decide +kernel
theorem dX0_heard_12 : decode cX0_heard 12 = .ok (.iconst 1, 1) := by decide +kernel
theorem dX0_heard_13 : decode cX0_heard 13 = .ok (.goto 4, 3) := by decide +kernel
theorem dX0_heard_16 : decode cX0_heard 16 = .ok (.iconst 0, 1) := by decide +kernel
theorem dX0_heard_17 : decode cX0_heard 17 = .ok (.invokevirtual 118, 3) := by decide +kernel
theorem dX0_heard_20 : decode cX0_heard 20 = .ok (.istore_n 3, 1) := by decide +kernel
theorem dX0_heard_21 : decode cX0_heard 21 = .ok (.iconst 1, 1) := by decide +kernel
theorem dX0_heard_22 : decode cX0_heard 22 = .ok (.istore 4, 2) := by decide +kernel
theorem dX0_heard_24 : decode cX0_heard 24 = .ok (.iload 4, 2) := by decide +kernel
theorem dX0_heard_26 : decode cX0_heard 26 = .ok (.aload_n 1, 1) := by decide +kernel
theorem dX0_heard_27 : decode cX0_heard 27 = .ok (.getfield 122, 3) := by decide +kernel
theorem dX0_heard_30 : decode cX0_heard 30 = .ok (.if_icmp .ge 49, 3) := by decide +kernel
theorem dX0_heard_33 : decode cX0_heard 33 = .ok (.aload_n 0, 1) := by decide +kernel
theorem dX0_heard_34 : decode cX0_heard 34 = .ok (.iload_n 3, 1) := by decide +kernel
theorem dX0_heard_35 : decode cX0_heard 35 = .ok (.aload_n 1, 1) := by decide +kernel
theorem dX0_heard_36 : decode cX0_heard 36 = .ok (.iload 4, 2) := by decide +kernel
theorem dX0_heard_38 : decode cX0_heard 38 = .ok (.invokevirtual 113, 3) := by decide +kernel
theorem dX0_heard_41 : decode cX0_heard 41 = .ok (.invokevirtual 125, 3) := by decide +kernel
theorem dX0_heard_44 : decode cX0_heard 44 = .ok (.ifCond .eq 35, 3) := by decide +kernel
theorem dX0_heard_47 : decode cX0_heard 47 = .ok (.aload_n 0, 1) := by decide +kernel
theorem dX0_heard_48 : decode cX0_heard 48 = .ok (.iload_n 3, 1) := by decide +kernel
theorem dX0_heard_49 : decode cX0_heard 49 = .ok (.aload_n 1, 1) := by decide +kernel
theorem dX0_heard_50 : decode cX0_heard 50 = .ok (.iload 4, 2) := by decide +kernel
theorem dX0_heard_52 : decode cX0_heard 52 = .ok (.invokevirtual 113, 3) := by decide +kernel
theorem dX0_heard_55 : decode cX0_heard 55 = .ok (.iload_n 2, 1) := by decide +kernel
theorem dX0_heard_56 : decode cX0_heard 56 = .ok (.iload 4, 2) := by decide +kernel
theorem dX0_heard_58 : decode cX0_heard 58 = .ok (.ishr, 1) := by decide +kernel
theorem dX0_heard_59 : decode cX0_heard 59 = .ok (.iconst 1, 1) := by decide +kernel
theorem dX0_heard_60 : decode cX0_heard 60 = .ok (.iand, 1) := by decide +kernel
theorem dX0_heard_61 : decode cX0_heard 61 = .ok (.ifCond .ne 7, 3) := by decide +kernel
theorem dX0_heard_64 : decode cX0_heard 64 = .ok (.iconst 1, 1) := by decide +kernel
theorem dX0_heard_65 : decode cX0_heard 65 = .ok (.goto 4, 3) := by decide +kernel
theorem dX0_heard_68 : decode cX0_heard 68 = .ok (.iconst 0, 1) := by decide +kernel
theorem dX0_heard_69 : decode cX0_heard 69 = .ok (.invokevirtual 129, 3) := by decide +kernel
theorem dX0_heard_72 : decode cX0_heard 72 = .ok (.istore_n 3, 1) := by decide +kernel
theorem dX0_heard_73 : decode cX0_heard 73 = .ok (.iinc 4 1, 3) := by decide +kernel
theorem dX0_heard_76 : decode cX0_heard 76 = .ok (.goto (-52), 3) := by decide +kernel
theorem dX0_heard_79 : decode cX0_heard 79 = .ok (.iload_n 3, 1) := by decide +kernel
theorem dX0_heard_80 : decode cX0_heard 80 = .ok (.ireturn, 1) := by decide +kernel
set_option maxRecDepth 20000 in
theorem ggX0_reckoned_X0_codeOf : GoodIn wsX0_reckoned wsX0_codeOf := goodIn_r _ [12, 13, 14, 74, 75, 76, 77, 78, 79, 80, 81, 82] (by decide +kernel) (by decide +kernel)
set_option maxRecDepth 20000 in
theorem gX0_reckoned_X0_codeOf : GoodIn wsX0_reckoned (wsV RX0 90 RX0 yX0_codeOf wsX0_codeOf) := goodIn_app (goodIn_of _ (by decide +kernel)) ggX0_reckoned_X0_codeOf
set_option maxRecDepth 20000 in
theorem ggX0_reckoned_X4_moveAt : GoodIn wsX0_reckoned wsX4_moveAt := goodIn_r _ [19, 20, 21, 66, 67, 68, 69, 70, 71, 72, 73] (by decide +kernel) (by decide +kernel)
set_option maxRecDepth 20000 in
theorem gX0_reckoned_X4_moveAt : GoodIn wsX0_reckoned (wsV RX0 113 RX4 yX4_moveAt wsX4_moveAt) := goodIn_app (goodIn_of _ (by decide +kernel)) ggX0_reckoned_X4_moveAt
set_option maxRecDepth 20000 in
theorem ggX0_reckoned_X6_setHour : GoodIn wsX0_reckoned wsX6_setHour := goodIn_r _ [26, 27, 83] (by decide +kernel) (by decide +kernel)
set_option maxRecDepth 20000 in
theorem gX0_reckoned_X6_setHour : GoodIn wsX0_reckoned (wsV RX0 59 RX6 yX6_setHour wsX6_setHour) := goodIn_app (goodIn_of _ (by decide +kernel)) ggX0_reckoned_X6_setHour
set_option maxRecDepth 20000 in
theorem ggX0_reckoned_X2_weight : GoodIn wsX0_reckoned wsX2_weight := goodIn_r _ [32, 33, 34, 35, 36, 37, 31, 38, 39, 40, 41, 42, 43, 44, 45, 46, 47, 48, 49, 50, 51, 25, 52, 27, 53, 54, 55, 84, 85, 86, 87, 88, 89, 90, 91, 92, 93, 94, 95, 83] (by decide +kernel) (by decide +kernel)
set_option maxRecDepth 20000 in
theorem gX0_reckoned_X2_weight : GoodIn wsX0_reckoned (wsV RX0 63 RX2 yX2_weight wsX2_weight) := goodIn_app (goodIn_of _ (by decide +kernel)) ggX0_reckoned_X2_weight
set_option maxRecDepth 20000 in
theorem ggX0_reckoned_X0_changed : GoodIn wsX0_reckoned wsX0_changed := goodIn_r _ [58, 59, 60, 4, 61, 2, 3, 5] (by decide +kernel) (by decide +kernel)
set_option maxRecDepth 20000 in
theorem gX0_reckoned_X0_changed : GoodIn wsX0_reckoned (va_wsS RX0 104 yX0_changed wsX0_changed) := goodIn_app (goodIn_of _ (by decide +kernel)) ggX0_reckoned_X0_changed
set_option maxRecDepth 20000 in
theorem ggX0_reckoned_X7_of : GoodIn wsX0_reckoned wsX7_of := goodIn_r _ [65] (by decide +kernel) (by decide +kernel)
set_option maxRecDepth 20000 in
theorem gX0_reckoned_X7_of : GoodIn wsX0_reckoned (va_wsS RX0 67 yX7_of wsX7_of) := goodIn_app (goodIn_of _ (by decide +kernel)) ggX0_reckoned_X7_of
theorem dX0_reckoned_0 : decode cX0_reckoned 0 = .ok (.aload_n 0, 1) := by decide +kernel
theorem dX0_reckoned_1 : decode cX0_reckoned 1 = .ok (.iload_n 2, 1) := by decide +kernel
theorem dX0_reckoned_2 : decode cX0_reckoned 2 = .ok (.invokevirtual 90, 3) := by decide +kernel
theorem dX0_reckoned_5 : decode cX0_reckoned 5 = .ok (.astore_n 3, 1) := by decide +kernel
theorem dX0_reckoned_6 : decode cX0_reckoned 6 = .ok (.iconst 0, 1) := by decide +kernel
theorem dX0_reckoned_7 : decode cX0_reckoned 7 = .ok (.istore 4, 2) := by decide +kernel
theorem dX0_reckoned_9 : decode cX0_reckoned 9 = .ok (.iconst 0, 1) := by decide +kernel
theorem dX0_reckoned_10 : decode cX0_reckoned 10 = .ok (.istore 5, 2) := by decide +kernel
theorem dX0_reckoned_12 : decode cX0_reckoned 12 = .ok (.iconst 0, 1) := by decide +kernel
theorem dX0_reckoned_13 : decode cX0_reckoned 13 = .ok (.istore 6, 2) := by decide +kernel
theorem dX0_reckoned_15 : decode cX0_reckoned 15 = .ok (.iload 6, 2) := by decide +kernel
theorem dX0_reckoned_17 : decode cX0_reckoned 17 = .ok (.aload_n 1, 1) := by decide +kernel
theorem dX0_reckoned_18 : decode cX0_reckoned 18 = .ok (.getfield 122, 3) := by decide +kernel
theorem dX0_reckoned_21 : decode cX0_reckoned 21 = .ok (.if_icmp .ge 111, 3) := by decide +kernel
theorem dX0_reckoned_24 : decode cX0_reckoned 24 = .ok (.aload_n 1, 1) := by decide +kernel
theorem dX0_reckoned_25 : decode cX0_reckoned 25 = .ok (.iload 6, 2) := by decide +kernel
theorem dX0_reckoned_27 : decode cX0_reckoned 27 = .ok (.invokevirtual 113, 3) := by decide +kernel
theorem dX0_reckoned_30 : decode cX0_reckoned 30 = .ok (.istore 7, 2) := by decide +kernel
theorem dX0_reckoned_32 : decode cX0_reckoned 32 = .ok (.iconst 0, 1) := by decide +kernel
theorem dX0_reckoned_33 : decode cX0_reckoned 33 = .ok (.iload 6, 2) := by decide +kernel
theorem dX0_reckoned_35 : decode cX0_reckoned 35 = .ok (.iconst 1, 1) := by decide +kernel
theorem dX0_reckoned_36 : decode cX0_reckoned 36 = .ok (.isub, 1) := by decide +kernel
theorem dX0_reckoned_37 : decode cX0_reckoned 37 = .ok (.invokestatic 133, 3) := by decide +kernel
theorem dX0_reckoned_40 : decode cX0_reckoned 40 = .ok (.istore 8, 2) := by decide +kernel
theorem dX0_reckoned_42 : decode cX0_reckoned 42 = .ok (.iload 7, 2) := by decide +kernel
theorem dX0_reckoned_44 : decode cX0_reckoned 44 = .ok (.bipush 8, 2) := by decide +kernel
theorem dX0_reckoned_46 : decode cX0_reckoned 46 = .ok (.if_icmp .lt 6, 3) := by decide +kernel
theorem dX0_reckoned_49 : decode cX0_reckoned 49 = .ok (.goto 77, 3) := by decide +kernel
theorem dX0_reckoned_52 : decode cX0_reckoned 52 = .ok (.iload 6, 2) := by decide +kernel
theorem dX0_reckoned_54 : decode cX0_reckoned 54 = .ok (.iconst 2, 1) := by decide +kernel
theorem dX0_reckoned_55 : decode cX0_reckoned 55 = .ok (.irem, 1) := by decide +kernel
theorem dX0_reckoned_56 : decode cX0_reckoned 56 = .ok (.ifCond .ne 38, 3) := by decide +kernel
theorem dX0_reckoned_59 : decode cX0_reckoned 59 = .ok (.aload_n 0, 1) := by decide +kernel
theorem dX0_reckoned_60 : decode cX0_reckoned 60 = .ok (.getfield 12, 3) := by decide +kernel
theorem dX0_reckoned_63 : decode cX0_reckoned 63 = .ok (.iload 5, 2) := by decide +kernel
theorem dX0_reckoned_65 : decode cX0_reckoned 65 = .ok (.iload 4, 2) := by decide +kernel
theorem dX0_reckoned_67 : decode cX0_reckoned 67 = .ok (.iload 8, 2) := by decide +kernel
theorem dX0_reckoned_69 : decode cX0_reckoned 69 = .ok (.invokevirtual 59, 3) := by decide +kernel
theorem dX0_reckoned_72 : decode cX0_reckoned 72 = .ok (.iload 5, 2) := by decide +kernel
theorem dX0_reckoned_74 : decode cX0_reckoned 74 = .ok (.iload 7, 2) := by decide +kernel
theorem dX0_reckoned_76 : decode cX0_reckoned 76 = .ok (.aload_n 3, 1) := by decide +kernel
theorem dX0_reckoned_77 : decode cX0_reckoned 77 = .ok (.iload 7, 2) := by decide +kernel
theorem dX0_reckoned_79 : decode cX0_reckoned 79 = .ok (.aload_n 0, 1) := by decide +kernel
theorem dX0_reckoned_80 : decode cX0_reckoned 80 = .ok (.getfield 12, 3) := by decide +kernel
theorem dX0_reckoned_83 : decode cX0_reckoned 83 = .ok (.invokevirtual 63, 3) := by decide +kernel
theorem dX0_reckoned_86 : decode cX0_reckoned 86 = .ok (.invokestatic 104, 3) := by decide +kernel
theorem dX0_reckoned_89 : decode cX0_reckoned 89 = .ok (.istore 5, 2) := by decide +kernel
theorem dX0_reckoned_91 : decode cX0_reckoned 91 = .ok (.goto 35, 3) := by decide +kernel
theorem dX0_reckoned_94 : decode cX0_reckoned 94 = .ok (.aload_n 0, 1) := by decide +kernel
theorem dX0_reckoned_95 : decode cX0_reckoned 95 = .ok (.getfield 18, 3) := by decide +kernel
theorem dX0_reckoned_98 : decode cX0_reckoned 98 = .ok (.iload 4, 2) := by decide +kernel
theorem dX0_reckoned_100 : decode cX0_reckoned 100 = .ok (.iload 5, 2) := by decide +kernel
theorem dX0_reckoned_102 : decode cX0_reckoned 102 = .ok (.iload 8, 2) := by decide +kernel
theorem dX0_reckoned_104 : decode cX0_reckoned 104 = .ok (.invokevirtual 59, 3) := by decide +kernel
theorem dX0_reckoned_107 : decode cX0_reckoned 107 = .ok (.iload 4, 2) := by decide +kernel
theorem dX0_reckoned_109 : decode cX0_reckoned 109 = .ok (.iload 7, 2) := by decide +kernel
theorem dX0_reckoned_111 : decode cX0_reckoned 111 = .ok (.aload_n 3, 1) := by decide +kernel
theorem dX0_reckoned_112 : decode cX0_reckoned 112 = .ok (.iload 7, 2) := by decide +kernel
theorem dX0_reckoned_114 : decode cX0_reckoned 114 = .ok (.aload_n 0, 1) := by decide +kernel
theorem dX0_reckoned_115 : decode cX0_reckoned 115 = .ok (.getfield 18, 3) := by decide +kernel
theorem dX0_reckoned_118 : decode cX0_reckoned 118 = .ok (.invokevirtual 63, 3) := by decide +kernel
theorem dX0_reckoned_121 : decode cX0_reckoned 121 = .ok (.invokestatic 104, 3) := by decide +kernel
theorem dX0_reckoned_124 : decode cX0_reckoned 124 = .ok (.istore 4, 2) := by decide +kernel
theorem dX0_reckoned_126 : decode cX0_reckoned 126 = .ok (.iinc 6 1, 3) := by decide +kernel
theorem dX0_reckoned_129 : decode cX0_reckoned 129 = .ok (.goto (-114), 3) := by decide +kernel
theorem dX0_reckoned_132 : decode cX0_reckoned 132 = .ok (.iload 4, 2) := by decide +kernel
theorem dX0_reckoned_134 : decode cX0_reckoned 134 = .ok (.iload 5, 2) := by decide +kernel
theorem dX0_reckoned_136 : decode cX0_reckoned 136 = .ok (.iconst 0, 1) := by decide +kernel
theorem dX0_reckoned_137 : decode cX0_reckoned 137 = .ok (.iconst 0, 1) := by decide +kernel
theorem dX0_reckoned_138 : decode cX0_reckoned 138 = .ok (.iconst 0, 1) := by decide +kernel
theorem dX0_reckoned_139 : decode cX0_reckoned 139 = .ok (.invokestatic 67, 3) := by decide +kernel
theorem dX0_reckoned_142 : decode cX0_reckoned 142 = .ok (.ireturn, 1) := by decide +kernel
theorem dX0_changed_0 : decode cX0_changed 0 = .ok (.iload_n 1, 1) := by decide +kernel
theorem dX0_changed_1 : decode cX0_changed 1 = .ok (.iconst 4, 1) := by decide +kernel
theorem dX0_changed_2 : decode cX0_changed 2 = .ok (.if_icmp .ge 14, 3) := by decide +kernel
theorem dX0_changed_5 : decode cX0_changed 5 = .ok (.bipush 15, 2) := by decide +kernel
theorem dX0_changed_7 : decode cX0_changed 7 = .ok (.iload_n 0, 1) := by decide +kernel
theorem dX0_changed_8 : decode cX0_changed 8 = .ok (.iload_n 2, 1) := by decide +kernel
theorem dX0_changed_9 : decode cX0_changed 9 = .ok (.iadd, 1) := by decide +kernel
theorem dX0_changed_10 : decode cX0_changed 10 = .ok (.invokestatic 46, 3) := by decide +kernel
theorem dX0_changed_13 : decode cX0_changed 13 = .ok (.goto 10, 3) := by decide +kernel
theorem dX0_changed_16 : decode cX0_changed 16 = .ok (.iconst 0, 1) := by decide +kernel
theorem dX0_changed_17 : decode cX0_changed 17 = .ok (.iload_n 0, 1) := by decide +kernel
theorem dX0_changed_18 : decode cX0_changed 18 = .ok (.iload_n 2, 1) := by decide +kernel
theorem dX0_changed_19 : decode cX0_changed 19 = .ok (.isub, 1) := by decide +kernel
theorem dX0_changed_20 : decode cX0_changed 20 = .ok (.invokestatic 133, 3) := by decide +kernel
theorem dX0_changed_23 : decode cX0_changed 23 = .ok (.ireturn, 1) := by decide +kernel
theorem dX0_lessOf_0 : decode cX0_lessOf 0 = .ok (.iload_n 1, 1) := by decide +kernel
theorem dX0_lessOf_1 : decode cX0_lessOf 1 = .ok (.aload_n 0, 1) := by decide +kernel
theorem dX0_lessOf_2 : decode cX0_lessOf 2 = .ok (.getfield 24, 3) := by decide +kernel
theorem dX0_lessOf_5 : decode cX0_lessOf 5 = .ok (.getfield 136, 3) := by decide +kernel
theorem dX0_lessOf_8 : decode cX0_lessOf 8 = .ok (.if_icmp .lt 7, 3) := by decide +kernel
theorem dX0_lessOf_11 : decode cX0_lessOf 11 = .ok (.iconst 1, 1) := by decide +kernel
theorem dX0_lessOf_12 : decode cX0_lessOf 12 = .ok (.goto 4, 3) := by decide +kernel
theorem dX0_lessOf_15 : decode cX0_lessOf 15 = .ok (.iconst 0, 1) := by decide +kernel
theorem dX0_lessOf_16 : decode cX0_lessOf 16 = .ok (.iload_n 2, 1) := by decide +kernel
theorem dX0_lessOf_17 : decode cX0_lessOf 17 = .ok (.aload_n 0, 1) := by decide +kernel
theorem dX0_lessOf_18 : decode cX0_lessOf 18 = .ok (.getfield 28, 3) := by decide +kernel
theorem dX0_lessOf_21 : decode cX0_lessOf 21 = .ok (.getfield 136, 3) := by decide +kernel
theorem dX0_lessOf_24 : decode cX0_lessOf 24 = .ok (.if_icmp .lt 7, 3) := by decide +kernel
theorem dX0_lessOf_27 : decode cX0_lessOf 27 = .ok (.iconst 2, 1) := by decide +kernel
theorem dX0_lessOf_28 : decode cX0_lessOf 28 = .ok (.goto 4, 3) := by decide +kernel
theorem dX0_lessOf_31 : decode cX0_lessOf 31 = .ok (.iconst 0, 1) := by decide +kernel
theorem dX0_lessOf_32 : decode cX0_lessOf 32 = .ok (.iadd, 1) := by decide +kernel
theorem dX0_lessOf_33 : decode cX0_lessOf 33 = .ok (.ireturn, 1) := by decide +kernel
set_option maxRecDepth 20000 in
theorem ggX0_weighed_X2_numberOf : GoodIn wsX0_weighed wsX2_numberOf := goodIn_r _ [6, 7, 17, 18, 19, 20, 21, 22, 23, 24, 25, 26, 27, 28] (by decide +kernel) (by decide +kernel)
set_option maxRecDepth 20000 in
theorem gX0_weighed_X2_numberOf : GoodIn wsX0_weighed (wsV RX0 139 RX2 yX2_numberOf wsX2_numberOf) := goodIn_app (goodIn_of _ (by decide +kernel)) ggX0_weighed_X2_numberOf
theorem dX0_weighed_0 : decode cX0_weighed 0 = .ok (.aload_n 0, 1) := by decide +kernel
theorem dX0_weighed_1 : decode cX0_weighed 1 = .ok (.getfield 53, 3) := by decide +kernel
theorem dX0_weighed_4 : decode cX0_weighed 4 = .ok (.iconst 1, 1) := by decide +kernel
theorem dX0_weighed_5 : decode cX0_weighed 5 = .ok (.ishl, 1) := by decide +kernel
theorem dX0_weighed_6 : decode cX0_weighed 6 = .ok (.iload_n 1, 1) := by decide +kernel
theorem dX0_weighed_7 : decode cX0_weighed 7 = .ok (.ishr, 1) := by decide +kernel
theorem dX0_weighed_8 : decode cX0_weighed 8 = .ok (.iconst 1, 1) := by decide +kernel
theorem dX0_weighed_9 : decode cX0_weighed 9 = .ok (.iand, 1) := by decide +kernel
theorem dX0_weighed_10 : decode cX0_weighed 10 = .ok (.iconst 1, 1) := by decide +kernel
theorem dX0_weighed_11 : decode cX0_weighed 11 = .ok (.if_icmp .ne 8, 3) := by decide +kernel
theorem dX0_weighed_14 : decode cX0_weighed 14 = .ok (.bipush 15, 2) := by decide +kernel
theorem dX0_weighed_16 : decode cX0_weighed 16 = .ok (.goto 10, 3) := by decide +kernel
theorem dX0_weighed_19 : decode cX0_weighed 19 = .ok (.aload_n 2, 1) := by decide +kernel
theorem dX0_weighed_20 : decode cX0_weighed 20 = .ok (.iload_n 1, 1) := by decide +kernel
theorem dX0_weighed_21 : decode cX0_weighed 21 = .ok (.iconst 1, 1) := by decide +kernel
theorem dX0_weighed_22 : decode cX0_weighed 22 = .ok (.isub, 1) := by decide +kernel
theorem dX0_weighed_23 : decode cX0_weighed 23 = .ok (.invokevirtual 139, 3) := by decide +kernel
theorem dX0_weighed_26 : decode cX0_weighed 26 = .ok (.ireturn, 1) := by decide +kernel
set_option maxRecDepth 20000 in
theorem ggX0_look_X7_spot : GoodIn wsX0_look wsX7_spot := goodIn_r _ [10, 11, 12, 9, 13, 14, 15, 16] (by decide +kernel) (by decide +kernel)
set_option maxRecDepth 20000 in
theorem gX0_look_X7_spot : GoodIn wsX0_look (va_wsS RX0 142 yX7_spot wsX7_spot) := goodIn_app (goodIn_of _ (by decide +kernel)) ggX0_look_X7_spot
set_option maxRecDepth 20000 in
theorem ggX0_look_X7_turn : GoodIn wsX0_look wsX7_turn := goodIn_r _ [19] (by decide +kernel) (by decide +kernel)
set_option maxRecDepth 20000 in
theorem gX0_look_X7_turn : GoodIn wsX0_look (va_wsS RX0 84 yX7_turn wsX7_turn) := goodIn_app (goodIn_of _ (by decide +kernel)) ggX0_look_X7_turn
set_option maxRecDepth 20000 in
theorem ggX0_look_X0_codeOf : GoodIn wsX0_look wsX0_codeOf := goodIn_r _ [24, 25, 26, 69, 70, 71, 72, 73, 74, 75, 76, 77] (by decide +kernel) (by decide +kernel)
set_option maxRecDepth 20000 in
theorem gX0_look_X0_codeOf : GoodIn wsX0_look (wsV RX0 90 RX0 yX0_codeOf wsX0_codeOf) := goodIn_app (goodIn_of _ (by decide +kernel)) ggX0_look_X0_codeOf
set_option maxRecDepth 20000 in
theorem ggX0_look_X7_owed : GoodIn wsX0_look wsX7_owed := goodIn_r _ [29] (by decide +kernel) (by decide +kernel)
set_option maxRecDepth 20000 in
theorem gX0_look_X7_owed : GoodIn wsX0_look (va_wsS RX0 87 yX7_owed wsX7_owed) := goodIn_app (goodIn_of _ (by decide +kernel)) ggX0_look_X7_owed
set_option maxRecDepth 20000 in
theorem ggX0_look_X7_left : GoodIn wsX0_look wsX7_left := goodIn_r _ [13] (by decide +kernel) (by decide +kernel)
set_option maxRecDepth 20000 in
theorem gX0_look_X7_left : GoodIn wsX0_look (va_wsS RX0 107 yX7_left wsX7_left) := goodIn_app (goodIn_of _ (by decide +kernel)) ggX0_look_X7_left
set_option maxRecDepth 20000 in
theorem ggX0_look_X6_setHour : GoodIn wsX0_look wsX6_setHour := goodIn_r _ [35, 36, 78] (by decide +kernel) (by decide +kernel)
set_option maxRecDepth 20000 in
theorem gX0_look_X6_setHour : GoodIn wsX0_look (wsV RX0 59 RX6 yX6_setHour wsX6_setHour) := goodIn_app (goodIn_of _ (by decide +kernel)) ggX0_look_X6_setHour
set_option maxRecDepth 20000 in
theorem ggX0_look_X7_asked : GoodIn wsX0_look wsX7_asked := goodIn_r _ [16] (by decide +kernel) (by decide +kernel)
set_option maxRecDepth 20000 in
theorem gX0_look_X7_asked : GoodIn wsX0_look (va_wsS RX0 81 yX7_asked wsX7_asked) := goodIn_app (goodIn_of _ (by decide +kernel)) ggX0_look_X7_asked
set_option maxRecDepth 20000 in
theorem ggX0_look_X2_weighing : GoodIn wsX0_look wsX2_weighing := goodIn_r _ [42, 43, 44, 45, 46, 41, 47, 48, 49, 50, 51, 52, 53, 54, 55, 56, 57, 58, 59, 60, 34, 61, 36, 62, 63, 64, 79, 80, 81, 82, 83, 84, 85, 86, 87, 88, 89, 90, 78] (by decide +kernel) (by decide +kernel)
set_option maxRecDepth 20000 in
theorem gX0_look_X2_weighing : GoodIn wsX0_look (wsV RX0 145 RX2 yX2_weighing wsX2_weighing) := goodIn_app (goodIn_of _ (by decide +kernel)) ggX0_look_X2_weighing
set_option maxRecDepth 20000 in
theorem ggX0_look_X2_letsRefuse : GoodIn wsX0_look wsX2_letsRefuse := goodIn_r _ [68, 43, 48, 50, 51, 52, 41, 53, 54, 55, 56, 57, 58, 59, 60, 34, 61, 36, 62, 63, 64, 79, 80, 81, 82, 83, 84, 85, 86, 87, 88, 89, 90, 78] (by decide +kernel) (by decide +kernel)
set_option maxRecDepth 20000 in
theorem gX0_look_X2_letsRefuse : GoodIn wsX0_look (wsV RX0 149 RX2 yX2_letsRefuse wsX2_letsRefuse) := goodIn_app (goodIn_of _ (by decide +kernel)) ggX0_look_X2_letsRefuse
theorem dX0_look_0 : decode cX0_look 0 = .ok (.iload_n 1, 1) := by decide +kernel
theorem dX0_look_1 : decode cX0_look 1 = .ok (.invokestatic 142, 3) := by decide +kernel
theorem dX0_look_4 : decode cX0_look 4 = .ok (.istore_n 2, 1) := by decide +kernel
theorem dX0_look_5 : decode cX0_look 5 = .ok (.aload_n 0, 1) := by decide +kernel
theorem dX0_look_6 : decode cX0_look 6 = .ok (.getfield 35, 3) := by decide +kernel
theorem dX0_look_9 : decode cX0_look 9 = .ok (.iload_n 2, 1) := by decide +kernel
theorem dX0_look_10 : decode cX0_look 10 = .ok (.iaload, 1) := by decide +kernel
theorem dX0_look_11 : decode cX0_look 11 = .ok (.aload_n 0, 1) := by decide +kernel
theorem dX0_look_12 : decode cX0_look 12 = .ok (.getfield 56, 3) := by decide +kernel
theorem dX0_look_15 : decode cX0_look 15 = .ok (.if_icmp .ne 10, 3) := by decide +kernel
theorem dX0_look_18 : decode cX0_look 18 = .ok (.aload_n 0, 1) := by decide +kernel
theorem dX0_look_19 : decode cX0_look 19 = .ok (.getfield 31, 3) := by decide +kernel
theorem dX0_look_22 : decode cX0_look 22 = .ok (.iload_n 2, 1) := by decide +kernel
theorem dX0_look_23 : decode cX0_look 23 = .ok (.iaload, 1) := by decide +kernel
theorem dX0_look_24 : decode cX0_look 24 = .ok (.ireturn, 1) := by decide +kernel
theorem dX0_look_25 : decode cX0_look 25 = .ok (.iload_n 1, 1) := by decide +kernel
theorem dX0_look_26 : decode cX0_look 26 = .ok (.invokestatic 84, 3) := by decide +kernel
theorem dX0_look_29 : decode cX0_look 29 = .ok (.istore_n 3, 1) := by decide +kernel
theorem dX0_look_30 : decode cX0_look 30 = .ok (.iload_n 3, 1) := by decide +kernel
theorem dX0_look_31 : decode cX0_look 31 = .ok (.ifCond .ne 10, 3) := by decide +kernel
theorem dX0_look_34 : decode cX0_look 34 = .ok (.aload_n 0, 1) := by decide +kernel
theorem dX0_look_35 : decode cX0_look 35 = .ok (.getfield 12, 3) := by decide +kernel
theorem dX0_look_38 : decode cX0_look 38 = .ok (.goto 7, 3) := by decide +kernel
theorem dX0_look_41 : decode cX0_look 41 = .ok (.aload_n 0, 1) := by decide +kernel
theorem dX0_look_42 : decode cX0_look 42 = .ok (.getfield 18, 3) := by decide +kernel
theorem dX0_look_45 : decode cX0_look 45 = .ok (.astore 4, 2) := by decide +kernel
theorem dX0_look_47 : decode cX0_look 47 = .ok (.aload_n 0, 1) := by decide +kernel
theorem dX0_look_48 : decode cX0_look 48 = .ok (.iconst 1, 1) := by decide +kernel
theorem dX0_look_49 : decode cX0_look 49 = .ok (.iload_n 3, 1) := by decide +kernel
theorem dX0_look_50 : decode cX0_look 50 = .ok (.isub, 1) := by decide +kernel
theorem dX0_look_51 : decode cX0_look 51 = .ok (.invokevirtual 90, 3) := by decide +kernel
theorem dX0_look_54 : decode cX0_look 54 = .ok (.astore 5, 2) := by decide +kernel
theorem dX0_look_56 : decode cX0_look 56 = .ok (.aload 4, 2) := by decide +kernel
theorem dX0_look_58 : decode cX0_look 58 = .ok (.iload_n 1, 1) := by decide +kernel
theorem dX0_look_59 : decode cX0_look 59 = .ok (.iconst 1, 1) := by decide +kernel
theorem dX0_look_60 : decode cX0_look 60 = .ok (.iload_n 3, 1) := by decide +kernel
theorem dX0_look_61 : decode cX0_look 61 = .ok (.isub, 1) := by decide +kernel
theorem dX0_look_62 : decode cX0_look 62 = .ok (.invokestatic 87, 3) := by decide +kernel
theorem dX0_look_65 : decode cX0_look 65 = .ok (.iload_n 1, 1) := by decide +kernel
theorem dX0_look_66 : decode cX0_look 66 = .ok (.iload_n 3, 1) := by decide +kernel
theorem dX0_look_67 : decode cX0_look 67 = .ok (.invokestatic 87, 3) := by decide +kernel
theorem dX0_look_70 : decode cX0_look 70 = .ok (.aload_n 0, 1) := by decide +kernel
theorem dX0_look_71 : decode cX0_look 71 = .ok (.getfield 52, 3) := by decide +kernel
theorem dX0_look_74 : decode cX0_look 74 = .ok (.iload_n 1, 1) := by decide +kernel
theorem dX0_look_75 : decode cX0_look 75 = .ok (.invokestatic 107, 3) := by decide +kernel
theorem dX0_look_78 : decode cX0_look 78 = .ok (.isub, 1) := by decide +kernel
theorem dX0_look_79 : decode cX0_look 79 = .ok (.invokevirtual 59, 3) := by decide +kernel
theorem dX0_look_82 : decode cX0_look 82 = .ok (.iload_n 1, 1) := by decide +kernel
theorem dX0_look_83 : decode cX0_look 83 = .ok (.invokestatic 81, 3) := by decide +kernel
theorem dX0_look_86 : decode cX0_look 86 = .ok (.ifCond .ne 13, 3) := by decide +kernel
theorem dX0_look_89 : decode cX0_look 89 = .ok (.aload 5, 2) := by decide +kernel
theorem dX0_look_91 : decode cX0_look 91 = .ok (.aload 4, 2) := by decide +kernel
theorem dX0_look_93 : decode cX0_look 93 = .ok (.invokevirtual 145, 3) := by decide +kernel
theorem dX0_look_96 : decode cX0_look 96 = .ok (.goto 18, 3) := by decide +kernel
theorem dX0_look_99 : decode cX0_look 99 = .ok (.aload 5, 2) := by decide +kernel
theorem dX0_look_101 : decode cX0_look 101 = .ok (.aload 4, 2) := by decide +kernel
theorem dX0_look_103 : decode cX0_look 103 = .ok (.invokevirtual 149, 3) := by decide +kernel
theorem dX0_look_106 : decode cX0_look 106 = .ok (.ifCond .eq 7, 3) := by decide +kernel
theorem dX0_look_109 : decode cX0_look 109 = .ok (.iconst 1, 1) := by decide +kernel
theorem dX0_look_110 : decode cX0_look 110 = .ok (.goto 4, 3) := by decide +kernel
theorem dX0_look_113 : decode cX0_look 113 = .ok (.iconst 0, 1) := by decide +kernel
theorem dX0_look_114 : decode cX0_look 114 = .ok (.istore 6, 2) := by decide +kernel
theorem dX0_look_116 : decode cX0_look 116 = .ok (.aload_n 0, 1) := by decide +kernel
theorem dX0_look_117 : decode cX0_look 117 = .ok (.getfield 35, 3) := by decide +kernel
theorem dX0_look_120 : decode cX0_look 120 = .ok (.iload_n 2, 1) := by decide +kernel
theorem dX0_look_121 : decode cX0_look 121 = .ok (.aload_n 0, 1) := by decide +kernel
theorem dX0_look_122 : decode cX0_look 122 = .ok (.getfield 56, 3) := by decide +kernel
theorem dX0_look_125 : decode cX0_look 125 = .ok (.iastore, 1) := by decide +kernel
theorem dX0_look_126 : decode cX0_look 126 = .ok (.aload_n 0, 1) := by decide +kernel
theorem dX0_look_127 : decode cX0_look 127 = .ok (.getfield 31, 3) := by decide +kernel
theorem dX0_look_130 : decode cX0_look 130 = .ok (.iload_n 2, 1) := by decide +kernel
theorem dX0_look_131 : decode cX0_look 131 = .ok (.iload 6, 2) := by decide +kernel
theorem dX0_look_133 : decode cX0_look 133 = .ok (.iastore, 1) := by decide +kernel
theorem dX0_look_134 : decode cX0_look 134 = .ok (.iload 6, 2) := by decide +kernel
theorem dX0_look_136 : decode cX0_look 136 = .ok (.ireturn, 1) := by decide +kernel
theorem dX0_codeOf_0 : decode cX0_codeOf 0 = .ok (.iload_n 1, 1) := by decide +kernel
theorem dX0_codeOf_1 : decode cX0_codeOf 1 = .ok (.ifCond .ne 10, 3) := by decide +kernel
theorem dX0_codeOf_4 : decode cX0_codeOf 4 = .ok (.aload_n 0, 1) := by decide +kernel
theorem dX0_codeOf_5 : decode cX0_codeOf 5 = .ok (.getfield 24, 3) := by decide +kernel
theorem dX0_codeOf_8 : decode cX0_codeOf 8 = .ok (.goto 7, 3) := by decide +kernel
theorem dX0_codeOf_11 : decode cX0_codeOf 11 = .ok (.aload_n 0, 1) := by decide +kernel
theorem dX0_codeOf_12 : decode cX0_codeOf 12 = .ok (.getfield 28, 3) := by decide +kernel
theorem dX0_codeOf_15 : decode cX0_codeOf 15 = .ok (.areturn, 1) := by decide +kernel
set_option maxRecDepth 20000 in
theorem ggX1_init_X4_init : GoodIn wsX1_init wsX4_init := goodIn_r _ [15, 16, 2, 3, 4, 17, 18, 28, 29, 30, 31, 32, 33, 34, 35] (by decide +kernel) (by decide +kernel)
set_option maxRecDepth 20000 in
theorem gX1_init_X4_init_n33 : GoodIn wsX1_init (wsX4_init) := ggX1_init_X4_init
theorem dX1_init_0 : decode cX1_init 0 = .ok (.aload_n 0, 1) := by decide +kernel
theorem dX1_init_1 : decode cX1_init 1 = .ok (.invokespecial 3, 3) := by decide +kernel
theorem dX1_init_4 : decode cX1_init 4 = .ok (.aload_n 0, 1) := by decide +kernel
theorem dX1_init_5 : decode cX1_init 5 = .ok (.bipush 12, 2) := by decide +kernel
theorem dX1_init_7 : decode cX1_init 7 = .ok (.newarray .int, 2) := by decide +kernel
theorem dX1_init_9 : decode cX1_init 9 = .ok (.putfield 9, 3) := by decide +kernel
theorem dX1_init_12 : decode cX1_init 12 = .ok (.aload_n 0, 1) := by decide +kernel
theorem dX1_init_13 : decode cX1_init 13 = .ok (.bipush 12, 2) := by decide +kernel
theorem dX1_init_15 : decode cX1_init 15 = .ok (.newarray .int, 2) := by decide +kernel
theorem dX1_init_17 : decode cX1_init 17 = .ok (.putfield 15, 3) := by decide +kernel
theorem dX1_init_20 : decode cX1_init 20 = .ok (.aload_n 0, 1) := by decide +kernel
theorem dX1_init_21 : decode cX1_init 21 = .ok (.bipush 12, 2) := by decide +kernel
theorem dX1_init_23 : decode cX1_init 23 = .ok (.newarray .int, 2) := by decide +kernel
theorem dX1_init_25 : decode cX1_init 25 = .ok (.putfield 18, 3) := by decide +kernel
theorem dX1_init_28 : decode cX1_init 28 = .ok (.aload_n 0, 1) := by decide +kernel
theorem dX1_init_29 : decode cX1_init 29 = .ok (.bipush 12, 2) := by decide +kernel
theorem dX1_init_31 : decode cX1_init 31 = .ok (.newarray .int, 2) := by decide +kernel
theorem dX1_init_33 : decode cX1_init 33 = .ok (.putfield 21, 3) := by decide +kernel
theorem dX1_init_36 : decode cX1_init 36 = .ok (.aload_n 0, 1) := by decide +kernel
theorem dX1_init_37 : decode cX1_init 37 = .ok (.bipush 12, 2) := by decide +kernel
theorem dX1_init_39 : decode cX1_init 39 = .ok (.newarray .int, 2) := by decide +kernel
theorem dX1_init_41 : decode cX1_init 41 = .ok (.putfield 24, 3) := by decide +kernel
theorem dX1_init_44 : decode cX1_init 44 = .ok (.aload_n 0, 1) := by decide +kernel
theorem dX1_init_45 : decode cX1_init 45 = .ok (.bipush 24, 2) := by decide +kernel
theorem dX1_init_47 : decode cX1_init 47 = .ok (.anewarray 27, 3) := by decide +kernel
theorem dX1_init_50 : decode cX1_init 50 = .ok (.putfield 29, 3) := by decide +kernel
theorem dX1_init_53 : decode cX1_init 53 = .ok (.iconst 0, 1) := by decide +kernel
theorem dX1_init_54 : decode cX1_init 54 = .ok (.istore_n 1, 1) := by decide +kernel
theorem dX1_init_55 : decode cX1_init 55 = .ok (.iload_n 1, 1) := by decide +kernel
theorem dX1_init_56 : decode cX1_init 56 = .ok (.bipush 24, 2) := by decide +kernel
theorem dX1_init_58 : decode cX1_init 58 = .ok (.if_icmp .ge 22, 3) := by decide +kernel
theorem dX1_init_61 : decode cX1_init 61 = .ok (.aload_n 0, 1) := by decide +kernel
theorem dX1_init_62 : decode cX1_init 62 = .ok (.getfield 29, 3) := by decide +kernel
theorem dX1_init_65 : decode cX1_init 65 = .ok (.iload_n 1, 1) := by decide +kernel
theorem dX1_init_66 : decode cX1_init 66 = .ok (.new 27, 3) := by decide +kernel
theorem dX1_init_69 : decode cX1_init 69 = .ok (.dup, 1) := by decide +kernel
theorem dX1_init_70 : decode cX1_init 70 = .ok (.invokespecial 33, 3) := by decide +kernel
theorem dX1_init_73 : decode cX1_init 73 = .ok (.aastore, 1) := by decide +kernel
theorem dX1_init_74 : decode cX1_init 74 = .ok (.iinc 1 1, 3) := by decide +kernel
theorem dX1_init_77 : decode cX1_init 77 = .ok (.goto (-22), 3) := by decide +kernel
theorem dX1_init_80 : decode cX1_init 80 = .ok (.return_, 1) := by decide +kernel
theorem dX1_addPerson_0 : decode cX1_addPerson 0 = .ok (.aload_n 0, 1) := by decide +kernel
theorem dX1_addPerson_1 : decode cX1_addPerson 1 = .ok (.getfield 34, 3) := by decide +kernel
theorem dX1_addPerson_4 : decode cX1_addPerson 4 = .ok (.istore 4, 2) := by decide +kernel
theorem dX1_addPerson_6 : decode cX1_addPerson 6 = .ok (.iload 4, 2) := by decide +kernel
theorem dX1_addPerson_8 : decode cX1_addPerson 8 = .ok (.ifCond .lt 10, 3) := by decide +kernel
theorem dX1_addPerson_11 : decode cX1_addPerson 11 = .ok (.iload 4, 2) := by decide +kernel
theorem dX1_addPerson_13 : decode cX1_addPerson 13 = .ok (.bipush 12, 2) := by decide +kernel
theorem dX1_addPerson_15 : decode cX1_addPerson 15 = .ok (.if_icmp .lt 5, 3) := by decide +kernel
theorem dX1_addPerson_18 : decode cX1_addPerson 18 = .ok (.iconst (-1), 1) := by decide +kernel
theorem dX1_addPerson_19 : decode cX1_addPerson 19 = .ok (.ireturn, 1) := by decide +kernel
theorem dX1_addPerson_20 : decode cX1_addPerson 20 = .ok (.aload_n 0, 1) := by decide +kernel
theorem dX1_addPerson_21 : decode cX1_addPerson 21 = .ok (.getfield 9, 3) := by decide +kernel
theorem dX1_addPerson_24 : decode cX1_addPerson 24 = .ok (.iload 4, 2) := by decide +kernel
theorem dX1_addPerson_26 : decode cX1_addPerson 26 = .ok (.iload_n 1, 1) := by decide +kernel
theorem dX1_addPerson_27 : decode cX1_addPerson 27 = .ok (.iastore, 1) := by decide +kernel
theorem dX1_addPerson_28 : decode cX1_addPerson 28 = .ok (.aload_n 0, 1) := by decide +kernel
theorem dX1_addPerson_29 : decode cX1_addPerson 29 = .ok (.getfield 15, 3) := by decide +kernel
theorem dX1_addPerson_32 : decode cX1_addPerson 32 = .ok (.iload 4, 2) := by decide +kernel
theorem dX1_addPerson_34 : decode cX1_addPerson 34 = .ok (.iload_n 2, 1) := by decide +kernel
theorem dX1_addPerson_35 : decode cX1_addPerson 35 = .ok (.iastore, 1) := by decide +kernel
theorem dX1_addPerson_36 : decode cX1_addPerson 36 = .ok (.aload_n 0, 1) := by decide +kernel
theorem dX1_addPerson_37 : decode cX1_addPerson 37 = .ok (.getfield 18, 3) := by decide +kernel
theorem dX1_addPerson_40 : decode cX1_addPerson 40 = .ok (.iload 4, 2) := by decide +kernel
theorem dX1_addPerson_42 : decode cX1_addPerson 42 = .ok (.iload_n 3, 1) := by decide +kernel
theorem dX1_addPerson_43 : decode cX1_addPerson 43 = .ok (.iastore, 1) := by decide +kernel
theorem dX1_addPerson_44 : decode cX1_addPerson 44 = .ok (.aload_n 0, 1) := by decide +kernel
theorem dX1_addPerson_45 : decode cX1_addPerson 45 = .ok (.getfield 21, 3) := by decide +kernel
theorem dX1_addPerson_48 : decode cX1_addPerson 48 = .ok (.iload 4, 2) := by decide +kernel
theorem dX1_addPerson_50 : decode cX1_addPerson 50 = .ok (.iconst (-1), 1) := by decide +kernel
theorem dX1_addPerson_51 : decode cX1_addPerson 51 = .ok (.iastore, 1) := by decide +kernel
theorem dX1_addPerson_52 : decode cX1_addPerson 52 = .ok (.aload_n 0, 1) := by decide +kernel
theorem dX1_addPerson_53 : decode cX1_addPerson 53 = .ok (.getfield 24, 3) := by decide +kernel
theorem dX1_addPerson_56 : decode cX1_addPerson 56 = .ok (.iload 4, 2) := by decide +kernel
theorem dX1_addPerson_58 : decode cX1_addPerson 58 = .ok (.iconst 0, 1) := by decide +kernel
theorem dX1_addPerson_59 : decode cX1_addPerson 59 = .ok (.iastore, 1) := by decide +kernel
theorem dX1_addPerson_60 : decode cX1_addPerson 60 = .ok (.aload_n 0, 1) := by decide +kernel
theorem dX1_addPerson_61 : decode cX1_addPerson 61 = .ok (.dup, 1) := by decide +kernel
theorem dX1_addPerson_62 : decode cX1_addPerson 62 = .ok (.getfield 34, 3) := by decide +kernel
theorem dX1_addPerson_65 : decode cX1_addPerson 65 = .ok (.iconst 1, 1) := by decide +kernel
theorem dX1_addPerson_66 : decode cX1_addPerson 66 = .ok (.iadd, 1) := by decide +kernel
theorem dX1_addPerson_67 : decode cX1_addPerson 67 = .ok (.putfield 34, 3) := by decide +kernel
theorem dX1_addPerson_70 : decode cX1_addPerson 70 = .ok (.iload 4, 2) := by decide +kernel
theorem dX1_addPerson_72 : decode cX1_addPerson 72 = .ok (.ireturn, 1) := by decide +kernel
theorem dX1_hasPerson_0 : decode cX1_hasPerson 0 = .ok (.iload_n 1, 1) := by decide +kernel
theorem dX1_hasPerson_1 : decode cX1_hasPerson 1 = .ok (.ifCond .lt 21, 3) := by decide +kernel
theorem dX1_hasPerson_4 : decode cX1_hasPerson 4 = .ok (.iload_n 1, 1) := by decide +kernel
theorem dX1_hasPerson_5 : decode cX1_hasPerson 5 = .ok (.aload_n 0, 1) := by decide +kernel
theorem dX1_hasPerson_6 : decode cX1_hasPerson 6 = .ok (.getfield 34, 3) := by decide +kernel
theorem dX1_hasPerson_9 : decode cX1_hasPerson 9 = .ok (.if_icmp .ge 13, 3) := by decide +kernel
theorem dX1_hasPerson_12 : decode cX1_hasPerson 12 = .ok (.iload_n 1, 1) := by decide +kernel
theorem dX1_hasPerson_13 : decode cX1_hasPerson 13 = .ok (.bipush 12, 2) := by decide +kernel
theorem dX1_hasPerson_15 : decode cX1_hasPerson 15 = .ok (.if_icmp .ge 7, 3) := by decide +kernel
theorem dX1_hasPerson_18 : decode cX1_hasPerson 18 = .ok (.iconst 1, 1) := by decide +kernel
theorem dX1_hasPerson_19 : decode cX1_hasPerson 19 = .ok (.goto 4, 3) := by decide +kernel
theorem dX1_hasPerson_22 : decode cX1_hasPerson 22 = .ok (.iconst 0, 1) := by decide +kernel
theorem dX1_hasPerson_23 : decode cX1_hasPerson 23 = .ok (.ireturn, 1) := by decide +kernel
set_option maxRecDepth 20000 in
theorem ggX1_ageOf_X1_hasPerson : GoodIn wsX1_ageOf wsX1_hasPerson := goodIn_r _ [6, 7, 8, 9, 10, 11, 12, 13, 14, 15, 16] (by decide +kernel) (by decide +kernel)
set_option maxRecDepth 20000 in
theorem gX1_ageOf_X1_hasPerson : GoodIn wsX1_ageOf (wsV RX1 38 RX1 yX1_hasPerson wsX1_hasPerson) := goodIn_app (goodIn_of _ (by decide +kernel)) ggX1_ageOf_X1_hasPerson
theorem dX1_ageOf_0 : decode cX1_ageOf 0 = .ok (.aload_n 0, 1) := by decide +kernel
theorem dX1_ageOf_1 : decode cX1_ageOf 1 = .ok (.iload_n 1, 1) := by decide +kernel
theorem dX1_ageOf_2 : decode cX1_ageOf 2 = .ok (.invokevirtual 38, 3) := by decide +kernel
theorem dX1_ageOf_5 : decode cX1_ageOf 5 = .ok (.ifCond .eq 12, 3) := by decide +kernel
theorem dX1_ageOf_8 : decode cX1_ageOf 8 = .ok (.aload_n 0, 1) := by decide +kernel
theorem dX1_ageOf_9 : decode cX1_ageOf 9 = .ok (.getfield 9, 3) := by decide +kernel
theorem dX1_ageOf_12 : decode cX1_ageOf 12 = .ok (.iload_n 1, 1) := by decide +kernel
theorem dX1_ageOf_13 : decode cX1_ageOf 13 = .ok (.iaload, 1) := by decide +kernel
theorem dX1_ageOf_14 : decode cX1_ageOf 14 = .ok (.goto 4, 3) := by decide +kernel
theorem dX1_ageOf_17 : decode cX1_ageOf 17 = .ok (.iconst 0, 1) := by decide +kernel
theorem dX1_ageOf_18 : decode cX1_ageOf 18 = .ok (.ireturn, 1) := by decide +kernel
set_option maxRecDepth 20000 in
theorem ggX1_rankOf_X1_hasPerson : GoodIn wsX1_rankOf wsX1_hasPerson := goodIn_r _ [6, 7, 8, 9, 10, 11, 12, 13, 14, 15, 16] (by decide +kernel) (by decide +kernel)
set_option maxRecDepth 20000 in
theorem gX1_rankOf_X1_hasPerson : GoodIn wsX1_rankOf (wsV RX1 38 RX1 yX1_hasPerson wsX1_hasPerson) := goodIn_app (goodIn_of _ (by decide +kernel)) ggX1_rankOf_X1_hasPerson
theorem dX1_rankOf_0 : decode cX1_rankOf 0 = .ok (.aload_n 0, 1) := by decide +kernel
theorem dX1_rankOf_1 : decode cX1_rankOf 1 = .ok (.iload_n 1, 1) := by decide +kernel
theorem dX1_rankOf_2 : decode cX1_rankOf 2 = .ok (.invokevirtual 38, 3) := by decide +kernel
theorem dX1_rankOf_5 : decode cX1_rankOf 5 = .ok (.ifCond .eq 12, 3) := by decide +kernel
theorem dX1_rankOf_8 : decode cX1_rankOf 8 = .ok (.aload_n 0, 1) := by decide +kernel
theorem dX1_rankOf_9 : decode cX1_rankOf 9 = .ok (.getfield 15, 3) := by decide +kernel
theorem dX1_rankOf_12 : decode cX1_rankOf 12 = .ok (.iload_n 1, 1) := by decide +kernel
theorem dX1_rankOf_13 : decode cX1_rankOf 13 = .ok (.iaload, 1) := by decide +kernel
theorem dX1_rankOf_14 : decode cX1_rankOf 14 = .ok (.goto 4, 3) := by decide +kernel
theorem dX1_rankOf_17 : decode cX1_rankOf 17 = .ok (.iconst 0, 1) := by decide +kernel
theorem dX1_rankOf_18 : decode cX1_rankOf 18 = .ok (.ireturn, 1) := by decide +kernel
set_option maxRecDepth 20000 in
theorem ggX1_houseOf_X1_hasPerson : GoodIn wsX1_houseOf wsX1_hasPerson := goodIn_r _ [6, 7, 8, 9, 10, 11, 12, 13, 14, 15, 16] (by decide +kernel) (by decide +kernel)
set_option maxRecDepth 20000 in
theorem gX1_houseOf_X1_hasPerson : GoodIn wsX1_houseOf (wsV RX1 38 RX1 yX1_hasPerson wsX1_hasPerson) := goodIn_app (goodIn_of _ (by decide +kernel)) ggX1_houseOf_X1_hasPerson
theorem dX1_houseOf_0 : decode cX1_houseOf 0 = .ok (.aload_n 0, 1) := by decide +kernel
theorem dX1_houseOf_1 : decode cX1_houseOf 1 = .ok (.iload_n 1, 1) := by decide +kernel
theorem dX1_houseOf_2 : decode cX1_houseOf 2 = .ok (.invokevirtual 38, 3) := by decide +kernel
theorem dX1_houseOf_5 : decode cX1_houseOf 5 = .ok (.ifCond .eq 12, 3) := by decide +kernel
theorem dX1_houseOf_8 : decode cX1_houseOf 8 = .ok (.aload_n 0, 1) := by decide +kernel
theorem dX1_houseOf_9 : decode cX1_houseOf 9 = .ok (.getfield 18, 3) := by decide +kernel
theorem dX1_houseOf_12 : decode cX1_houseOf 12 = .ok (.iload_n 1, 1) := by decide +kernel
theorem dX1_houseOf_13 : decode cX1_houseOf 13 = .ok (.iaload, 1) := by decide +kernel
theorem dX1_houseOf_14 : decode cX1_houseOf 14 = .ok (.goto 4, 3) := by decide +kernel
theorem dX1_houseOf_17 : decode cX1_houseOf 17 = .ok (.iconst 0, 1) := by decide +kernel
theorem dX1_houseOf_18 : decode cX1_houseOf 18 = .ok (.ireturn, 1) := by decide +kernel
set_option maxRecDepth 20000 in
theorem ggX1_codeOf_X1_hasPerson : GoodIn wsX1_codeOf wsX1_hasPerson := goodIn_r _ [6, 7, 8, 9, 10, 11, 12, 13, 14, 15, 16] (by decide +kernel) (by decide +kernel)
set_option maxRecDepth 20000 in
theorem gX1_codeOf_X1_hasPerson : GoodIn wsX1_codeOf (wsV RX1 38 RX1 yX1_hasPerson wsX1_hasPerson) := goodIn_app (goodIn_of _ (by decide +kernel)) ggX1_codeOf_X1_hasPerson
theorem dX1_codeOf_0 : decode cX1_codeOf 0 = .ok (.aload_n 0, 1) := by decide +kernel
theorem dX1_codeOf_1 : decode cX1_codeOf 1 = .ok (.iload_n 1, 1) := by decide +kernel
theorem dX1_codeOf_2 : decode cX1_codeOf 2 = .ok (.invokevirtual 38, 3) := by decide +kernel
theorem dX1_codeOf_5 : decode cX1_codeOf 5 = .ok (.ifCond .eq 12, 3) := by decide +kernel
theorem dX1_codeOf_8 : decode cX1_codeOf 8 = .ok (.aload_n 0, 1) := by decide +kernel
theorem dX1_codeOf_9 : decode cX1_codeOf 9 = .ok (.getfield 21, 3) := by decide +kernel
theorem dX1_codeOf_12 : decode cX1_codeOf 12 = .ok (.iload_n 1, 1) := by decide +kernel
theorem dX1_codeOf_13 : decode cX1_codeOf 13 = .ok (.iaload, 1) := by decide +kernel
theorem dX1_codeOf_14 : decode cX1_codeOf 14 = .ok (.goto 4, 3) := by decide +kernel
theorem dX1_codeOf_17 : decode cX1_codeOf 17 = .ok (.iconst (-1), 1) := by decide +kernel
theorem dX1_codeOf_18 : decode cX1_codeOf 18 = .ok (.ireturn, 1) := by decide +kernel
set_option maxRecDepth 20000 in
theorem ggX1_setCode_X1_hasPerson : GoodIn wsX1_setCode wsX1_hasPerson := goodIn_r _ [6, 7, 8, 9, 10, 11, 12, 13, 14, 15, 16] (by decide +kernel) (by decide +kernel)
set_option maxRecDepth 20000 in
theorem gX1_setCode_X1_hasPerson : GoodIn wsX1_setCode (wsV RX1 38 RX1 yX1_hasPerson wsX1_hasPerson) := goodIn_app (goodIn_of _ (by decide +kernel)) ggX1_setCode_X1_hasPerson
theorem dX1_setCode_0 : decode cX1_setCode 0 = .ok (.aload_n 0, 1) := by decide +kernel
theorem dX1_setCode_1 : decode cX1_setCode 1 = .ok (.iload_n 1, 1) := by decide +kernel
theorem dX1_setCode_2 : decode cX1_setCode 2 = .ok (.invokevirtual 38, 3) := by decide +kernel
theorem dX1_setCode_5 : decode cX1_setCode 5 = .ok (.ifCond .eq 10, 3) := by decide +kernel
theorem dX1_setCode_8 : decode cX1_setCode 8 = .ok (.aload_n 0, 1) := by decide +kernel
theorem dX1_setCode_9 : decode cX1_setCode 9 = .ok (.getfield 21, 3) := by decide +kernel
theorem dX1_setCode_12 : decode cX1_setCode 12 = .ok (.iload_n 1, 1) := by decide +kernel
theorem dX1_setCode_13 : decode cX1_setCode 13 = .ok (.iload_n 2, 1) := by decide +kernel
theorem dX1_setCode_14 : decode cX1_setCode 14 = .ok (.iastore, 1) := by decide +kernel
theorem dX1_setCode_15 : decode cX1_setCode 15 = .ok (.return_, 1) := by decide +kernel
set_option maxRecDepth 20000 in
theorem ggX1_isOwing_X1_hasPerson : GoodIn wsX1_isOwing wsX1_hasPerson := goodIn_r _ [6, 7, 8, 9, 10, 11, 12, 13, 14, 15, 16] (by decide +kernel) (by decide +kernel)
set_option maxRecDepth 20000 in
theorem gX1_isOwing_X1_hasPerson : GoodIn wsX1_isOwing (wsV RX1 38 RX1 yX1_hasPerson wsX1_hasPerson) := goodIn_app (goodIn_of _ (by decide +kernel)) ggX1_isOwing_X1_hasPerson
theorem dX1_isOwing_0 : decode cX1_isOwing 0 = .ok (.aload_n 0, 1) := by decide +kernel
theorem dX1_isOwing_1 : decode cX1_isOwing 1 = .ok (.iload_n 1, 1) := by decide +kernel
theorem dX1_isOwing_2 : decode cX1_isOwing 2 = .ok (.invokevirtual 38, 3) := by decide +kernel
theorem dX1_isOwing_5 : decode cX1_isOwing 5 = .ok (.ifCond .eq 29, 3) := by decide +kernel
theorem dX1_isOwing_8 : decode cX1_isOwing 8 = .ok (.aload_n 0, 1) := by decide +kernel
theorem dX1_isOwing_9 : decode cX1_isOwing 9 = .ok (.iload_n 2, 1) := by decide +kernel
theorem dX1_isOwing_10 : decode cX1_isOwing 10 = .ok (.invokevirtual 38, 3) := by decide +kernel
theorem dX1_isOwing_13 : decode cX1_isOwing 13 = .ok (.ifCond .eq 21, 3) := by decide +kernel
theorem dX1_isOwing_16 : decode cX1_isOwing 16 = .ok (.aload_n 0, 1) := by decide +kernel
theorem dX1_isOwing_17 : decode cX1_isOwing 17 = .ok (.getfield 24, 3) := by decide +kernel
theorem dX1_isOwing_20 : decode cX1_isOwing 20 = .ok (.iload_n 1, 1) := by decide +kernel
theorem dX1_isOwing_21 : decode cX1_isOwing 21 = .ok (.iaload, 1) := by decide +kernel
theorem dX1_isOwing_22 : decode cX1_isOwing 22 = .ok (.iload_n 2, 1) := by decide +kernel
theorem dX1_isOwing_23 : decode cX1_isOwing 23 = .ok (.ishr, 1) := by decide +kernel
theorem dX1_isOwing_24 : decode cX1_isOwing 24 = .ok (.iconst 1, 1) := by decide +kernel
theorem dX1_isOwing_25 : decode cX1_isOwing 25 = .ok (.iand, 1) := by decide +kernel
theorem dX1_isOwing_26 : decode cX1_isOwing 26 = .ok (.iconst 1, 1) := by decide +kernel
theorem dX1_isOwing_27 : decode cX1_isOwing 27 = .ok (.if_icmp .ne 7, 3) := by decide +kernel
theorem dX1_isOwing_30 : decode cX1_isOwing 30 = .ok (.iconst 1, 1) := by decide +kernel
theorem dX1_isOwing_31 : decode cX1_isOwing 31 = .ok (.goto 4, 3) := by decide +kernel
theorem dX1_isOwing_34 : decode cX1_isOwing 34 = .ok (.iconst 0, 1) := by decide +kernel
theorem dX1_isOwing_35 : decode cX1_isOwing 35 = .ok (.ireturn, 1) := by decide +kernel
set_option maxRecDepth 20000 in
theorem ggX1_setOwing_X1_hasPerson : GoodIn wsX1_setOwing wsX1_hasPerson := goodIn_r _ [6, 7, 8, 9, 10, 11, 12, 13, 14, 15, 16] (by decide +kernel) (by decide +kernel)
set_option maxRecDepth 20000 in
theorem gX1_setOwing_X1_hasPerson : GoodIn wsX1_setOwing (wsV RX1 38 RX1 yX1_hasPerson wsX1_hasPerson) := goodIn_app (goodIn_of _ (by decide +kernel)) ggX1_setOwing_X1_hasPerson
theorem dX1_setOwing_0 : decode cX1_setOwing 0 = .ok (.aload_n 0, 1) := by decide +kernel
theorem dX1_setOwing_1 : decode cX1_setOwing 1 = .ok (.iload_n 1, 1) := by decide +kernel
theorem dX1_setOwing_2 : decode cX1_setOwing 2 = .ok (.invokevirtual 38, 3) := by decide +kernel
theorem dX1_setOwing_5 : decode cX1_setOwing 5 = .ok (.ifCond .eq 49, 3) := by decide +kernel
theorem dX1_setOwing_8 : decode cX1_setOwing 8 = .ok (.aload_n 0, 1) := by decide +kernel
theorem dX1_setOwing_9 : decode cX1_setOwing 9 = .ok (.iload_n 2, 1) := by decide +kernel
theorem dX1_setOwing_10 : decode cX1_setOwing 10 = .ok (.invokevirtual 38, 3) := by decide +kernel
theorem dX1_setOwing_13 : decode cX1_setOwing 13 = .ok (.ifCond .eq 41, 3) := by decide +kernel
theorem dX1_setOwing_16 : decode cX1_setOwing 16 = .ok (.iconst 1, 1) := by decide +kernel
theorem dX1_setOwing_17 : decode cX1_setOwing 17 = .ok (.iload_n 2, 1) := by decide +kernel
theorem dX1_setOwing_18 : decode cX1_setOwing 18 = .ok (.ishl, 1) := by decide +kernel
theorem dX1_setOwing_19 : decode cX1_setOwing 19 = .ok (.istore 4, 2) := by decide +kernel
theorem dX1_setOwing_21 : decode cX1_setOwing 21 = .ok (.aload_n 0, 1) := by decide +kernel
theorem dX1_setOwing_22 : decode cX1_setOwing 22 = .ok (.getfield 24, 3) := by decide +kernel
theorem dX1_setOwing_25 : decode cX1_setOwing 25 = .ok (.iload_n 1, 1) := by decide +kernel
theorem dX1_setOwing_26 : decode cX1_setOwing 26 = .ok (.iload_n 3, 1) := by decide +kernel
theorem dX1_setOwing_27 : decode cX1_setOwing 27 = .ok (.ifCond .eq 15, 3) := by decide +kernel
theorem dX1_setOwing_30 : decode cX1_setOwing 30 = .ok (.aload_n 0, 1) := by decide +kernel
theorem dX1_setOwing_31 : decode cX1_setOwing 31 = .ok (.getfield 24, 3) := by decide +kernel
theorem dX1_setOwing_34 : decode cX1_setOwing 34 = .ok (.iload_n 1, 1) := by decide +kernel
theorem dX1_setOwing_35 : decode cX1_setOwing 35 = .ok (.iaload, 1) := by decide +kernel
theorem dX1_setOwing_36 : decode cX1_setOwing 36 = .ok (.iload 4, 2) := by decide +kernel
theorem dX1_setOwing_38 : decode cX1_setOwing 38 = .ok (.ior, 1) := by decide +kernel
theorem dX1_setOwing_39 : decode cX1_setOwing 39 = .ok (.goto 14, 3) := by decide +kernel
theorem dX1_setOwing_42 : decode cX1_setOwing 42 = .ok (.aload_n 0, 1) := by decide +kernel
theorem dX1_setOwing_43 : decode cX1_setOwing 43 = .ok (.getfield 24, 3) := by decide +kernel
theorem dX1_setOwing_46 : decode cX1_setOwing 46 = .ok (.iload_n 1, 1) := by decide +kernel
theorem dX1_setOwing_47 : decode cX1_setOwing 47 = .ok (.iaload, 1) := by decide +kernel
theorem dX1_setOwing_48 : decode cX1_setOwing 48 = .ok (.iload 4, 2) := by decide +kernel
theorem dX1_setOwing_50 : decode cX1_setOwing 50 = .ok (.iconst (-1), 1) := by decide +kernel
theorem dX1_setOwing_51 : decode cX1_setOwing 51 = .ok (.ixor, 1) := by decide +kernel
theorem dX1_setOwing_52 : decode cX1_setOwing 52 = .ok (.iand, 1) := by decide +kernel
theorem dX1_setOwing_53 : decode cX1_setOwing 53 = .ok (.iastore, 1) := by decide +kernel
theorem dX1_setOwing_54 : decode cX1_setOwing 54 = .ok (.return_, 1) := by decide +kernel
set_option maxRecDepth 20000 in
theorem ggX1_addQuarrel_X1_codeOf : GoodIn wsX1_addQuarrel wsX1_codeOf := goodIn_r _ [13, 14, 15, 16, 17, 12, 18, 19, 20, 21, 22, 23, 24, 25, 26, 27, 28] (by decide +kernel) (by decide +kernel)
set_option maxRecDepth 20000 in
theorem gX1_addQuarrel_X1_codeOf : GoodIn wsX1_addQuarrel (wsV RX1 51 RX1 yX1_codeOf wsX1_codeOf) := goodIn_app (goodIn_of _ (by decide +kernel)) ggX1_addQuarrel_X1_codeOf
theorem dX1_addQuarrel_0 : decode cX1_addQuarrel 0 = .ok (.aload_n 0, 1) := by decide +kernel
theorem dX1_addQuarrel_1 : decode cX1_addQuarrel 1 = .ok (.getfield 42, 3) := by decide +kernel
theorem dX1_addQuarrel_4 : decode cX1_addQuarrel 4 = .ok (.istore 4, 2) := by decide +kernel
theorem dX1_addQuarrel_6 : decode cX1_addQuarrel 6 = .ok (.iload 4, 2) := by decide +kernel
theorem dX1_addQuarrel_8 : decode cX1_addQuarrel 8 = .ok (.ifCond .lt 10, 3) := by decide +kernel
theorem dX1_addQuarrel_11 : decode cX1_addQuarrel 11 = .ok (.iload 4, 2) := by decide +kernel
theorem dX1_addQuarrel_13 : decode cX1_addQuarrel 13 = .ok (.bipush 24, 2) := by decide +kernel
theorem dX1_addQuarrel_15 : decode cX1_addQuarrel 15 = .ok (.if_icmp .lt 5, 3) := by decide +kernel
theorem dX1_addQuarrel_18 : decode cX1_addQuarrel 18 = .ok (.iconst (-1), 1) := by decide +kernel
theorem dX1_addQuarrel_19 : decode cX1_addQuarrel 19 = .ok (.ireturn, 1) := by decide +kernel
theorem dX1_addQuarrel_20 : decode cX1_addQuarrel 20 = .ok (.aload_n 0, 1) := by decide +kernel
theorem dX1_addQuarrel_21 : decode cX1_addQuarrel 21 = .ok (.getfield 29, 3) := by decide +kernel
theorem dX1_addQuarrel_24 : decode cX1_addQuarrel 24 = .ok (.iload 4, 2) := by decide +kernel
theorem dX1_addQuarrel_26 : decode cX1_addQuarrel 26 = .ok (.aaload, 1) := by decide +kernel
theorem dX1_addQuarrel_27 : decode cX1_addQuarrel 27 = .ok (.astore 5, 2) := by decide +kernel
theorem dX1_addQuarrel_29 : decode cX1_addQuarrel 29 = .ok (.aload 5, 2) := by decide +kernel
theorem dX1_addQuarrel_31 : decode cX1_addQuarrel 31 = .ok (.iload_n 1, 1) := by decide +kernel
theorem dX1_addQuarrel_32 : decode cX1_addQuarrel 32 = .ok (.putfield 45, 3) := by decide +kernel
theorem dX1_addQuarrel_35 : decode cX1_addQuarrel 35 = .ok (.aload 5, 2) := by decide +kernel
theorem dX1_addQuarrel_37 : decode cX1_addQuarrel 37 = .ok (.iload_n 2, 1) := by decide +kernel
theorem dX1_addQuarrel_38 : decode cX1_addQuarrel 38 = .ok (.putfield 48, 3) := by decide +kernel
theorem dX1_addQuarrel_41 : decode cX1_addQuarrel 41 = .ok (.aload 5, 2) := by decide +kernel
theorem dX1_addQuarrel_43 : decode cX1_addQuarrel 43 = .ok (.aload_n 0, 1) := by decide +kernel
theorem dX1_addQuarrel_44 : decode cX1_addQuarrel 44 = .ok (.iload_n 1, 1) := by decide +kernel
theorem dX1_addQuarrel_45 : decode cX1_addQuarrel 45 = .ok (.invokevirtual 51, 3) := by decide +kernel
theorem dX1_addQuarrel_48 : decode cX1_addQuarrel 48 = .ok (.putfield 55, 3) := by decide +kernel
theorem dX1_addQuarrel_51 : decode cX1_addQuarrel 51 = .ok (.aload 5, 2) := by decide +kernel
theorem dX1_addQuarrel_53 : decode cX1_addQuarrel 53 = .ok (.aload_n 0, 1) := by decide +kernel
theorem dX1_addQuarrel_54 : decode cX1_addQuarrel 54 = .ok (.iload_n 2, 1) := by decide +kernel
theorem dX1_addQuarrel_55 : decode cX1_addQuarrel 55 = .ok (.invokevirtual 51, 3) := by decide +kernel
theorem dX1_addQuarrel_58 : decode cX1_addQuarrel 58 = .ok (.putfield 58, 3) := by decide +kernel
theorem dX1_addQuarrel_61 : decode cX1_addQuarrel 61 = .ok (.aload 5, 2) := by decide +kernel
theorem dX1_addQuarrel_63 : decode cX1_addQuarrel 63 = .ok (.iload_n 3, 1) := by decide +kernel
theorem dX1_addQuarrel_64 : decode cX1_addQuarrel 64 = .ok (.putfield 61, 3) := by decide +kernel
theorem dX1_addQuarrel_67 : decode cX1_addQuarrel 67 = .ok (.aload 5, 2) := by decide +kernel
theorem dX1_addQuarrel_69 : decode cX1_addQuarrel 69 = .ok (.iconst 0, 1) := by decide +kernel
theorem dX1_addQuarrel_70 : decode cX1_addQuarrel 70 = .ok (.putfield 64, 3) := by decide +kernel
theorem dX1_addQuarrel_73 : decode cX1_addQuarrel 73 = .ok (.aload_n 0, 1) := by decide +kernel
theorem dX1_addQuarrel_74 : decode cX1_addQuarrel 74 = .ok (.dup, 1) := by decide +kernel
theorem dX1_addQuarrel_75 : decode cX1_addQuarrel 75 = .ok (.getfield 42, 3) := by decide +kernel
theorem dX1_addQuarrel_78 : decode cX1_addQuarrel 78 = .ok (.iconst 1, 1) := by decide +kernel
theorem dX1_addQuarrel_79 : decode cX1_addQuarrel 79 = .ok (.iadd, 1) := by decide +kernel
theorem dX1_addQuarrel_80 : decode cX1_addQuarrel 80 = .ok (.putfield 42, 3) := by decide +kernel
theorem dX1_addQuarrel_83 : decode cX1_addQuarrel 83 = .ok (.iload 4, 2) := by decide +kernel
theorem dX1_addQuarrel_85 : decode cX1_addQuarrel 85 = .ok (.ireturn, 1) := by decide +kernel
theorem dX1_quarrelAt_0 : decode cX1_quarrelAt 0 = .ok (.iload_n 1, 1) := by decide +kernel
theorem dX1_quarrelAt_1 : decode cX1_quarrelAt 1 = .ok (.ifCond .lt 26, 3) := by decide +kernel
theorem dX1_quarrelAt_4 : decode cX1_quarrelAt 4 = .ok (.iload_n 1, 1) := by decide +kernel
theorem dX1_quarrelAt_5 : decode cX1_quarrelAt 5 = .ok (.aload_n 0, 1) := by decide +kernel
theorem dX1_quarrelAt_6 : decode cX1_quarrelAt 6 = .ok (.getfield 42, 3) := by decide +kernel
theorem dX1_quarrelAt_9 : decode cX1_quarrelAt 9 = .ok (.if_icmp .ge 18, 3) := by decide +kernel
theorem dX1_quarrelAt_12 : decode cX1_quarrelAt 12 = .ok (.iload_n 1, 1) := by decide +kernel
theorem dX1_quarrelAt_13 : decode cX1_quarrelAt 13 = .ok (.bipush 24, 2) := by decide +kernel
theorem dX1_quarrelAt_15 : decode cX1_quarrelAt 15 = .ok (.if_icmp .ge 12, 3) := by decide +kernel
theorem dX1_quarrelAt_18 : decode cX1_quarrelAt 18 = .ok (.aload_n 0, 1) := by decide +kernel
theorem dX1_quarrelAt_19 : decode cX1_quarrelAt 19 = .ok (.getfield 29, 3) := by decide +kernel
theorem dX1_quarrelAt_22 : decode cX1_quarrelAt 22 = .ok (.iload_n 1, 1) := by decide +kernel
theorem dX1_quarrelAt_23 : decode cX1_quarrelAt 23 = .ok (.aaload, 1) := by decide +kernel
theorem dX1_quarrelAt_24 : decode cX1_quarrelAt 24 = .ok (.goto 4, 3) := by decide +kernel
theorem dX1_quarrelAt_27 : decode cX1_quarrelAt 27 = .ok (.aconst_null, 1) := by decide +kernel
theorem dX1_quarrelAt_28 : decode cX1_quarrelAt 28 = .ok (.areturn, 1) := by decide +kernel
set_option maxRecDepth 20000 in
theorem ggX1_goingOn_X4_goesOn : GoodIn wsX1_goingOn wsX4_goesOn := goodIn_r _ [7, 8, 9, 10, 6, 11, 12, 13, 14, 15, 16, 17, 18, 19, 20, 21, 31, 32, 33, 34, 35, 36, 37, 38] (by decide +kernel) (by decide +kernel)
set_option maxRecDepth 20000 in
theorem gX1_goingOn_X4_goesOn : GoodIn wsX1_goingOn (wsV RX1 67 RX4 yX4_goesOn wsX4_goesOn) := goodIn_app (goodIn_of _ (by decide +kernel)) ggX1_goingOn_X4_goesOn
theorem dX1_goingOn_0 : decode cX1_goingOn 0 = .ok (.iconst 0, 1) := by decide +kernel
theorem dX1_goingOn_1 : decode cX1_goingOn 1 = .ok (.istore_n 1, 1) := by decide +kernel
theorem dX1_goingOn_2 : decode cX1_goingOn 2 = .ok (.iconst 0, 1) := by decide +kernel
theorem dX1_goingOn_3 : decode cX1_goingOn 3 = .ok (.istore_n 2, 1) := by decide +kernel
theorem dX1_goingOn_4 : decode cX1_goingOn 4 = .ok (.iload_n 2, 1) := by decide +kernel
theorem dX1_goingOn_5 : decode cX1_goingOn 5 = .ok (.aload_n 0, 1) := by decide +kernel
theorem dX1_goingOn_6 : decode cX1_goingOn 6 = .ok (.getfield 42, 3) := by decide +kernel
theorem dX1_goingOn_9 : decode cX1_goingOn 9 = .ok (.if_icmp .ge 30, 3) := by decide +kernel
theorem dX1_goingOn_12 : decode cX1_goingOn 12 = .ok (.iload_n 2, 1) := by decide +kernel
theorem dX1_goingOn_13 : decode cX1_goingOn 13 = .ok (.bipush 24, 2) := by decide +kernel
theorem dX1_goingOn_15 : decode cX1_goingOn 15 = .ok (.if_icmp .ge 24, 3) := by decide +kernel
theorem dX1_goingOn_18 : decode cX1_goingOn 18 = .ok (.aload_n 0, 1) := by decide +kernel
theorem dX1_goingOn_19 : decode cX1_goingOn 19 = .ok (.getfield 29, 3) := by decide +kernel
theorem dX1_goingOn_22 : decode cX1_goingOn 22 = .ok (.iload_n 2, 1) := by decide +kernel
theorem dX1_goingOn_23 : decode cX1_goingOn 23 = .ok (.aaload, 1) := by decide +kernel
theorem dX1_goingOn_24 : decode cX1_goingOn 24 = .ok (.invokevirtual 67, 3) := by decide +kernel
theorem dX1_goingOn_27 : decode cX1_goingOn 27 = .ok (.ifCond .eq 6, 3) := by decide +kernel
theorem dX1_goingOn_30 : decode cX1_goingOn 30 = .ok (.iinc 1 1, 3) := by decide +kernel
theorem dX1_goingOn_33 : decode cX1_goingOn 33 = .ok (.iinc 2 1, 3) := by decide +kernel
theorem dX1_goingOn_36 : decode cX1_goingOn 36 = .ok (.goto (-32), 3) := by decide +kernel
theorem dX1_goingOn_39 : decode cX1_goingOn 39 = .ok (.iload_n 1, 1) := by decide +kernel
theorem dX1_goingOn_40 : decode cX1_goingOn 40 = .ok (.ireturn, 1) := by decide +kernel
set_option maxRecDepth 20000 in
theorem ggX1_takenFirst_X4_sideOf : GoodIn wsX1_takenFirst wsX4_sideOf := goodIn_r _ [7, 8, 9, 56, 57, 58, 59, 60, 61, 62, 63] (by decide +kernel) (by decide +kernel)
set_option maxRecDepth 20000 in
theorem gX1_takenFirst_X4_sideOf : GoodIn wsX1_takenFirst (wsV RX1 71 RX4 yX4_sideOf wsX4_sideOf) := goodIn_app (goodIn_of _ (by decide +kernel)) ggX1_takenFirst_X4_sideOf
set_option maxRecDepth 20000 in
theorem ggX1_takenFirst_X4_goesOn : GoodIn wsX1_takenFirst wsX4_goesOn := goodIn_r _ [13, 14, 15, 16, 6, 17, 18, 19, 20, 21, 22, 23, 24, 25, 26, 27, 56, 57, 58, 59, 60, 61, 62, 63] (by decide +kernel) (by decide +kernel)
set_option maxRecDepth 20000 in
theorem gX1_takenFirst_X4_goesOn : GoodIn wsX1_takenFirst (wsV RX1 67 RX4 yX4_goesOn wsX4_goesOn) := goodIn_app (goodIn_of _ (by decide +kernel)) ggX1_takenFirst_X4_goesOn
set_option maxRecDepth 20000 in
theorem ggX1_takenFirst_X4_now : GoodIn wsX1_takenFirst wsX4_now := goodIn_r _ [17, 18, 19, 20, 21, 6, 22, 23, 56, 57, 58, 59, 60, 61, 62, 63] (by decide +kernel) (by decide +kernel)
set_option maxRecDepth 20000 in
theorem gX1_takenFirst_X4_now : GoodIn wsX1_takenFirst (wsV RX1 74 RX4 yX4_now wsX4_now) := goodIn_app (goodIn_of _ (by decide +kernel)) ggX1_takenFirst_X4_now
set_option maxRecDepth 20000 in
theorem ggX1_takenFirst_X7_owed : GoodIn wsX1_takenFirst wsX7_owed := goodIn_r _ [31] (by decide +kernel) (by decide +kernel)
set_option maxRecDepth 20000 in
theorem gX1_takenFirst_X7_owed : GoodIn wsX1_takenFirst (va_wsS RX1 78 yX7_owed wsX7_owed) := goodIn_app (goodIn_of _ (by decide +kernel)) ggX1_takenFirst_X7_owed
set_option maxRecDepth 20000 in
theorem ggX1_takenFirst_X4_personOn : GoodIn wsX1_takenFirst wsX4_personOn := goodIn_r _ [35, 8, 9, 56, 57, 58, 59, 60, 61, 62, 63] (by decide +kernel) (by decide +kernel)
set_option maxRecDepth 20000 in
theorem gX1_takenFirst_X4_personOn : GoodIn wsX1_takenFirst (wsV RX1 84 RX4 yX4_personOn wsX4_personOn) := goodIn_app (goodIn_of _ (by decide +kernel)) ggX1_takenFirst_X4_personOn
set_option maxRecDepth 20000 in
theorem ggX1_takenFirst_X1_rankOf : GoodIn wsX1_takenFirst wsX1_rankOf := goodIn_r _ [40, 41, 42, 43, 44, 39, 45, 46, 47, 48, 49, 50, 51, 52, 53, 54, 55] (by decide +kernel) (by decide +kernel)
set_option maxRecDepth 20000 in
theorem gX1_takenFirst_X1_rankOf : GoodIn wsX1_takenFirst (wsV RX1 87 RX1 yX1_rankOf wsX1_rankOf) := goodIn_app (goodIn_of _ (by decide +kernel)) ggX1_takenFirst_X1_rankOf
theorem dX1_takenFirst_0 : decode cX1_takenFirst 0 = .ok (.bipush (-2), 2) := by decide +kernel
theorem dX1_takenFirst_2 : decode cX1_takenFirst 2 = .ok (.istore_n 2, 1) := by decide +kernel
theorem dX1_takenFirst_3 : decode cX1_takenFirst 3 = .ok (.iconst (-1), 1) := by decide +kernel
theorem dX1_takenFirst_4 : decode cX1_takenFirst 4 = .ok (.istore_n 3, 1) := by decide +kernel
theorem dX1_takenFirst_5 : decode cX1_takenFirst 5 = .ok (.iconst 0, 1) := by decide +kernel
theorem dX1_takenFirst_6 : decode cX1_takenFirst 6 = .ok (.istore 4, 2) := by decide +kernel
theorem dX1_takenFirst_8 : decode cX1_takenFirst 8 = .ok (.iload 4, 2) := by decide +kernel
theorem dX1_takenFirst_10 : decode cX1_takenFirst 10 = .ok (.aload_n 0, 1) := by decide +kernel
theorem dX1_takenFirst_11 : decode cX1_takenFirst 11 = .ok (.getfield 42, 3) := by decide +kernel
theorem dX1_takenFirst_14 : decode cX1_takenFirst 14 = .ok (.if_icmp .ge 88, 3) := by decide +kernel
theorem dX1_takenFirst_17 : decode cX1_takenFirst 17 = .ok (.iload 4, 2) := by decide +kernel
theorem dX1_takenFirst_19 : decode cX1_takenFirst 19 = .ok (.bipush 24, 2) := by decide +kernel
theorem dX1_takenFirst_21 : decode cX1_takenFirst 21 = .ok (.if_icmp .ge 81, 3) := by decide +kernel
theorem dX1_takenFirst_24 : decode cX1_takenFirst 24 = .ok (.aload_n 0, 1) := by decide +kernel
theorem dX1_takenFirst_25 : decode cX1_takenFirst 25 = .ok (.getfield 29, 3) := by decide +kernel
theorem dX1_takenFirst_28 : decode cX1_takenFirst 28 = .ok (.iload 4, 2) := by decide +kernel
theorem dX1_takenFirst_30 : decode cX1_takenFirst 30 = .ok (.aaload, 1) := by decide +kernel
theorem dX1_takenFirst_31 : decode cX1_takenFirst 31 = .ok (.astore 5, 2) := by decide +kernel
theorem dX1_takenFirst_33 : decode cX1_takenFirst 33 = .ok (.aload 5, 2) := by decide +kernel
theorem dX1_takenFirst_35 : decode cX1_takenFirst 35 = .ok (.iload_n 1, 1) := by decide +kernel
theorem dX1_takenFirst_36 : decode cX1_takenFirst 36 = .ok (.invokevirtual 71, 3) := by decide +kernel
theorem dX1_takenFirst_39 : decode cX1_takenFirst 39 = .ok (.istore 6, 2) := by decide +kernel
theorem dX1_takenFirst_41 : decode cX1_takenFirst 41 = .ok (.iload 6, 2) := by decide +kernel
theorem dX1_takenFirst_43 : decode cX1_takenFirst 43 = .ok (.iconst (-1), 1) := by decide +kernel
theorem dX1_takenFirst_44 : decode cX1_takenFirst 44 = .ok (.if_icmp .eq 52, 3) := by decide +kernel
theorem dX1_takenFirst_47 : decode cX1_takenFirst 47 = .ok (.aload 5, 2) := by decide +kernel
theorem dX1_takenFirst_49 : decode cX1_takenFirst 49 = .ok (.invokevirtual 67, 3) := by decide +kernel
theorem dX1_takenFirst_52 : decode cX1_takenFirst 52 = .ok (.ifCond .eq 44, 3) := by decide +kernel
theorem dX1_takenFirst_55 : decode cX1_takenFirst 55 = .ok (.bipush 10, 2) := by decide +kernel
theorem dX1_takenFirst_57 : decode cX1_takenFirst 57 = .ok (.aload 5, 2) := by decide +kernel
theorem dX1_takenFirst_59 : decode cX1_takenFirst 59 = .ok (.invokevirtual 74, 3) := by decide +kernel
theorem dX1_takenFirst_62 : decode cX1_takenFirst 62 = .ok (.iload 6, 2) := by decide +kernel
theorem dX1_takenFirst_64 : decode cX1_takenFirst 64 = .ok (.invokestatic 78, 3) := by decide +kernel
theorem dX1_takenFirst_67 : decode cX1_takenFirst 67 = .ok (.imul, 1) := by decide +kernel
theorem dX1_takenFirst_68 : decode cX1_takenFirst 68 = .ok (.aload_n 0, 1) := by decide +kernel
theorem dX1_takenFirst_69 : decode cX1_takenFirst 69 = .ok (.aload 5, 2) := by decide +kernel
theorem dX1_takenFirst_71 : decode cX1_takenFirst 71 = .ok (.iconst 1, 1) := by decide +kernel
theorem dX1_takenFirst_72 : decode cX1_takenFirst 72 = .ok (.iload 6, 2) := by decide +kernel
theorem dX1_takenFirst_74 : decode cX1_takenFirst 74 = .ok (.isub, 1) := by decide +kernel
theorem dX1_takenFirst_75 : decode cX1_takenFirst 75 = .ok (.invokevirtual 84, 3) := by decide +kernel
theorem dX1_takenFirst_78 : decode cX1_takenFirst 78 = .ok (.invokevirtual 87, 3) := by decide +kernel
theorem dX1_takenFirst_81 : decode cX1_takenFirst 81 = .ok (.iadd, 1) := by decide +kernel
theorem dX1_takenFirst_82 : decode cX1_takenFirst 82 = .ok (.istore 7, 2) := by decide +kernel
theorem dX1_takenFirst_84 : decode cX1_takenFirst 84 = .ok (.iload 7, 2) := by decide +kernel
theorem dX1_takenFirst_86 : decode cX1_takenFirst 86 = .ok (.iload_n 3, 1) := by decide +kernel
theorem dX1_takenFirst_87 : decode cX1_takenFirst 87 = .ok (.if_icmp .le 9, 3) := by decide +kernel
theorem dX1_takenFirst_90 : decode cX1_takenFirst 90 = .ok (.iload 7, 2) := by decide +kernel
theorem dX1_takenFirst_92 : decode cX1_takenFirst 92 = .ok (.istore_n 3, 1) := by decide +kernel
theorem dX1_takenFirst_93 : decode cX1_takenFirst 93 = .ok (.iload 4, 2) := by decide +kernel
theorem dX1_takenFirst_95 : decode cX1_takenFirst 95 = .ok (.istore_n 2, 1) := by decide +kernel
theorem dX1_takenFirst_96 : decode cX1_takenFirst 96 = .ok (.iinc 4 1, 3) := by decide +kernel
theorem dX1_takenFirst_99 : decode cX1_takenFirst 99 = .ok (.goto (-91), 3) := by decide +kernel
theorem dX1_takenFirst_102 : decode cX1_takenFirst 102 = .ok (.iload_n 2, 1) := by decide +kernel
theorem dX1_takenFirst_103 : decode cX1_takenFirst 103 = .ok (.ireturn, 1) := by decide +kernel
set_option maxRecDepth 20000 in
theorem ggX1_waitedFor_X1_quarrelAt : GoodIn wsX1_waitedFor wsX1_quarrelAt := goodIn_r _ [5, 6, 7, 55, 56, 57, 58, 59, 60, 61, 62, 63] (by decide +kernel) (by decide +kernel)
set_option maxRecDepth 20000 in
theorem gX1_waitedFor_X1_quarrelAt : GoodIn wsX1_waitedFor (wsV RX1 90 RX1 yX1_quarrelAt wsX1_quarrelAt) := goodIn_app (goodIn_of _ (by decide +kernel)) ggX1_waitedFor_X1_quarrelAt
set_option maxRecDepth 20000 in
theorem ggX1_waitedFor_X4_goesOn : GoodIn wsX1_waitedFor wsX4_goesOn := goodIn_r _ [12, 13, 14, 15, 11, 16, 17, 18, 19, 20, 21, 22, 23, 24, 25, 26, 64, 65, 66, 67, 68, 69, 70, 71] (by decide +kernel) (by decide +kernel)
set_option maxRecDepth 20000 in
theorem gX1_waitedFor_X4_goesOn : GoodIn wsX1_waitedFor (wsV RX1 67 RX4 yX4_goesOn wsX4_goesOn) := goodIn_app (goodIn_of _ (by decide +kernel)) ggX1_waitedFor_X4_goesOn
set_option maxRecDepth 20000 in
theorem ggX1_waitedFor_X4_personOn : GoodIn wsX1_waitedFor wsX4_personOn := goodIn_r _ [30, 31, 32, 64, 65, 66, 67, 68, 69, 70, 71] (by decide +kernel) (by decide +kernel)
set_option maxRecDepth 20000 in
theorem gX1_waitedFor_X4_personOn : GoodIn wsX1_waitedFor (wsV RX1 84 RX4 yX4_personOn wsX4_personOn) := goodIn_app (goodIn_of _ (by decide +kernel)) ggX1_waitedFor_X4_personOn
set_option maxRecDepth 20000 in
theorem ggX1_waitedFor_X1_takenFirst : GoodIn wsX1_waitedFor wsX1_takenFirst := goodIn_r _ [36, 6, 7, 37, 38, 39, 11, 40, 31, 32, 8, 9, 10, 12, 13, 14, 15, 16, 17, 18, 19, 20, 21, 22, 23, 24, 25, 26, 41, 42, 43, 44, 27, 28, 29, 30, 45, 46, 47, 4, 48, 49, 50, 51, 52, 53, 54, 55, 56, 57, 58, 59, 60, 61, 62, 63, 64, 65, 66, 67, 68, 69, 70, 71] (by decide +kernel) (by decide +kernel)
set_option maxRecDepth 20000 in
theorem gX1_waitedFor_X1_takenFirst : GoodIn wsX1_waitedFor (wsV RX1 94 RX1 yX1_takenFirst wsX1_takenFirst) := goodIn_app (goodIn_of _ (by decide +kernel)) ggX1_waitedFor_X1_takenFirst
theorem dX1_waitedFor_0 : decode cX1_waitedFor 0 = .ok (.aload_n 0, 1) := by decide +kernel
theorem dX1_waitedFor_1 : decode cX1_waitedFor 1 = .ok (.iload_n 1, 1) := by decide +kernel
theorem dX1_waitedFor_2 : decode cX1_waitedFor 2 = .ok (.invokevirtual 90, 3) := by decide +kernel
theorem dX1_waitedFor_5 : decode cX1_waitedFor 5 = .ok (.astore_n 2, 1) := by decide +kernel
theorem dX1_waitedFor_6 : decode cX1_waitedFor 6 = .ok (.aload_n 2, 1) := by decide +kernel
theorem dX1_waitedFor_7 : decode cX1_waitedFor 7 = .ok (.ifnull 10, 3) := by decide +kernel
theorem dX1_waitedFor_10 : decode cX1_waitedFor 10 = .ok (.aload_n 2, 1) := by decide +kernel
theorem dX1_waitedFor_11 : decode cX1_waitedFor 11 = .ok (.invokevirtual 67, 3) := by decide +kernel
theorem dX1_waitedFor_14 : decode cX1_waitedFor 14 = .ok (.ifCond .ne 5, 3) := by decide +kernel
theorem dX1_waitedFor_17 : decode cX1_waitedFor 17 = .ok (.iconst 0, 1) := by decide +kernel
theorem dX1_waitedFor_18 : decode cX1_waitedFor 18 = .ok (.ireturn, 1) := by decide +kernel
theorem dX1_waitedFor_19 : decode cX1_waitedFor 19 = .ok (.iconst 0, 1) := by decide +kernel
theorem dX1_waitedFor_20 : decode cX1_waitedFor 20 = .ok (.istore_n 3, 1) := by decide +kernel
theorem dX1_waitedFor_21 : decode cX1_waitedFor 21 = .ok (.iconst 0, 1) := by decide +kernel
theorem dX1_waitedFor_22 : decode cX1_waitedFor 22 = .ok (.istore 4, 2) := by decide +kernel
theorem dX1_waitedFor_24 : decode cX1_waitedFor 24 = .ok (.iload 4, 2) := by decide +kernel
theorem dX1_waitedFor_26 : decode cX1_waitedFor 26 = .ok (.iconst 2, 1) := by decide +kernel
theorem dX1_waitedFor_27 : decode cX1_waitedFor 27 = .ok (.if_icmp .ge 39, 3) := by decide +kernel
theorem dX1_waitedFor_30 : decode cX1_waitedFor 30 = .ok (.aload_n 0, 1) := by decide +kernel
theorem dX1_waitedFor_31 : decode cX1_waitedFor 31 = .ok (.aload_n 2, 1) := by decide +kernel
theorem dX1_waitedFor_32 : decode cX1_waitedFor 32 = .ok (.iload 4, 2) := by decide +kernel
theorem dX1_waitedFor_34 : decode cX1_waitedFor 34 = .ok (.invokevirtual 84, 3) := by decide +kernel
theorem dX1_waitedFor_37 : decode cX1_waitedFor 37 = .ok (.invokevirtual 94, 3) := by decide +kernel
theorem dX1_waitedFor_40 : decode cX1_waitedFor 40 = .ok (.istore 5, 2) := by decide +kernel
theorem dX1_waitedFor_42 : decode cX1_waitedFor 42 = .ok (.iload 5, 2) := by decide +kernel
theorem dX1_waitedFor_44 : decode cX1_waitedFor 44 = .ok (.ifCond .lt 16, 3) := by decide +kernel
theorem dX1_waitedFor_47 : decode cX1_waitedFor 47 = .ok (.iload 5, 2) := by decide +kernel
theorem dX1_waitedFor_49 : decode cX1_waitedFor 49 = .ok (.iload_n 1, 1) := by decide +kernel
theorem dX1_waitedFor_50 : decode cX1_waitedFor 50 = .ok (.if_icmp .eq 10, 3) := by decide +kernel
theorem dX1_waitedFor_53 : decode cX1_waitedFor 53 = .ok (.iload_n 3, 1) := by decide +kernel
theorem dX1_waitedFor_54 : decode cX1_waitedFor 54 = .ok (.iconst 1, 1) := by decide +kernel
theorem dX1_waitedFor_55 : decode cX1_waitedFor 55 = .ok (.iload 5, 2) := by decide +kernel
theorem dX1_waitedFor_57 : decode cX1_waitedFor 57 = .ok (.ishl, 1) := by decide +kernel
theorem dX1_waitedFor_58 : decode cX1_waitedFor 58 = .ok (.ior, 1) := by decide +kernel
theorem dX1_waitedFor_59 : decode cX1_waitedFor 59 = .ok (.istore_n 3, 1) := by decide +kernel
theorem dX1_waitedFor_60 : decode cX1_waitedFor 60 = .ok (.iinc 4 1, 3) := by decide +kernel
theorem dX1_waitedFor_63 : decode cX1_waitedFor 63 = .ok (.goto (-39), 3) := by decide +kernel
theorem dX1_waitedFor_66 : decode cX1_waitedFor 66 = .ok (.iload_n 3, 1) := by decide +kernel
theorem dX1_waitedFor_67 : decode cX1_waitedFor 67 = .ok (.ireturn, 1) := by decide +kernel
set_option maxRecDepth 20000 in
theorem ggX1_isInRing_X1_waitedFor : GoodIn wsX1_isInRing wsX1_waitedFor := goodIn_r _ [5, 6, 7, 8, 4, 9, 10, 11, 12, 13, 14, 15, 16, 17, 18, 19, 20, 21, 22, 23, 24, 25, 26, 27, 28, 29, 30, 31, 32, 33, 34, 35, 36, 37, 38, 39, 40, 41, 42, 43, 44, 45, 46, 47, 48, 49, 50, 51, 52, 53, 54, 55, 56, 57, 58, 59, 60, 61, 62, 63, 64, 65, 66, 67, 68, 69, 70, 71, 72, 73, 74, 75] (by decide +kernel) (by decide +kernel)
set_option maxRecDepth 20000 in
theorem gX1_isInRing_X1_waitedFor : GoodIn wsX1_isInRing (wsV RX1 97 RX1 yX1_waitedFor wsX1_waitedFor) := goodIn_app (goodIn_of _ (by decide +kernel)) ggX1_isInRing_X1_waitedFor
theorem dX1_isInRing_0 : decode cX1_isInRing 0 = .ok (.iconst 0, 1) := by decide +kernel
theorem dX1_isInRing_1 : decode cX1_isInRing 1 = .ok (.istore_n 2, 1) := by decide +kernel
theorem dX1_isInRing_2 : decode cX1_isInRing 2 = .ok (.aload_n 0, 1) := by decide +kernel
theorem dX1_isInRing_3 : decode cX1_isInRing 3 = .ok (.iload_n 1, 1) := by decide +kernel
theorem dX1_isInRing_4 : decode cX1_isInRing 4 = .ok (.invokevirtual 97, 3) := by decide +kernel
theorem dX1_isInRing_7 : decode cX1_isInRing 7 = .ok (.istore_n 3, 1) := by decide +kernel
theorem dX1_isInRing_8 : decode cX1_isInRing 8 = .ok (.iconst 0, 1) := by decide +kernel
theorem dX1_isInRing_9 : decode cX1_isInRing 9 = .ok (.istore 4, 2) := by decide +kernel
theorem dX1_isInRing_11 : decode cX1_isInRing 11 = .ok (.iload 4, 2) := by decide +kernel
theorem dX1_isInRing_13 : decode cX1_isInRing 13 = .ok (.bipush 24, 2) := by decide +kernel
theorem dX1_isInRing_15 : decode cX1_isInRing 15 = .ok (.if_icmp .ge 59, 3) := by decide +kernel
theorem dX1_isInRing_18 : decode cX1_isInRing 18 = .ok (.iload_n 3, 1) := by decide +kernel
theorem dX1_isInRing_19 : decode cX1_isInRing 19 = .ok (.iload_n 2, 1) := by decide +kernel
theorem dX1_isInRing_20 : decode cX1_isInRing 20 = .ok (.if_icmp .eq 54, 3) := by decide +kernel
theorem dX1_isInRing_23 : decode cX1_isInRing 23 = .ok (.iload_n 3, 1) := by decide +kernel
theorem dX1_isInRing_24 : decode cX1_isInRing 24 = .ok (.iload_n 2, 1) := by decide +kernel
theorem dX1_isInRing_25 : decode cX1_isInRing 25 = .ok (.iconst (-1), 1) := by decide +kernel
theorem dX1_isInRing_26 : decode cX1_isInRing 26 = .ok (.ixor, 1) := by decide +kernel
theorem dX1_isInRing_27 : decode cX1_isInRing 27 = .ok (.iand, 1) := by decide +kernel
theorem dX1_isInRing_28 : decode cX1_isInRing 28 = .ok (.istore 5, 2) := by decide +kernel
theorem dX1_isInRing_30 : decode cX1_isInRing 30 = .ok (.iload_n 3, 1) := by decide +kernel
theorem dX1_isInRing_31 : decode cX1_isInRing 31 = .ok (.istore_n 2, 1) := by decide +kernel
theorem dX1_isInRing_32 : decode cX1_isInRing 32 = .ok (.iconst 0, 1) := by decide +kernel
theorem dX1_isInRing_33 : decode cX1_isInRing 33 = .ok (.istore 6, 2) := by decide +kernel
theorem dX1_isInRing_35 : decode cX1_isInRing 35 = .ok (.iload 6, 2) := by decide +kernel
theorem dX1_isInRing_37 : decode cX1_isInRing 37 = .ok (.bipush 24, 2) := by decide +kernel
theorem dX1_isInRing_39 : decode cX1_isInRing 39 = .ok (.if_icmp .ge 29, 3) := by decide +kernel
theorem dX1_isInRing_42 : decode cX1_isInRing 42 = .ok (.iload 5, 2) := by decide +kernel
theorem dX1_isInRing_44 : decode cX1_isInRing 44 = .ok (.iload 6, 2) := by decide +kernel
theorem dX1_isInRing_46 : decode cX1_isInRing 46 = .ok (.ishr, 1) := by decide +kernel
theorem dX1_isInRing_47 : decode cX1_isInRing 47 = .ok (.iconst 1, 1) := by decide +kernel
theorem dX1_isInRing_48 : decode cX1_isInRing 48 = .ok (.iand, 1) := by decide +kernel
theorem dX1_isInRing_49 : decode cX1_isInRing 49 = .ok (.iconst 1, 1) := by decide +kernel
theorem dX1_isInRing_50 : decode cX1_isInRing 50 = .ok (.if_icmp .ne 12, 3) := by decide +kernel
theorem dX1_isInRing_53 : decode cX1_isInRing 53 = .ok (.iload_n 3, 1) := by decide +kernel
theorem dX1_isInRing_54 : decode cX1_isInRing 54 = .ok (.aload_n 0, 1) := by decide +kernel
theorem dX1_isInRing_55 : decode cX1_isInRing 55 = .ok (.iload 6, 2) := by decide +kernel
theorem dX1_isInRing_57 : decode cX1_isInRing 57 = .ok (.invokevirtual 97, 3) := by decide +kernel
theorem dX1_isInRing_60 : decode cX1_isInRing 60 = .ok (.ior, 1) := by decide +kernel
theorem dX1_isInRing_61 : decode cX1_isInRing 61 = .ok (.istore_n 3, 1) := by decide +kernel
theorem dX1_isInRing_62 : decode cX1_isInRing 62 = .ok (.iinc 6 1, 3) := by decide +kernel
theorem dX1_isInRing_65 : decode cX1_isInRing 65 = .ok (.goto (-30), 3) := by decide +kernel
theorem dX1_isInRing_68 : decode cX1_isInRing 68 = .ok (.iinc 4 1, 3) := by decide +kernel
theorem dX1_isInRing_71 : decode cX1_isInRing 71 = .ok (.goto (-60), 3) := by decide +kernel
theorem dX1_isInRing_74 : decode cX1_isInRing 74 = .ok (.iload_n 1, 1) := by decide +kernel
theorem dX1_isInRing_75 : decode cX1_isInRing 75 = .ok (.ifCond .lt 22, 3) := by decide +kernel
theorem dX1_isInRing_78 : decode cX1_isInRing 78 = .ok (.iload_n 1, 1) := by decide +kernel
theorem dX1_isInRing_79 : decode cX1_isInRing 79 = .ok (.bipush 24, 2) := by decide +kernel
theorem dX1_isInRing_81 : decode cX1_isInRing 81 = .ok (.if_icmp .ge 16, 3) := by decide +kernel
theorem dX1_isInRing_84 : decode cX1_isInRing 84 = .ok (.iload_n 3, 1) := by decide +kernel
theorem dX1_isInRing_85 : decode cX1_isInRing 85 = .ok (.iload_n 1, 1) := by decide +kernel
theorem dX1_isInRing_86 : decode cX1_isInRing 86 = .ok (.ishr, 1) := by decide +kernel
theorem dX1_isInRing_87 : decode cX1_isInRing 87 = .ok (.iconst 1, 1) := by decide +kernel
theorem dX1_isInRing_88 : decode cX1_isInRing 88 = .ok (.iand, 1) := by decide +kernel
theorem dX1_isInRing_89 : decode cX1_isInRing 89 = .ok (.iconst 1, 1) := by decide +kernel
theorem dX1_isInRing_90 : decode cX1_isInRing 90 = .ok (.if_icmp .ne 7, 3) := by decide +kernel
theorem dX1_isInRing_93 : decode cX1_isInRing 93 = .ok (.iconst 1, 1) := by decide +kernel
theorem dX1_isInRing_94 : decode cX1_isInRing 94 = .ok (.goto 4, 3) := by decide +kernel
theorem dX1_isInRing_97 : decode cX1_isInRing 97 = .ok (.iconst 0, 1) := by decide +kernel
theorem dX1_isInRing_98 : decode cX1_isInRing 98 = .ok (.ireturn, 1) := by decide +kernel
set_option maxRecDepth 20000 in
theorem ggX1_copy_X4_copy : GoodIn wsX1_copy wsX4_copy := goodIn_r _ [13, 14, 15, 16, 17, 18, 19, 20, 21, 31, 32, 33, 34, 35, 36, 37, 38] (by decide +kernel) (by decide +kernel)
set_option maxRecDepth 20000 in
theorem gX1_copy_X4_copy : GoodIn wsX1_copy (wsV RX1 100 RX4 yX4_copy wsX4_copy) := goodIn_app (goodIn_of _ (by decide +kernel)) ggX1_copy_X4_copy
theorem dX1_copy_0 : decode cX1_copy 0 = .ok (.aload_n 0, 1) := by decide +kernel
theorem dX1_copy_1 : decode cX1_copy 1 = .ok (.aload_n 1, 1) := by decide +kernel
theorem dX1_copy_2 : decode cX1_copy 2 = .ok (.getfield 34, 3) := by decide +kernel
theorem dX1_copy_5 : decode cX1_copy 5 = .ok (.putfield 34, 3) := by decide +kernel
theorem dX1_copy_8 : decode cX1_copy 8 = .ok (.aload_n 0, 1) := by decide +kernel
theorem dX1_copy_9 : decode cX1_copy 9 = .ok (.aload_n 1, 1) := by decide +kernel
theorem dX1_copy_10 : decode cX1_copy 10 = .ok (.getfield 42, 3) := by decide +kernel
theorem dX1_copy_13 : decode cX1_copy 13 = .ok (.putfield 42, 3) := by decide +kernel
theorem dX1_copy_16 : decode cX1_copy 16 = .ok (.iconst 0, 1) := by decide +kernel
theorem dX1_copy_17 : decode cX1_copy 17 = .ok (.istore_n 2, 1) := by decide +kernel
theorem dX1_copy_18 : decode cX1_copy 18 = .ok (.iload_n 2, 1) := by decide +kernel
theorem dX1_copy_19 : decode cX1_copy 19 = .ok (.bipush 12, 2) := by decide +kernel
theorem dX1_copy_21 : decode cX1_copy 21 = .ok (.if_icmp .ge 69, 3) := by decide +kernel
theorem dX1_copy_24 : decode cX1_copy 24 = .ok (.aload_n 0, 1) := by decide +kernel
theorem dX1_copy_25 : decode cX1_copy 25 = .ok (.getfield 9, 3) := by decide +kernel
theorem dX1_copy_28 : decode cX1_copy 28 = .ok (.iload_n 2, 1) := by decide +kernel
theorem dX1_copy_29 : decode cX1_copy 29 = .ok (.aload_n 1, 1) := by decide +kernel
theorem dX1_copy_30 : decode cX1_copy 30 = .ok (.getfield 9, 3) := by decide +kernel
theorem dX1_copy_33 : decode cX1_copy 33 = .ok (.iload_n 2, 1) := by decide +kernel
theorem dX1_copy_34 : decode cX1_copy 34 = .ok (.iaload, 1) := by decide +kernel
theorem dX1_copy_35 : decode cX1_copy 35 = .ok (.iastore, 1) := by decide +kernel
theorem dX1_copy_36 : decode cX1_copy 36 = .ok (.aload_n 0, 1) := by decide +kernel
theorem dX1_copy_37 : decode cX1_copy 37 = .ok (.getfield 15, 3) := by decide +kernel
theorem dX1_copy_40 : decode cX1_copy 40 = .ok (.iload_n 2, 1) := by decide +kernel
theorem dX1_copy_41 : decode cX1_copy 41 = .ok (.aload_n 1, 1) := by decide +kernel
theorem dX1_copy_42 : decode cX1_copy 42 = .ok (.getfield 15, 3) := by decide +kernel
theorem dX1_copy_45 : decode cX1_copy 45 = .ok (.iload_n 2, 1) := by decide +kernel
theorem dX1_copy_46 : decode cX1_copy 46 = .ok (.iaload, 1) := by decide +kernel
theorem dX1_copy_47 : decode cX1_copy 47 = .ok (.iastore, 1) := by decide +kernel
theorem dX1_copy_48 : decode cX1_copy 48 = .ok (.aload_n 0, 1) := by decide +kernel
theorem dX1_copy_49 : decode cX1_copy 49 = .ok (.getfield 18, 3) := by decide +kernel
theorem dX1_copy_52 : decode cX1_copy 52 = .ok (.iload_n 2, 1) := by decide +kernel
theorem dX1_copy_53 : decode cX1_copy 53 = .ok (.aload_n 1, 1) := by decide +kernel
theorem dX1_copy_54 : decode cX1_copy 54 = .ok (.getfield 18, 3) := by decide +kernel
theorem dX1_copy_57 : decode cX1_copy 57 = .ok (.iload_n 2, 1) := by decide +kernel
theorem dX1_copy_58 : decode cX1_copy 58 = .ok (.iaload, 1) := by decide +kernel
theorem dX1_copy_59 : decode cX1_copy 59 = .ok (.iastore, 1) := by decide +kernel
theorem dX1_copy_60 : decode cX1_copy 60 = .ok (.aload_n 0, 1) := by decide +kernel
theorem dX1_copy_61 : decode cX1_copy 61 = .ok (.getfield 21, 3) := by decide +kernel
theorem dX1_copy_64 : decode cX1_copy 64 = .ok (.iload_n 2, 1) := by decide +kernel
theorem dX1_copy_65 : decode cX1_copy 65 = .ok (.aload_n 1, 1) := by decide +kernel
theorem dX1_copy_66 : decode cX1_copy 66 = .ok (.getfield 21, 3) := by decide +kernel
theorem dX1_copy_69 : decode cX1_copy 69 = .ok (.iload_n 2, 1) := by decide +kernel
theorem dX1_copy_70 : decode cX1_copy 70 = .ok (.iaload, 1) := by decide +kernel
theorem dX1_copy_71 : decode cX1_copy 71 = .ok (.iastore, 1) := by decide +kernel
theorem dX1_copy_72 : decode cX1_copy 72 = .ok (.aload_n 0, 1) := by decide +kernel
theorem dX1_copy_73 : decode cX1_copy 73 = .ok (.getfield 24, 3) := by decide +kernel
theorem dX1_copy_76 : decode cX1_copy 76 = .ok (.iload_n 2, 1) := by decide +kernel
theorem dX1_copy_77 : decode cX1_copy 77 = .ok (.aload_n 1, 1) := by decide +kernel
theorem dX1_copy_78 : decode cX1_copy 78 = .ok (.getfield 24, 3) := by decide +kernel
theorem dX1_copy_81 : decode cX1_copy 81 = .ok (.iload_n 2, 1) := by decide +kernel
theorem dX1_copy_82 : decode cX1_copy 82 = .ok (.iaload, 1) := by decide +kernel
theorem dX1_copy_83 : decode cX1_copy 83 = .ok (.iastore, 1) := by decide +kernel
theorem dX1_copy_84 : decode cX1_copy 84 = .ok (.iinc 2 1, 3) := by decide +kernel
theorem dX1_copy_87 : decode cX1_copy 87 = .ok (.goto (-69), 3) := by decide +kernel
theorem dX1_copy_90 : decode cX1_copy 90 = .ok (.iconst 0, 1) := by decide +kernel
theorem dX1_copy_91 : decode cX1_copy 91 = .ok (.istore_n 2, 1) := by decide +kernel
theorem dX1_copy_92 : decode cX1_copy 92 = .ok (.iload_n 2, 1) := by decide +kernel
theorem dX1_copy_93 : decode cX1_copy 93 = .ok (.bipush 24, 2) := by decide +kernel
theorem dX1_copy_95 : decode cX1_copy 95 = .ok (.if_icmp .ge 24, 3) := by decide +kernel
theorem dX1_copy_98 : decode cX1_copy 98 = .ok (.aload_n 0, 1) := by decide +kernel
theorem dX1_copy_99 : decode cX1_copy 99 = .ok (.getfield 29, 3) := by decide +kernel
theorem dX1_copy_102 : decode cX1_copy 102 = .ok (.iload_n 2, 1) := by decide +kernel
theorem dX1_copy_103 : decode cX1_copy 103 = .ok (.aaload, 1) := by decide +kernel
theorem dX1_copy_104 : decode cX1_copy 104 = .ok (.aload_n 1, 1) := by decide +kernel
theorem dX1_copy_105 : decode cX1_copy 105 = .ok (.getfield 29, 3) := by decide +kernel
theorem dX1_copy_108 : decode cX1_copy 108 = .ok (.iload_n 2, 1) := by decide +kernel
theorem dX1_copy_109 : decode cX1_copy 109 = .ok (.aaload, 1) := by decide +kernel
theorem dX1_copy_110 : decode cX1_copy 110 = .ok (.invokevirtual 100, 3) := by decide +kernel
theorem dX1_copy_113 : decode cX1_copy 113 = .ok (.iinc 2 1, 3) := by decide +kernel
theorem dX1_copy_116 : decode cX1_copy 116 = .ok (.goto (-24), 3) := by decide +kernel
theorem dX1_copy_119 : decode cX1_copy 119 = .ok (.return_, 1) := by decide +kernel
theorem dX2_init_0 : decode cX2_init 0 = .ok (.aload_n 0, 1) := by decide +kernel
theorem dX2_init_1 : decode cX2_init 1 = .ok (.invokespecial 5, 3) := by decide +kernel
theorem dX2_init_4 : decode cX2_init 4 = .ok (.aload_n 0, 1) := by decide +kernel
theorem dX2_init_5 : decode cX2_init 5 = .ok (.bipush 14, 2) := by decide +kernel
theorem dX2_init_7 : decode cX2_init 7 = .ok (.newarray .int, 2) := by decide +kernel
theorem dX2_init_9 : decode cX2_init 9 = .ok (.putfield 11, 3) := by decide +kernel
theorem dX2_init_12 : decode cX2_init 12 = .ok (.aload_n 0, 1) := by decide +kernel
theorem dX2_init_13 : decode cX2_init 13 = .ok (.bipush 14, 2) := by decide +kernel
theorem dX2_init_15 : decode cX2_init 15 = .ok (.newarray .int, 2) := by decide +kernel
theorem dX2_init_17 : decode cX2_init 17 = .ok (.putfield 15, 3) := by decide +kernel
theorem dX2_init_20 : decode cX2_init 20 = .ok (.aload_n 0, 1) := by decide +kernel
theorem dX2_init_21 : decode cX2_init 21 = .ok (.bipush 14, 2) := by decide +kernel
theorem dX2_init_23 : decode cX2_init 23 = .ok (.newarray .int, 2) := by decide +kernel
theorem dX2_init_25 : decode cX2_init 25 = .ok (.putfield 18, 3) := by decide +kernel
theorem dX2_init_28 : decode cX2_init 28 = .ok (.aload_n 0, 1) := by decide +kernel
theorem dX2_init_29 : decode cX2_init 29 = .ok (.bipush 14, 2) := by decide +kernel
theorem dX2_init_31 : decode cX2_init 31 = .ok (.newarray .int, 2) := by decide +kernel
theorem dX2_init_33 : decode cX2_init 33 = .ok (.putfield 21, 3) := by decide +kernel
theorem dX2_init_36 : decode cX2_init 36 = .ok (.aload_n 0, 1) := by decide +kernel
theorem dX2_init_37 : decode cX2_init 37 = .ok (.bipush 14, 2) := by decide +kernel
theorem dX2_init_39 : decode cX2_init 39 = .ok (.newarray .int, 2) := by decide +kernel
theorem dX2_init_41 : decode cX2_init 41 = .ok (.putfield 24, 3) := by decide +kernel
theorem dX2_init_44 : decode cX2_init 44 = .ok (.aload_n 0, 1) := by decide +kernel
theorem dX2_init_45 : decode cX2_init 45 = .ok (.sipush 256, 3) := by decide +kernel
theorem dX2_init_48 : decode cX2_init 48 = .ok (.newarray .int, 2) := by decide +kernel
theorem dX2_init_50 : decode cX2_init 50 = .ok (.putfield 27, 3) := by decide +kernel
theorem dX2_init_53 : decode cX2_init 53 = .ok (.aload_n 0, 1) := by decide +kernel
theorem dX2_init_54 : decode cX2_init 54 = .ok (.bipush 64, 2) := by decide +kernel
theorem dX2_init_56 : decode cX2_init 56 = .ok (.newarray .int, 2) := by decide +kernel
theorem dX2_init_58 : decode cX2_init 58 = .ok (.putfield 30, 3) := by decide +kernel
theorem dX2_init_61 : decode cX2_init 61 = .ok (.aload_n 0, 1) := by decide +kernel
theorem dX2_init_62 : decode cX2_init 62 = .ok (.iconst 1, 1) := by decide +kernel
theorem dX2_init_63 : decode cX2_init 63 = .ok (.putfield 33, 3) := by decide +kernel
theorem dX2_init_66 : decode cX2_init 66 = .ok (.aload_n 0, 1) := by decide +kernel
theorem dX2_init_67 : decode cX2_init 67 = .ok (.bipush 6, 2) := by decide +kernel
theorem dX2_init_69 : decode cX2_init 69 = .ok (.putfield 37, 3) := by decide +kernel
theorem dX2_init_72 : decode cX2_init 72 = .ok (.aload_n 0, 1) := by decide +kernel
theorem dX2_init_73 : decode cX2_init 73 = .ok (.iconst 1, 1) := by decide +kernel
theorem dX2_init_74 : decode cX2_init 74 = .ok (.putfield 40, 3) := by decide +kernel
theorem dX2_init_77 : decode cX2_init 77 = .ok (.return_, 1) := by decide +kernel
theorem dX2_clear_0 : decode cX2_clear 0 = .ok (.aload_n 0, 1) := by decide +kernel
theorem dX2_clear_1 : decode cX2_clear 1 = .ok (.iconst 0, 1) := by decide +kernel
theorem dX2_clear_2 : decode cX2_clear 2 = .ok (.putfield 43, 3) := by decide +kernel
theorem dX2_clear_5 : decode cX2_clear 5 = .ok (.aload_n 0, 1) := by decide +kernel
theorem dX2_clear_6 : decode cX2_clear 6 = .ok (.iconst 0, 1) := by decide +kernel
theorem dX2_clear_7 : decode cX2_clear 7 = .ok (.putfield 46, 3) := by decide +kernel
theorem dX2_clear_10 : decode cX2_clear 10 = .ok (.aload_n 0, 1) := by decide +kernel
theorem dX2_clear_11 : decode cX2_clear 11 = .ok (.iconst 1, 1) := by decide +kernel
theorem dX2_clear_12 : decode cX2_clear 12 = .ok (.putfield 33, 3) := by decide +kernel
theorem dX2_clear_15 : decode cX2_clear 15 = .ok (.aload_n 0, 1) := by decide +kernel
theorem dX2_clear_16 : decode cX2_clear 16 = .ok (.bipush 6, 2) := by decide +kernel
theorem dX2_clear_18 : decode cX2_clear 18 = .ok (.putfield 37, 3) := by decide +kernel
theorem dX2_clear_21 : decode cX2_clear 21 = .ok (.aload_n 0, 1) := by decide +kernel
theorem dX2_clear_22 : decode cX2_clear 22 = .ok (.iconst 1, 1) := by decide +kernel
theorem dX2_clear_23 : decode cX2_clear 23 = .ok (.putfield 40, 3) := by decide +kernel
theorem dX2_clear_26 : decode cX2_clear 26 = .ok (.return_, 1) := by decide +kernel
theorem dX2_addClause_0 : decode cX2_addClause 0 = .ok (.aload_n 0, 1) := by decide +kernel
theorem dX2_addClause_1 : decode cX2_addClause 1 = .ok (.getfield 46, 3) := by decide +kernel
theorem dX2_addClause_4 : decode cX2_addClause 4 = .ok (.bipush 14, 2) := by decide +kernel
theorem dX2_addClause_6 : decode cX2_addClause 6 = .ok (.if_icmp .ge 69, 3) := by decide +kernel
theorem dX2_addClause_9 : decode cX2_addClause 9 = .ok (.aload_n 0, 1) := by decide +kernel
theorem dX2_addClause_10 : decode cX2_addClause 10 = .ok (.getfield 11, 3) := by decide +kernel
theorem dX2_addClause_13 : decode cX2_addClause 13 = .ok (.aload_n 0, 1) := by decide +kernel
theorem dX2_addClause_14 : decode cX2_addClause 14 = .ok (.getfield 46, 3) := by decide +kernel
theorem dX2_addClause_17 : decode cX2_addClause 17 = .ok (.iload_n 1, 1) := by decide +kernel
theorem dX2_addClause_18 : decode cX2_addClause 18 = .ok (.iastore, 1) := by decide +kernel
theorem dX2_addClause_19 : decode cX2_addClause 19 = .ok (.aload_n 0, 1) := by decide +kernel
theorem dX2_addClause_20 : decode cX2_addClause 20 = .ok (.getfield 15, 3) := by decide +kernel
theorem dX2_addClause_23 : decode cX2_addClause 23 = .ok (.aload_n 0, 1) := by decide +kernel
theorem dX2_addClause_24 : decode cX2_addClause 24 = .ok (.getfield 46, 3) := by decide +kernel
theorem dX2_addClause_27 : decode cX2_addClause 27 = .ok (.iload_n 2, 1) := by decide +kernel
theorem dX2_addClause_28 : decode cX2_addClause 28 = .ok (.iastore, 1) := by decide +kernel
theorem dX2_addClause_29 : decode cX2_addClause 29 = .ok (.aload_n 0, 1) := by decide +kernel
theorem dX2_addClause_30 : decode cX2_addClause 30 = .ok (.getfield 18, 3) := by decide +kernel
theorem dX2_addClause_33 : decode cX2_addClause 33 = .ok (.aload_n 0, 1) := by decide +kernel
theorem dX2_addClause_34 : decode cX2_addClause 34 = .ok (.getfield 46, 3) := by decide +kernel
theorem dX2_addClause_37 : decode cX2_addClause 37 = .ok (.iload_n 3, 1) := by decide +kernel
theorem dX2_addClause_38 : decode cX2_addClause 38 = .ok (.iastore, 1) := by decide +kernel
theorem dX2_addClause_39 : decode cX2_addClause 39 = .ok (.aload_n 0, 1) := by decide +kernel
theorem dX2_addClause_40 : decode cX2_addClause 40 = .ok (.getfield 21, 3) := by decide +kernel
theorem dX2_addClause_43 : decode cX2_addClause 43 = .ok (.aload_n 0, 1) := by decide +kernel
theorem dX2_addClause_44 : decode cX2_addClause 44 = .ok (.getfield 46, 3) := by decide +kernel
theorem dX2_addClause_47 : decode cX2_addClause 47 = .ok (.aload_n 0, 1) := by decide +kernel
theorem dX2_addClause_48 : decode cX2_addClause 48 = .ok (.getfield 43, 3) := by decide +kernel
theorem dX2_addClause_51 : decode cX2_addClause 51 = .ok (.iastore, 1) := by decide +kernel
theorem dX2_addClause_52 : decode cX2_addClause 52 = .ok (.aload_n 0, 1) := by decide +kernel
theorem dX2_addClause_53 : decode cX2_addClause 53 = .ok (.getfield 24, 3) := by decide +kernel
theorem dX2_addClause_56 : decode cX2_addClause 56 = .ok (.aload_n 0, 1) := by decide +kernel
theorem dX2_addClause_57 : decode cX2_addClause 57 = .ok (.getfield 46, 3) := by decide +kernel
theorem dX2_addClause_60 : decode cX2_addClause 60 = .ok (.aload_n 0, 1) := by decide +kernel
theorem dX2_addClause_61 : decode cX2_addClause 61 = .ok (.getfield 43, 3) := by decide +kernel
theorem dX2_addClause_64 : decode cX2_addClause 64 = .ok (.iastore, 1) := by decide +kernel
theorem dX2_addClause_65 : decode cX2_addClause 65 = .ok (.aload_n 0, 1) := by decide +kernel
theorem dX2_addClause_66 : decode cX2_addClause 66 = .ok (.dup, 1) := by decide +kernel
theorem dX2_addClause_67 : decode cX2_addClause 67 = .ok (.getfield 46, 3) := by decide +kernel
theorem dX2_addClause_70 : decode cX2_addClause 70 = .ok (.iconst 1, 1) := by decide +kernel
theorem dX2_addClause_71 : decode cX2_addClause 71 = .ok (.iadd, 1) := by decide +kernel
theorem dX2_addClause_72 : decode cX2_addClause 72 = .ok (.putfield 46, 3) := by decide +kernel
theorem dX2_addClause_75 : decode cX2_addClause 75 = .ok (.return_, 1) := by decide +kernel
theorem dX2_addStep_0 : decode cX2_addStep 0 = .ok (.aload_n 0, 1) := by decide +kernel
theorem dX2_addStep_1 : decode cX2_addStep 1 = .ok (.getfield 43, 3) := by decide +kernel
theorem dX2_addStep_4 : decode cX2_addStep 4 = .ok (.sipush 256, 3) := by decide +kernel
theorem dX2_addStep_7 : decode cX2_addStep 7 = .ok (.if_icmp .ge 54, 3) := by decide +kernel
theorem dX2_addStep_10 : decode cX2_addStep 10 = .ok (.aload_n 0, 1) := by decide +kernel
theorem dX2_addStep_11 : decode cX2_addStep 11 = .ok (.getfield 46, 3) := by decide +kernel
theorem dX2_addStep_14 : decode cX2_addStep 14 = .ok (.ifCond .le 47, 3) := by decide +kernel
theorem dX2_addStep_17 : decode cX2_addStep 17 = .ok (.aload_n 0, 1) := by decide +kernel
theorem dX2_addStep_18 : decode cX2_addStep 18 = .ok (.getfield 46, 3) := by decide +kernel
theorem dX2_addStep_21 : decode cX2_addStep 21 = .ok (.bipush 14, 2) := by decide +kernel
theorem dX2_addStep_23 : decode cX2_addStep 23 = .ok (.if_icmp .gt 38, 3) := by decide +kernel
theorem dX2_addStep_26 : decode cX2_addStep 26 = .ok (.aload_n 0, 1) := by decide +kernel
theorem dX2_addStep_27 : decode cX2_addStep 27 = .ok (.getfield 27, 3) := by decide +kernel
theorem dX2_addStep_30 : decode cX2_addStep 30 = .ok (.aload_n 0, 1) := by decide +kernel
theorem dX2_addStep_31 : decode cX2_addStep 31 = .ok (.getfield 43, 3) := by decide +kernel
theorem dX2_addStep_34 : decode cX2_addStep 34 = .ok (.iload_n 1, 1) := by decide +kernel
theorem dX2_addStep_35 : decode cX2_addStep 35 = .ok (.iastore, 1) := by decide +kernel
theorem dX2_addStep_36 : decode cX2_addStep 36 = .ok (.aload_n 0, 1) := by decide +kernel
theorem dX2_addStep_37 : decode cX2_addStep 37 = .ok (.dup, 1) := by decide +kernel
theorem dX2_addStep_38 : decode cX2_addStep 38 = .ok (.getfield 43, 3) := by decide +kernel
theorem dX2_addStep_41 : decode cX2_addStep 41 = .ok (.iconst 1, 1) := by decide +kernel
theorem dX2_addStep_42 : decode cX2_addStep 42 = .ok (.iadd, 1) := by decide +kernel
theorem dX2_addStep_43 : decode cX2_addStep 43 = .ok (.putfield 43, 3) := by decide +kernel
theorem dX2_addStep_46 : decode cX2_addStep 46 = .ok (.aload_n 0, 1) := by decide +kernel
theorem dX2_addStep_47 : decode cX2_addStep 47 = .ok (.getfield 24, 3) := by decide +kernel
theorem dX2_addStep_50 : decode cX2_addStep 50 = .ok (.aload_n 0, 1) := by decide +kernel
theorem dX2_addStep_51 : decode cX2_addStep 51 = .ok (.getfield 46, 3) := by decide +kernel
theorem dX2_addStep_54 : decode cX2_addStep 54 = .ok (.iconst 1, 1) := by decide +kernel
theorem dX2_addStep_55 : decode cX2_addStep 55 = .ok (.isub, 1) := by decide +kernel
theorem dX2_addStep_56 : decode cX2_addStep 56 = .ok (.aload_n 0, 1) := by decide +kernel
theorem dX2_addStep_57 : decode cX2_addStep 57 = .ok (.getfield 43, 3) := by decide +kernel
theorem dX2_addStep_60 : decode cX2_addStep 60 = .ok (.iastore, 1) := by decide +kernel
theorem dX2_addStep_61 : decode cX2_addStep 61 = .ok (.return_, 1) := by decide +kernel
theorem dX2_setMeasure_0 : decode cX2_setMeasure 0 = .ok (.iload_n 1, 1) := by decide +kernel
theorem dX2_setMeasure_1 : decode cX2_setMeasure 1 = .ok (.tableswitch 51 3 5 #[27, 35, 43], 27) := by decide +kernel
theorem dX2_setMeasure_28 : decode cX2_setMeasure 28 = .ok (.aload_n 0, 1) := by decide +kernel
theorem dX2_setMeasure_29 : decode cX2_setMeasure 29 = .ok (.iload_n 2, 1) := by decide +kernel
theorem dX2_setMeasure_30 : decode cX2_setMeasure 30 = .ok (.putfield 33, 3) := by decide +kernel
theorem dX2_setMeasure_33 : decode cX2_setMeasure 33 = .ok (.goto 19, 3) := by decide +kernel
theorem dX2_setMeasure_36 : decode cX2_setMeasure 36 = .ok (.aload_n 0, 1) := by decide +kernel
theorem dX2_setMeasure_37 : decode cX2_setMeasure 37 = .ok (.iload_n 2, 1) := by decide +kernel
theorem dX2_setMeasure_38 : decode cX2_setMeasure 38 = .ok (.putfield 37, 3) := by decide +kernel
theorem dX2_setMeasure_41 : decode cX2_setMeasure 41 = .ok (.goto 11, 3) := by decide +kernel
theorem dX2_setMeasure_44 : decode cX2_setMeasure 44 = .ok (.aload_n 0, 1) := by decide +kernel
theorem dX2_setMeasure_45 : decode cX2_setMeasure 45 = .ok (.iload_n 2, 1) := by decide +kernel
theorem dX2_setMeasure_46 : decode cX2_setMeasure 46 = .ok (.putfield 40, 3) := by decide +kernel
theorem dX2_setMeasure_49 : decode cX2_setMeasure 49 = .ok (.goto 3, 3) := by decide +kernel
theorem dX2_setMeasure_52 : decode cX2_setMeasure 52 = .ok (.return_, 1) := by decide +kernel
theorem dX2_has_0 : decode cX2_has 0 = .ok (.iconst 0, 1) := by decide +kernel
theorem dX2_has_1 : decode cX2_has 1 = .ok (.istore_n 2, 1) := by decide +kernel
theorem dX2_has_2 : decode cX2_has 2 = .ok (.iload_n 2, 1) := by decide +kernel
theorem dX2_has_3 : decode cX2_has 3 = .ok (.aload_n 0, 1) := by decide +kernel
theorem dX2_has_4 : decode cX2_has 4 = .ok (.getfield 46, 3) := by decide +kernel
theorem dX2_has_7 : decode cX2_has 7 = .ok (.if_icmp .ge 27, 3) := by decide +kernel
theorem dX2_has_10 : decode cX2_has 10 = .ok (.iload_n 2, 1) := by decide +kernel
theorem dX2_has_11 : decode cX2_has 11 = .ok (.bipush 14, 2) := by decide +kernel
theorem dX2_has_13 : decode cX2_has 13 = .ok (.if_icmp .ge 21, 3) := by decide +kernel
theorem dX2_has_16 : decode cX2_has 16 = .ok (.aload_n 0, 1) := by decide +kernel
theorem dX2_has_17 : decode cX2_has 17 = .ok (.getfield 11, 3) := by decide +kernel
theorem dX2_has_20 : decode cX2_has 20 = .ok (.iload_n 2, 1) := by decide +kernel
theorem dX2_has_21 : decode cX2_has 21 = .ok (.iaload, 1) := by decide +kernel
theorem dX2_has_22 : decode cX2_has 22 = .ok (.iload_n 1, 1) := by decide +kernel
theorem dX2_has_23 : decode cX2_has 23 = .ok (.if_icmp .ne 5, 3) := by decide +kernel
theorem dX2_has_26 : decode cX2_has 26 = .ok (.iconst 1, 1) := by decide +kernel
theorem dX2_has_27 : decode cX2_has 27 = .ok (.ireturn, 1) := by decide +kernel
theorem dX2_has_28 : decode cX2_has 28 = .ok (.iinc 2 1, 3) := by decide +kernel
theorem dX2_has_31 : decode cX2_has 31 = .ok (.goto (-29), 3) := by decide +kernel
theorem dX2_has_34 : decode cX2_has 34 = .ok (.iconst 0, 1) := by decide +kernel
theorem dX2_has_35 : decode cX2_has 35 = .ok (.ireturn, 1) := by decide +kernel
theorem dX2_numberOf_0 : decode cX2_numberOf 0 = .ok (.iload_n 1, 1) := by decide +kernel
theorem dX2_numberOf_1 : decode cX2_numberOf 1 = .ok (.ifCond .lt 18, 3) := by decide +kernel
theorem dX2_numberOf_4 : decode cX2_numberOf 4 = .ok (.iload_n 1, 1) := by decide +kernel
theorem dX2_numberOf_5 : decode cX2_numberOf 5 = .ok (.bipush 14, 2) := by decide +kernel
theorem dX2_numberOf_7 : decode cX2_numberOf 7 = .ok (.if_icmp .ge 12, 3) := by decide +kernel
theorem dX2_numberOf_10 : decode cX2_numberOf 10 = .ok (.aload_n 0, 1) := by decide +kernel
theorem dX2_numberOf_11 : decode cX2_numberOf 11 = .ok (.getfield 18, 3) := by decide +kernel
theorem dX2_numberOf_14 : decode cX2_numberOf 14 = .ok (.iload_n 1, 1) := by decide +kernel
theorem dX2_numberOf_15 : decode cX2_numberOf 15 = .ok (.iaload, 1) := by decide +kernel
theorem dX2_numberOf_16 : decode cX2_numberOf 16 = .ok (.goto 4, 3) := by decide +kernel
theorem dX2_numberOf_19 : decode cX2_numberOf 19 = .ok (.iconst 0, 1) := by decide +kernel
theorem dX2_numberOf_20 : decode cX2_numberOf 20 = .ok (.ireturn, 1) := by decide +kernel
set_option maxRecDepth 20000 in
theorem ggX2_weight_X2_slotOf : GoodIn wsX2_weight wsX2_slotOf := goodIn_r _ [7, 8, 9, 27, 28, 29, 30, 31, 32, 33, 34, 35, 36, 37, 38] (by decide +kernel) (by decide +kernel)
set_option maxRecDepth 20000 in
theorem gX2_weight_X2_slotOf : GoodIn wsX2_weight (wsV RX2 49 RX2 yX2_slotOf wsX2_slotOf) := goodIn_app (goodIn_of _ (by decide +kernel)) ggX2_weight_X2_slotOf
set_option maxRecDepth 20000 in
theorem ggX2_weight_X2_holds : GoodIn wsX2_weight wsX2_holds := goodIn_r _ [13, 14, 15, 16, 17, 18, 19, 20, 21, 22, 23, 24, 25, 6, 26, 27, 28, 29, 30, 31, 32, 33, 34, 35, 36, 37, 38, 39] (by decide +kernel) (by decide +kernel)
set_option maxRecDepth 20000 in
theorem gX2_weight_X2_holds : GoodIn wsX2_weight (wsV RX2 53 RX2 yX2_holds wsX2_holds) := goodIn_app (goodIn_of _ (by decide +kernel)) ggX2_weight_X2_holds
theorem dX2_weight_0 : decode cX2_weight 0 = .ok (.iconst 0, 1) := by decide +kernel
theorem dX2_weight_1 : decode cX2_weight 1 = .ok (.istore_n 3, 1) := by decide +kernel
theorem dX2_weight_2 : decode cX2_weight 2 = .ok (.iload_n 3, 1) := by decide +kernel
theorem dX2_weight_3 : decode cX2_weight 3 = .ok (.aload_n 0, 1) := by decide +kernel
theorem dX2_weight_4 : decode cX2_weight 4 = .ok (.getfield 46, 3) := by decide +kernel
theorem dX2_weight_7 : decode cX2_weight 7 = .ok (.if_icmp .ge 40, 3) := by decide +kernel
theorem dX2_weight_10 : decode cX2_weight 10 = .ok (.iload_n 3, 1) := by decide +kernel
theorem dX2_weight_11 : decode cX2_weight 11 = .ok (.bipush 14, 2) := by decide +kernel
theorem dX2_weight_13 : decode cX2_weight 13 = .ok (.if_icmp .ge 34, 3) := by decide +kernel
theorem dX2_weight_16 : decode cX2_weight 16 = .ok (.aload_n 0, 1) := by decide +kernel
theorem dX2_weight_17 : decode cX2_weight 17 = .ok (.iload_n 3, 1) := by decide +kernel
theorem dX2_weight_18 : decode cX2_weight 18 = .ok (.invokevirtual 49, 3) := by decide +kernel
theorem dX2_weight_21 : decode cX2_weight 21 = .ok (.iload_n 1, 1) := by decide +kernel
theorem dX2_weight_22 : decode cX2_weight 22 = .ok (.if_icmp .ne 19, 3) := by decide +kernel
theorem dX2_weight_25 : decode cX2_weight 25 = .ok (.aload_n 0, 1) := by decide +kernel
theorem dX2_weight_26 : decode cX2_weight 26 = .ok (.iload_n 3, 1) := by decide +kernel
theorem dX2_weight_27 : decode cX2_weight 27 = .ok (.aload_n 2, 1) := by decide +kernel
theorem dX2_weight_28 : decode cX2_weight 28 = .ok (.invokevirtual 53, 3) := by decide +kernel
theorem dX2_weight_31 : decode cX2_weight 31 = .ok (.ifCond .eq 10, 3) := by decide +kernel
theorem dX2_weight_34 : decode cX2_weight 34 = .ok (.aload_n 0, 1) := by decide +kernel
theorem dX2_weight_35 : decode cX2_weight 35 = .ok (.getfield 18, 3) := by decide +kernel
theorem dX2_weight_38 : decode cX2_weight 38 = .ok (.iload_n 3, 1) := by decide +kernel
theorem dX2_weight_39 : decode cX2_weight 39 = .ok (.iaload, 1) := by decide +kernel
theorem dX2_weight_40 : decode cX2_weight 40 = .ok (.ireturn, 1) := by decide +kernel
theorem dX2_weight_41 : decode cX2_weight 41 = .ok (.iinc 3 1, 3) := by decide +kernel
theorem dX2_weight_44 : decode cX2_weight 44 = .ok (.goto (-42), 3) := by decide +kernel
theorem dX2_weight_47 : decode cX2_weight 47 = .ok (.iconst 0, 1) := by decide +kernel
theorem dX2_weight_48 : decode cX2_weight 48 = .ok (.ireturn, 1) := by decide +kernel
set_option maxRecDepth 20000 in
theorem ggX2_weighing_X2_slotOf : GoodIn wsX2_weighing wsX2_slotOf := goodIn_r _ [6, 7, 8, 26, 27, 28, 29, 30, 31, 32, 33, 34, 35, 36, 37] (by decide +kernel) (by decide +kernel)
set_option maxRecDepth 20000 in
theorem gX2_weighing_X2_slotOf : GoodIn wsX2_weighing (wsV RX2 49 RX2 yX2_slotOf wsX2_slotOf) := goodIn_app (goodIn_of _ (by decide +kernel)) ggX2_weighing_X2_slotOf
set_option maxRecDepth 20000 in
theorem ggX2_weighing_X2_holds : GoodIn wsX2_weighing wsX2_holds := goodIn_r _ [12, 13, 14, 15, 16, 17, 18, 19, 20, 21, 22, 23, 24, 5, 25, 26, 27, 28, 29, 30, 31, 32, 33, 34, 35, 36, 37, 38] (by decide +kernel) (by decide +kernel)
set_option maxRecDepth 20000 in
theorem gX2_weighing_X2_holds : GoodIn wsX2_weighing (wsV RX2 53 RX2 yX2_holds wsX2_holds) := goodIn_app (goodIn_of _ (by decide +kernel)) ggX2_weighing_X2_holds
theorem dX2_weighing_0 : decode cX2_weighing 0 = .ok (.iconst 0, 1) := by decide +kernel
theorem dX2_weighing_1 : decode cX2_weighing 1 = .ok (.istore_n 2, 1) := by decide +kernel
theorem dX2_weighing_2 : decode cX2_weighing 2 = .ok (.iconst 0, 1) := by decide +kernel
theorem dX2_weighing_3 : decode cX2_weighing 3 = .ok (.istore_n 3, 1) := by decide +kernel
theorem dX2_weighing_4 : decode cX2_weighing 4 = .ok (.iload_n 3, 1) := by decide +kernel
theorem dX2_weighing_5 : decode cX2_weighing 5 = .ok (.aload_n 0, 1) := by decide +kernel
theorem dX2_weighing_6 : decode cX2_weighing 6 = .ok (.getfield 46, 3) := by decide +kernel
theorem dX2_weighing_9 : decode cX2_weighing 9 = .ok (.if_icmp .ge 59, 3) := by decide +kernel
theorem dX2_weighing_12 : decode cX2_weighing 12 = .ok (.iload_n 3, 1) := by decide +kernel
theorem dX2_weighing_13 : decode cX2_weighing 13 = .ok (.bipush 14, 2) := by decide +kernel
theorem dX2_weighing_15 : decode cX2_weighing 15 = .ok (.if_icmp .ge 53, 3) := by decide +kernel
theorem dX2_weighing_18 : decode cX2_weighing 18 = .ok (.iconst 4, 1) := by decide +kernel
theorem dX2_weighing_19 : decode cX2_weighing 19 = .ok (.aload_n 0, 1) := by decide +kernel
theorem dX2_weighing_20 : decode cX2_weighing 20 = .ok (.iload_n 3, 1) := by decide +kernel
theorem dX2_weighing_21 : decode cX2_weighing 21 = .ok (.invokevirtual 49, 3) := by decide +kernel
theorem dX2_weighing_24 : decode cX2_weighing 24 = .ok (.imul, 1) := by decide +kernel
theorem dX2_weighing_25 : decode cX2_weighing 25 = .ok (.istore 4, 2) := by decide +kernel
theorem dX2_weighing_27 : decode cX2_weighing 27 = .ok (.iload 4, 2) := by decide +kernel
theorem dX2_weighing_29 : decode cX2_weighing 29 = .ok (.bipush 32, 2) := by decide +kernel
theorem dX2_weighing_31 : decode cX2_weighing 31 = .ok (.if_icmp .ge 31, 3) := by decide +kernel
theorem dX2_weighing_34 : decode cX2_weighing 34 = .ok (.iload_n 2, 1) := by decide +kernel
theorem dX2_weighing_35 : decode cX2_weighing 35 = .ok (.iload 4, 2) := by decide +kernel
theorem dX2_weighing_37 : decode cX2_weighing 37 = .ok (.ishr, 1) := by decide +kernel
theorem dX2_weighing_38 : decode cX2_weighing 38 = .ok (.bipush 15, 2) := by decide +kernel
theorem dX2_weighing_40 : decode cX2_weighing 40 = .ok (.iand, 1) := by decide +kernel
theorem dX2_weighing_41 : decode cX2_weighing 41 = .ok (.ifCond .ne 21, 3) := by decide +kernel
theorem dX2_weighing_44 : decode cX2_weighing 44 = .ok (.aload_n 0, 1) := by decide +kernel
theorem dX2_weighing_45 : decode cX2_weighing 45 = .ok (.iload_n 3, 1) := by decide +kernel
theorem dX2_weighing_46 : decode cX2_weighing 46 = .ok (.aload_n 1, 1) := by decide +kernel
theorem dX2_weighing_47 : decode cX2_weighing 47 = .ok (.invokevirtual 53, 3) := by decide +kernel
theorem dX2_weighing_50 : decode cX2_weighing 50 = .ok (.ifCond .eq 12, 3) := by decide +kernel
theorem dX2_weighing_53 : decode cX2_weighing 53 = .ok (.iload_n 2, 1) := by decide +kernel
theorem dX2_weighing_54 : decode cX2_weighing 54 = .ok (.iload_n 3, 1) := by decide +kernel
theorem dX2_weighing_55 : decode cX2_weighing 55 = .ok (.iconst 1, 1) := by decide +kernel
theorem dX2_weighing_56 : decode cX2_weighing 56 = .ok (.iadd, 1) := by decide +kernel
theorem dX2_weighing_57 : decode cX2_weighing 57 = .ok (.iload 4, 2) := by decide +kernel
theorem dX2_weighing_59 : decode cX2_weighing 59 = .ok (.ishl, 1) := by decide +kernel
theorem dX2_weighing_60 : decode cX2_weighing 60 = .ok (.ior, 1) := by decide +kernel
theorem dX2_weighing_61 : decode cX2_weighing 61 = .ok (.istore_n 2, 1) := by decide +kernel
theorem dX2_weighing_62 : decode cX2_weighing 62 = .ok (.iinc 3 1, 3) := by decide +kernel
theorem dX2_weighing_65 : decode cX2_weighing 65 = .ok (.goto (-61), 3) := by decide +kernel
theorem dX2_weighing_68 : decode cX2_weighing 68 = .ok (.iload_n 2, 1) := by decide +kernel
theorem dX2_weighing_69 : decode cX2_weighing 69 = .ok (.ireturn, 1) := by decide +kernel
set_option maxRecDepth 20000 in
theorem ggX2_letsRefuse_X2_holds : GoodIn wsX2_letsRefuse wsX2_holds := goodIn_r _ [7, 8, 9, 10, 11, 12, 13, 14, 15, 16, 17, 18, 19, 6, 20, 21, 22, 23, 24, 25, 26, 27, 28, 29, 30, 31, 32, 33] (by decide +kernel) (by decide +kernel)
set_option maxRecDepth 20000 in
theorem gX2_letsRefuse_X2_holds : GoodIn wsX2_letsRefuse (wsV RX2 53 RX2 yX2_holds wsX2_holds) := goodIn_app (goodIn_of _ (by decide +kernel)) ggX2_letsRefuse_X2_holds
theorem dX2_letsRefuse_0 : decode cX2_letsRefuse 0 = .ok (.iconst 0, 1) := by decide +kernel
theorem dX2_letsRefuse_1 : decode cX2_letsRefuse 1 = .ok (.istore_n 2, 1) := by decide +kernel
theorem dX2_letsRefuse_2 : decode cX2_letsRefuse 2 = .ok (.iload_n 2, 1) := by decide +kernel
theorem dX2_letsRefuse_3 : decode cX2_letsRefuse 3 = .ok (.aload_n 0, 1) := by decide +kernel
theorem dX2_letsRefuse_4 : decode cX2_letsRefuse 4 = .ok (.getfield 46, 3) := by decide +kernel
theorem dX2_letsRefuse_7 : decode cX2_letsRefuse 7 = .ok (.if_icmp .ge 36, 3) := by decide +kernel
theorem dX2_letsRefuse_10 : decode cX2_letsRefuse 10 = .ok (.iload_n 2, 1) := by decide +kernel
theorem dX2_letsRefuse_11 : decode cX2_letsRefuse 11 = .ok (.bipush 14, 2) := by decide +kernel
theorem dX2_letsRefuse_13 : decode cX2_letsRefuse 13 = .ok (.if_icmp .ge 30, 3) := by decide +kernel
theorem dX2_letsRefuse_16 : decode cX2_letsRefuse 16 = .ok (.aload_n 0, 1) := by decide +kernel
theorem dX2_letsRefuse_17 : decode cX2_letsRefuse 17 = .ok (.getfield 11, 3) := by decide +kernel
theorem dX2_letsRefuse_20 : decode cX2_letsRefuse 20 = .ok (.iload_n 2, 1) := by decide +kernel
theorem dX2_letsRefuse_21 : decode cX2_letsRefuse 21 = .ok (.iaload, 1) := by decide +kernel
theorem dX2_letsRefuse_22 : decode cX2_letsRefuse 22 = .ok (.iconst 2, 1) := by decide +kernel
theorem dX2_letsRefuse_23 : decode cX2_letsRefuse 23 = .ok (.if_icmp .ne 14, 3) := by decide +kernel
theorem dX2_letsRefuse_26 : decode cX2_letsRefuse 26 = .ok (.aload_n 0, 1) := by decide +kernel
theorem dX2_letsRefuse_27 : decode cX2_letsRefuse 27 = .ok (.iload_n 2, 1) := by decide +kernel
theorem dX2_letsRefuse_28 : decode cX2_letsRefuse 28 = .ok (.aload_n 1, 1) := by decide +kernel
theorem dX2_letsRefuse_29 : decode cX2_letsRefuse 29 = .ok (.invokevirtual 53, 3) := by decide +kernel
theorem dX2_letsRefuse_32 : decode cX2_letsRefuse 32 = .ok (.ifCond .eq 5, 3) := by decide +kernel
theorem dX2_letsRefuse_35 : decode cX2_letsRefuse 35 = .ok (.iconst 1, 1) := by decide +kernel
theorem dX2_letsRefuse_36 : decode cX2_letsRefuse 36 = .ok (.ireturn, 1) := by decide +kernel
theorem dX2_letsRefuse_37 : decode cX2_letsRefuse 37 = .ok (.iinc 2 1, 3) := by decide +kernel
theorem dX2_letsRefuse_40 : decode cX2_letsRefuse 40 = .ok (.goto (-38), 3) := by decide +kernel
theorem dX2_letsRefuse_43 : decode cX2_letsRefuse 43 = .ok (.iconst 0, 1) := by decide +kernel
theorem dX2_letsRefuse_44 : decode cX2_letsRefuse 44 = .ok (.ireturn, 1) := by decide +kernel
theorem dX2_countOfBacks_0 : decode cX2_countOfBacks 0 = .ok (.iconst 0, 1) := by decide +kernel
theorem dX2_countOfBacks_1 : decode cX2_countOfBacks 1 = .ok (.istore_n 2, 1) := by decide +kernel
theorem dX2_countOfBacks_2 : decode cX2_countOfBacks 2 = .ok (.iconst 0, 1) := by decide +kernel
theorem dX2_countOfBacks_3 : decode cX2_countOfBacks 3 = .ok (.istore_n 3, 1) := by decide +kernel
theorem dX2_countOfBacks_4 : decode cX2_countOfBacks 4 = .ok (.iload_n 3, 1) := by decide +kernel
theorem dX2_countOfBacks_5 : decode cX2_countOfBacks 5 = .ok (.aload_n 0, 1) := by decide +kernel
theorem dX2_countOfBacks_6 : decode cX2_countOfBacks 6 = .ok (.getfield 46, 3) := by decide +kernel
theorem dX2_countOfBacks_9 : decode cX2_countOfBacks 9 = .ok (.if_icmp .ge 33, 3) := by decide +kernel
theorem dX2_countOfBacks_12 : decode cX2_countOfBacks 12 = .ok (.iload_n 3, 1) := by decide +kernel
theorem dX2_countOfBacks_13 : decode cX2_countOfBacks 13 = .ok (.bipush 14, 2) := by decide +kernel
theorem dX2_countOfBacks_15 : decode cX2_countOfBacks 15 = .ok (.if_icmp .ge 27, 3) := by decide +kernel
theorem dX2_countOfBacks_18 : decode cX2_countOfBacks 18 = .ok (.aload_n 0, 1) := by decide +kernel
theorem dX2_countOfBacks_19 : decode cX2_countOfBacks 19 = .ok (.getfield 11, 3) := by decide +kernel
theorem dX2_countOfBacks_22 : decode cX2_countOfBacks 22 = .ok (.iload_n 3, 1) := by decide +kernel
theorem dX2_countOfBacks_23 : decode cX2_countOfBacks 23 = .ok (.iaload, 1) := by decide +kernel
theorem dX2_countOfBacks_24 : decode cX2_countOfBacks 24 = .ok (.iconst 1, 1) := by decide +kernel
theorem dX2_countOfBacks_25 : decode cX2_countOfBacks 25 = .ok (.if_icmp .ne 11, 3) := by decide +kernel
theorem dX2_countOfBacks_28 : decode cX2_countOfBacks 28 = .ok (.iload_n 2, 1) := by decide +kernel
theorem dX2_countOfBacks_29 : decode cX2_countOfBacks 29 = .ok (.iload_n 1, 1) := by decide +kernel
