set_option maxRecDepth 20000 in
theorem ggX5_init_X9_init : GoodIn wsX5_init wsX9_init := goodIn_r _ [13, 14, 2, 3, 15, 16, 17, 18, 32, 33, 34, 35] (by decide +kernel) (by decide +kernel)
set_option maxRecDepth 20000 in
theorem gX5_init_X9_init_n11 : GoodIn wsX5_init (wsX9_init) := ggX5_init_X9_init
set_option maxRecDepth 20000 in
theorem ggX5_init_X2_init : GoodIn wsX5_init wsX2_init := goodIn_r _ [20, 21, 2, 3, 15, 22, 23, 24, 25, 26, 27, 28, 29, 30, 31, 42, 43, 44, 45, 46, 47, 48, 49, 50, 51, 52, 53] (by decide +kernel) (by decide +kernel)
set_option maxRecDepth 20000 in
theorem gX5_init_X2_init_n20 : GoodIn wsX5_init (wsX2_init) := ggX5_init_X2_init
theorem dX5_init_0 : decode cX5_init 0 = .ok (.aload_n 0, 1) := by decide +kernel
theorem dX5_init_1 : decode cX5_init 1 = .ok (.invokespecial 3, 3) := by decide +kernel
theorem dX5_init_4 : decode cX5_init 4 = .ok (.aload_n 0, 1) := by decide +kernel
theorem dX5_init_5 : decode cX5_init 5 = .ok (.new 9, 3) := by decide +kernel
theorem dX5_init_8 : decode cX5_init 8 = .ok (.dup, 1) := by decide +kernel
theorem dX5_init_9 : decode cX5_init 9 = .ok (.invokespecial 11, 3) := by decide +kernel
theorem dX5_init_12 : decode cX5_init 12 = .ok (.putfield 12, 3) := by decide +kernel
theorem dX5_init_15 : decode cX5_init 15 = .ok (.aload_n 0, 1) := by decide +kernel
theorem dX5_init_16 : decode cX5_init 16 = .ok (.new 18, 3) := by decide +kernel
theorem dX5_init_19 : decode cX5_init 19 = .ok (.dup, 1) := by decide +kernel
theorem dX5_init_20 : decode cX5_init 20 = .ok (.invokespecial 20, 3) := by decide +kernel
theorem dX5_init_23 : decode cX5_init 23 = .ok (.putfield 21, 3) := by decide +kernel
theorem dX5_init_26 : decode cX5_init 26 = .ok (.return_, 1) := by decide +kernel
set_option maxRecDepth 20000 in
theorem ggX5_read_X9_take : GoodIn wsX5_read wsX9_take := goodIn_r _ [11, 12, 13, 14, 15, 16, 17, 18, 19, 20, 21, 22, 10, 23, 24, 25, 26, 27, 28, 29, 30, 31, 32, 33, 34, 35, 36, 37, 38, 39, 40, 41, 42, 43, 44, 45, 46, 47, 48, 49, 50, 51, 52, 53, 54, 55, 56, 57, 58, 59, 60, 61, 62, 63, 64, 65, 66, 67, 68, 69, 70, 71, 72, 73, 74, 75, 76, 77, 78, 79, 80, 81, 82, 83, 84, 85, 86, 87, 88, 89, 90, 91, 92, 93, 94, 95, 96, 97, 208, 209, 210, 211, 212, 213] (by decide +kernel) (by decide +kernel)
set_option maxRecDepth 20000 in
theorem gX5_read_X9_take : GoodIn wsX5_read (wsV RX5 25 RX9 yX9_take wsX9_take) := goodIn_app (goodIn_of _ (by decide +kernel)) ggX5_read_X9_take
set_option maxRecDepth 20000 in
theorem ggX5_read_X2_clear : GoodIn wsX5_read wsX2_clear := goodIn_r _ [102, 103, 104, 105, 106, 107, 214, 215, 216, 217, 218, 219, 220, 221, 222, 223, 224, 225] (by decide +kernel) (by decide +kernel)
set_option maxRecDepth 20000 in
theorem gX5_read_X2_clear : GoodIn wsX5_read (wsV RX5 29 RX2 yX2_clear wsX2_clear) := goodIn_app (goodIn_of _ (by decide +kernel)) ggX5_read_X2_clear
set_option maxRecDepth 20000 in
theorem ggX5_read_X5_readHead : GoodIn wsX5_read wsX5_readHead := goodIn_r _ [112, 2, 113, 3, 6, 114, 115, 116, 111, 117, 1, 118, 119, 120, 10, 121, 12, 83, 122, 123, 124, 125, 5, 126, 127, 128, 129, 84, 130, 131, 132, 101, 133, 104, 134, 135, 136, 137, 138, 139, 140, 141, 142, 85, 143, 144, 145, 146, 147, 148, 149, 150, 151, 152, 153, 154, 155, 156, 103, 157, 158, 159, 160, 161, 162, 163, 164, 165, 166, 167, 168, 169, 105, 106, 107, 202, 203, 204, 205, 206, 207, 214, 215, 216, 217, 218, 219, 220, 221, 222, 223, 224, 225, 208, 209, 210, 211] (by decide +kernel) (by decide +kernel)
set_option maxRecDepth 20000 in
theorem gX5_read_X5_readHead : GoodIn wsX5_read (wsV RX5 42 RX5 yX5_readHead wsX5_readHead) := goodIn_app (goodIn_of _ (by decide +kernel)) ggX5_read_X5_readHead
set_option maxRecDepth 20000 in
theorem ggX5_read_X5_readTest : GoodIn wsX5_read wsX5_readTest := goodIn_r _ [173, 2, 174, 175, 176, 111, 158, 159, 160, 161, 1, 3, 118, 119, 120, 10, 121, 12, 83, 177, 178, 179, 101, 180, 103, 104, 181, 157, 182, 183, 184, 185, 186, 187, 188, 189, 190, 114, 115, 116, 117, 122, 123, 124, 125, 5, 126, 127, 128, 129, 84, 139, 140, 141, 142, 85, 191, 192, 193, 194, 4, 195, 196, 197, 170, 171, 172, 198, 199, 200, 201, 202, 203, 204, 205, 206, 207, 208, 209, 210, 211, 214, 215, 216, 217, 218, 219, 220, 221, 222, 223, 224, 225] (by decide +kernel) (by decide +kernel)
set_option maxRecDepth 20000 in
theorem gX5_read_X5_readTest : GoodIn wsX5_read (wsV RX5 50 RX5 yX5_readTest wsX5_readTest) := goodIn_app (goodIn_of _ (by decide +kernel)) ggX5_read_X5_readTest
set_option maxRecDepth 20000 in
theorem ggX5_read_X9_kindAt : GoodIn wsX5_read wsX9_kindAt := goodIn_r _ [121, 12, 83, 208, 209, 210, 211] (by decide +kernel) (by decide +kernel)
set_option maxRecDepth 20000 in
theorem gX5_read_X9_kindAt : GoodIn wsX5_read (wsV RX5 54 RX9 yX9_kindAt wsX9_kindAt) := goodIn_app (goodIn_of _ (by decide +kernel)) ggX5_read_X9_kindAt
set_option maxRecDepth 20000 in
theorem ggX5_read_X5_takes : GoodIn wsX5_read wsX5_takes := goodIn_r _ [161, 1, 3, 118, 119, 120, 10, 121, 12, 83, 202, 203, 204, 205, 206, 207, 208, 209, 210, 211] (by decide +kernel) (by decide +kernel)
set_option maxRecDepth 20000 in
theorem gX5_read_X5_takes : GoodIn wsX5_read (wsV RX5 58 RX5 yX5_takes wsX5_takes) := goodIn_app (goodIn_of _ (by decide +kernel)) ggX5_read_X5_takes
set_option maxRecDepth 20000 in
theorem ggX5_read_X5_fail : GoodIn wsX5_read wsX5_fail := goodIn_r _ [125, 1, 3, 5, 126, 127, 128, 10, 129, 12, 84, 202, 203, 204, 205, 206, 207, 208, 209, 210, 211] (by decide +kernel) (by decide +kernel)
set_option maxRecDepth 20000 in
theorem gX5_read_X5_fail : GoodIn wsX5_read (wsV RX5 61 RX5 yX5_fail wsX5_fail) := goodIn_app (goodIn_of _ (by decide +kernel)) ggX5_read_X5_fail
theorem dX5_read_0 : decode cX5_read 0 = .ok (.aload_n 0, 1) := by decide +kernel
theorem dX5_read_1 : decode cX5_read 1 = .ok (.getfield 12, 3) := by decide +kernel
theorem dX5_read_4 : decode cX5_read 4 = .ok (.aload_n 1, 1) := by decide +kernel
theorem dX5_read_5 : decode cX5_read 5 = .ok (.invokevirtual 25, 3) := by decide +kernel
theorem dX5_read_8 : decode cX5_read 8 = .ok (.aload_n 0, 1) := by decide +kernel
theorem dX5_read_9 : decode cX5_read 9 = .ok (.aload_n 2, 1) := by decide +kernel
theorem dX5_read_10 : decode cX5_read 10 = .ok (.putfield 21, 3) := by decide +kernel
theorem dX5_read_13 : decode cX5_read 13 = .ok (.aload_n 0, 1) := by decide +kernel
theorem dX5_read_14 : decode cX5_read 14 = .ok (.getfield 21, 3) := by decide +kernel
theorem dX5_read_17 : decode cX5_read 17 = .ok (.invokevirtual 29, 3) := by decide +kernel
theorem dX5_read_20 : decode cX5_read 20 = .ok (.aload_n 0, 1) := by decide +kernel
theorem dX5_read_21 : decode cX5_read 21 = .ok (.iconst 0, 1) := by decide +kernel
theorem dX5_read_22 : decode cX5_read 22 = .ok (.putfield 32, 3) := by decide +kernel
theorem dX5_read_25 : decode cX5_read 25 = .ok (.aload_n 0, 1) := by decide +kernel
theorem dX5_read_26 : decode cX5_read 26 = .ok (.iconst 0, 1) := by decide +kernel
theorem dX5_read_27 : decode cX5_read 27 = .ok (.putfield 36, 3) := by decide +kernel
theorem dX5_read_30 : decode cX5_read 30 = .ok (.aload_n 0, 1) := by decide +kernel
theorem dX5_read_31 : decode cX5_read 31 = .ok (.iconst 0, 1) := by decide +kernel
theorem dX5_read_32 : decode cX5_read 32 = .ok (.putfield 39, 3) := by decide +kernel
theorem dX5_read_35 : decode cX5_read 35 = .ok (.iconst 0, 1) := by decide +kernel
theorem dX5_read_36 : decode cX5_read 36 = .ok (.istore_n 3, 1) := by decide +kernel
theorem dX5_read_37 : decode cX5_read 37 = .ok (.iload_n 3, 1) := by decide +kernel
theorem dX5_read_38 : decode cX5_read 38 = .ok (.bipush 14, 2) := by decide +kernel
theorem dX5_read_40 : decode cX5_read 40 = .ok (.if_icmp .gt 75, 3) := by decide +kernel
theorem dX5_read_43 : decode cX5_read 43 = .ok (.aload_n 0, 1) := by decide +kernel
theorem dX5_read_44 : decode cX5_read 44 = .ok (.invokevirtual 42, 3) := by decide +kernel
theorem dX5_read_47 : decode cX5_read 47 = .ok (.ifCond .eq 18, 3) := by decide +kernel
theorem dX5_read_50 : decode cX5_read 50 = .ok (.aload_n 0, 1) := by decide +kernel
theorem dX5_read_51 : decode cX5_read 51 = .ok (.getfield 46, 3) := by decide +kernel
theorem dX5_read_54 : decode cX5_read 54 = .ok (.ifCond .eq 16, 3) := by decide +kernel
theorem dX5_read_57 : decode cX5_read 57 = .ok (.aload_n 0, 1) := by decide +kernel
theorem dX5_read_58 : decode cX5_read 58 = .ok (.iconst 0, 1) := by decide +kernel
theorem dX5_read_59 : decode cX5_read 59 = .ok (.invokevirtual 50, 3) := by decide +kernel
theorem dX5_read_62 : decode cX5_read 62 = .ok (.ifCond .ne 8, 3) := by decide +kernel
theorem dX5_read_65 : decode cX5_read 65 = .ok (.aload_n 0, 1) := by decide +kernel
theorem dX5_read_66 : decode cX5_read 66 = .ok (.getfield 39, 3) := by decide +kernel
theorem dX5_read_69 : decode cX5_read 69 = .ok (.ireturn, 1) := by decide +kernel
theorem dX5_read_70 : decode cX5_read 70 = .ok (.aload_n 0, 1) := by decide +kernel
theorem dX5_read_71 : decode cX5_read 71 = .ok (.getfield 12, 3) := by decide +kernel
theorem dX5_read_74 : decode cX5_read 74 = .ok (.aload_n 0, 1) := by decide +kernel
theorem dX5_read_75 : decode cX5_read 75 = .ok (.getfield 32, 3) := by decide +kernel
theorem dX5_read_78 : decode cX5_read 78 = .ok (.invokevirtual 54, 3) := by decide +kernel
theorem dX5_read_81 : decode cX5_read 81 = .ok (.bipush 31, 2) := by decide +kernel
theorem dX5_read_83 : decode cX5_read 83 = .ok (.if_icmp .ne 5, 3) := by decide +kernel
theorem dX5_read_86 : decode cX5_read 86 = .ok (.iconst 0, 1) := by decide +kernel
theorem dX5_read_87 : decode cX5_read 87 = .ok (.ireturn, 1) := by decide +kernel
theorem dX5_read_88 : decode cX5_read 88 = .ok (.aload_n 0, 1) := by decide +kernel
theorem dX5_read_89 : decode cX5_read 89 = .ok (.sipush 315, 3) := by decide +kernel
theorem dX5_read_92 : decode cX5_read 92 = .ok (.invokevirtual 58, 3) := by decide +kernel
theorem dX5_read_95 : decode cX5_read 95 = .ok (.ifCond .ne 14, 3) := by decide +kernel
theorem dX5_read_98 : decode cX5_read 98 = .ok (.aload_n 0, 1) := by decide +kernel
theorem dX5_read_99 : decode cX5_read 99 = .ok (.iconst 0, 1) := by decide +kernel
theorem dX5_read_100 : decode cX5_read 100 = .ok (.invokevirtual 61, 3) := by decide +kernel
theorem dX5_read_103 : decode cX5_read 103 = .ok (.pop, 1) := by decide +kernel
theorem dX5_read_104 : decode cX5_read 104 = .ok (.aload_n 0, 1) := by decide +kernel
theorem dX5_read_105 : decode cX5_read 105 = .ok (.getfield 39, 3) := by decide +kernel
theorem dX5_read_108 : decode cX5_read 108 = .ok (.ireturn, 1) := by decide +kernel
theorem dX5_read_109 : decode cX5_read 109 = .ok (.iinc 3 1, 3) := by decide +kernel
theorem dX5_read_112 : decode cX5_read 112 = .ok (.goto (-75), 3) := by decide +kernel
theorem dX5_read_115 : decode cX5_read 115 = .ok (.aload_n 0, 1) := by decide +kernel
theorem dX5_read_116 : decode cX5_read 116 = .ok (.getfield 39, 3) := by decide +kernel
theorem dX5_read_119 : decode cX5_read 119 = .ok (.ireturn, 1) := by decide +kernel
set_option maxRecDepth 20000 in
theorem ggX5_readHead_X5_wordFrom : GoodIn wsX5_readHead wsX5_wordFrom := goodIn_r _ [9, 10, 3, 11, 12, 13, 14, 15, 16, 17, 75, 76, 77, 78, 79, 80, 93, 94, 95, 96] (by decide +kernel) (by decide +kernel)
set_option maxRecDepth 20000 in
theorem gX5_readHead_X5_wordFrom : GoodIn wsX5_readHead (wsV RX5 64 RX5 yX5_wordFrom wsX5_wordFrom) := goodIn_app (goodIn_of _ (by decide +kernel)) ggX5_readHead_X5_wordFrom
set_option maxRecDepth 20000 in
theorem ggX5_readHead_X5_fail : GoodIn wsX5_readHead wsX5_fail := goodIn_r _ [21, 10, 3, 22, 23, 24, 25, 14, 26, 16, 27, 75, 76, 77, 78, 79, 80, 93, 94, 95, 96] (by decide +kernel) (by decide +kernel)
set_option maxRecDepth 20000 in
theorem gX5_readHead_X5_fail : GoodIn wsX5_readHead (wsV RX5 61 RX5 yX5_fail wsX5_fail) := goodIn_app (goodIn_of _ (by decide +kernel)) ggX5_readHead_X5_fail
set_option maxRecDepth 20000 in
theorem ggX5_readHead_X2_has : GoodIn wsX5_readHead wsX2_has := goodIn_r _ [32, 33, 34, 81, 82, 83, 84, 85, 86, 87, 88, 89, 90, 91, 92] (by decide +kernel) (by decide +kernel)
set_option maxRecDepth 20000 in
theorem gX5_readHead_X2_has : GoodIn wsX5_readHead (wsV RX5 71 RX2 yX2_has wsX2_has) := goodIn_app (goodIn_of _ (by decide +kernel)) ggX5_readHead_X2_has
set_option maxRecDepth 20000 in
theorem ggX5_readHead_X5_readWeight : GoodIn wsX5_readHead wsX5_readWeight := goodIn_r _ [38, 3, 10, 1, 4, 18, 19, 20, 8, 21, 22, 23, 24, 25, 14, 26, 16, 27, 39, 40, 41, 42, 43, 44, 45, 46, 47, 11, 12, 13, 15, 17, 48, 49, 50, 51, 52, 53, 31, 54, 33, 34, 55, 56, 57, 58, 59, 60, 61, 62, 63, 75, 76, 77, 78, 79, 80, 93, 94, 95, 96, 81, 82, 83, 84, 85, 86, 87, 88, 89, 90, 91, 92] (by decide +kernel) (by decide +kernel)
set_option maxRecDepth 20000 in
theorem gX5_readHead_X5_readWeight : GoodIn wsX5_readHead (wsV RX5 74 RX5 yX5_readWeight wsX5_readWeight) := goodIn_app (goodIn_of _ (by decide +kernel)) ggX5_readHead_X5_readWeight
set_option maxRecDepth 20000 in
theorem ggX5_readHead_X2_addClause : GoodIn wsX5_readHead wsX2_addClause := goodIn_r _ [54, 33, 34, 55, 56, 57, 58, 59, 81, 82, 83, 84, 85, 86, 87, 88, 89, 90, 91, 92] (by decide +kernel) (by decide +kernel)
set_option maxRecDepth 20000 in
theorem gX5_readHead_X2_addClause : GoodIn wsX5_readHead (wsV RX5 78 RX2 yX2_addClause wsX2_addClause) := goodIn_app (goodIn_of _ (by decide +kernel)) ggX5_readHead_X2_addClause
set_option maxRecDepth 20000 in
theorem ggX5_readHead_X5_readMeasure : GoodIn wsX5_readHead wsX5_readMeasure := goodIn_r _ [67, 10, 3, 1, 39, 40, 41, 14, 42, 16, 43, 44, 45, 46, 8, 47, 11, 12, 13, 15, 17, 18, 19, 20, 21, 22, 23, 24, 25, 26, 27, 48, 49, 50, 51, 52, 53, 31, 54, 33, 34, 55, 56, 57, 58, 59, 68, 69, 70, 71, 72, 73, 74, 75, 76, 77, 78, 79, 80, 93, 94, 95, 96, 81, 82, 83, 84, 85, 86, 87, 88, 89, 90, 91, 92] (by decide +kernel) (by decide +kernel)
set_option maxRecDepth 20000 in
theorem gX5_readHead_X5_readMeasure : GoodIn wsX5_readHead (wsV RX5 82 RX5 yX5_readMeasure wsX5_readMeasure) := goodIn_app (goodIn_of _ (by decide +kernel)) ggX5_readHead_X5_readMeasure
theorem dX5_readHead_0 : decode cX5_readHead 0 = .ok (.aload_n 0, 1) := by decide +kernel
theorem dX5_readHead_1 : decode cX5_readHead 1 = .ok (.iconst 0, 1) := by decide +kernel
theorem dX5_readHead_2 : decode cX5_readHead 2 = .ok (.bipush 6, 2) := by decide +kernel
theorem dX5_readHead_4 : decode cX5_readHead 4 = .ok (.invokevirtual 64, 3) := by decide +kernel
theorem dX5_readHead_7 : decode cX5_readHead 7 = .ok (.istore_n 1, 1) := by decide +kernel
theorem dX5_readHead_8 : decode cX5_readHead 8 = .ok (.iload_n 1, 1) := by decide +kernel
theorem dX5_readHead_9 : decode cX5_readHead 9 = .ok (.ifCond .ge 9, 3) := by decide +kernel
theorem dX5_readHead_12 : decode cX5_readHead 12 = .ok (.aload_n 0, 1) := by decide +kernel
theorem dX5_readHead_13 : decode cX5_readHead 13 = .ok (.iconst 0, 1) := by decide +kernel
theorem dX5_readHead_14 : decode cX5_readHead 14 = .ok (.invokevirtual 61, 3) := by decide +kernel
theorem dX5_readHead_17 : decode cX5_readHead 17 = .ok (.ireturn, 1) := by decide +kernel
theorem dX5_readHead_18 : decode cX5_readHead 18 = .ok (.aload_n 0, 1) := by decide +kernel
theorem dX5_readHead_19 : decode cX5_readHead 19 = .ok (.getfield 21, 3) := by decide +kernel
theorem dX5_readHead_22 : decode cX5_readHead 22 = .ok (.getfield 68, 3) := by decide +kernel
theorem dX5_readHead_25 : decode cX5_readHead 25 = .ok (.bipush 14, 2) := by decide +kernel
theorem dX5_readHead_27 : decode cX5_readHead 27 = .ok (.if_icmp .ge 19, 3) := by decide +kernel
theorem dX5_readHead_30 : decode cX5_readHead 30 = .ok (.iload_n 1, 1) := by decide +kernel
theorem dX5_readHead_31 : decode cX5_readHead 31 = .ok (.iconst 3, 1) := by decide +kernel
theorem dX5_readHead_32 : decode cX5_readHead 32 = .ok (.if_icmp .lt 20, 3) := by decide +kernel
theorem dX5_readHead_35 : decode cX5_readHead 35 = .ok (.aload_n 0, 1) := by decide +kernel
theorem dX5_readHead_36 : decode cX5_readHead 36 = .ok (.getfield 21, 3) := by decide +kernel
theorem dX5_readHead_39 : decode cX5_readHead 39 = .ok (.iload_n 1, 1) := by decide +kernel
theorem dX5_readHead_40 : decode cX5_readHead 40 = .ok (.invokevirtual 71, 3) := by decide +kernel
theorem dX5_readHead_43 : decode cX5_readHead 43 = .ok (.ifCond .eq 9, 3) := by decide +kernel
theorem dX5_readHead_46 : decode cX5_readHead 46 = .ok (.aload_n 0, 1) := by decide +kernel
theorem dX5_readHead_47 : decode cX5_readHead 47 = .ok (.iconst 4, 1) := by decide +kernel
theorem dX5_readHead_48 : decode cX5_readHead 48 = .ok (.invokevirtual 61, 3) := by decide +kernel
theorem dX5_readHead_51 : decode cX5_readHead 51 = .ok (.ireturn, 1) := by decide +kernel
theorem dX5_readHead_52 : decode cX5_readHead 52 = .ok (.aload_n 0, 1) := by decide +kernel
theorem dX5_readHead_53 : decode cX5_readHead 53 = .ok (.dup, 1) := by decide +kernel
theorem dX5_readHead_54 : decode cX5_readHead 54 = .ok (.getfield 32, 3) := by decide +kernel
theorem dX5_readHead_57 : decode cX5_readHead 57 = .ok (.iconst 1, 1) := by decide +kernel
theorem dX5_readHead_58 : decode cX5_readHead 58 = .ok (.iadd, 1) := by decide +kernel
theorem dX5_readHead_59 : decode cX5_readHead 59 = .ok (.putfield 32, 3) := by decide +kernel
theorem dX5_readHead_62 : decode cX5_readHead 62 = .ok (.aload_n 0, 1) := by decide +kernel
theorem dX5_readHead_63 : decode cX5_readHead 63 = .ok (.iload_n 1, 1) := by decide +kernel
theorem dX5_readHead_64 : decode cX5_readHead 64 = .ok (.iconst 2, 1) := by decide +kernel
theorem dX5_readHead_65 : decode cX5_readHead 65 = .ok (.if_icmp .ne 7, 3) := by decide +kernel
theorem dX5_readHead_68 : decode cX5_readHead 68 = .ok (.iconst 1, 1) := by decide +kernel
theorem dX5_readHead_69 : decode cX5_readHead 69 = .ok (.goto 4, 3) := by decide +kernel
theorem dX5_readHead_72 : decode cX5_readHead 72 = .ok (.iconst 0, 1) := by decide +kernel
theorem dX5_readHead_73 : decode cX5_readHead 73 = .ok (.putfield 46, 3) := by decide +kernel
theorem dX5_readHead_76 : decode cX5_readHead 76 = .ok (.iload_n 1, 1) := by decide +kernel
theorem dX5_readHead_77 : decode cX5_readHead 77 = .ok (.tableswitch 88 0 4 #[35, 51, 67, 88, 79], 35) := by decide +kernel
theorem dX5_readHead_112 : decode cX5_readHead 112 = .ok (.aload_n 0, 1) := by decide +kernel
theorem dX5_readHead_113 : decode cX5_readHead 113 = .ok (.iload_n 1, 1) := by decide +kernel
theorem dX5_readHead_114 : decode cX5_readHead 114 = .ok (.aload_n 0, 1) := by decide +kernel
theorem dX5_readHead_115 : decode cX5_readHead 115 = .ok (.bipush 6, 2) := by decide +kernel
theorem dX5_readHead_117 : decode cX5_readHead 117 = .ok (.bipush 10, 2) := by decide +kernel
theorem dX5_readHead_119 : decode cX5_readHead 119 = .ok (.invokevirtual 64, 3) := by decide +kernel
theorem dX5_readHead_122 : decode cX5_readHead 122 = .ok (.bipush 9, 2) := by decide +kernel
theorem dX5_readHead_124 : decode cX5_readHead 124 = .ok (.invokevirtual 74, 3) := by decide +kernel
theorem dX5_readHead_127 : decode cX5_readHead 127 = .ok (.ireturn, 1) := by decide +kernel
theorem dX5_readHead_128 : decode cX5_readHead 128 = .ok (.aload_n 0, 1) := by decide +kernel
theorem dX5_readHead_129 : decode cX5_readHead 129 = .ok (.iload_n 1, 1) := by decide +kernel
theorem dX5_readHead_130 : decode cX5_readHead 130 = .ok (.aload_n 0, 1) := by decide +kernel
theorem dX5_readHead_131 : decode cX5_readHead 131 = .ok (.bipush 10, 2) := by decide +kernel
theorem dX5_readHead_133 : decode cX5_readHead 133 = .ok (.bipush 14, 2) := by decide +kernel
theorem dX5_readHead_135 : decode cX5_readHead 135 = .ok (.invokevirtual 64, 3) := by decide +kernel
theorem dX5_readHead_138 : decode cX5_readHead 138 = .ok (.bipush 15, 2) := by decide +kernel
theorem dX5_readHead_140 : decode cX5_readHead 140 = .ok (.invokevirtual 74, 3) := by decide +kernel
theorem dX5_readHead_143 : decode cX5_readHead 143 = .ok (.ireturn, 1) := by decide +kernel
theorem dX5_readHead_144 : decode cX5_readHead 144 = .ok (.aload_n 0, 1) := by decide +kernel
theorem dX5_readHead_145 : decode cX5_readHead 145 = .ok (.getfield 21, 3) := by decide +kernel
theorem dX5_readHead_148 : decode cX5_readHead 148 = .ok (.iload_n 1, 1) := by decide +kernel
theorem dX5_readHead_149 : decode cX5_readHead 149 = .ok (.iconst 0, 1) := by decide +kernel
theorem dX5_readHead_150 : decode cX5_readHead 150 = .ok (.iconst 0, 1) := by decide +kernel
theorem dX5_readHead_151 : decode cX5_readHead 151 = .ok (.invokevirtual 78, 3) := by decide +kernel
theorem dX5_readHead_154 : decode cX5_readHead 154 = .ok (.iconst 1, 1) := by decide +kernel
theorem dX5_readHead_155 : decode cX5_readHead 155 = .ok (.ireturn, 1) := by decide +kernel
theorem dX5_readHead_156 : decode cX5_readHead 156 = .ok (.aload_n 0, 1) := by decide +kernel
theorem dX5_readHead_157 : decode cX5_readHead 157 = .ok (.iload_n 1, 1) := by decide +kernel
theorem dX5_readHead_158 : decode cX5_readHead 158 = .ok (.iconst 1, 1) := by decide +kernel
theorem dX5_readHead_159 : decode cX5_readHead 159 = .ok (.bipush 8, 2) := by decide +kernel
theorem dX5_readHead_161 : decode cX5_readHead 161 = .ok (.invokevirtual 82, 3) := by decide +kernel
theorem dX5_readHead_164 : decode cX5_readHead 164 = .ok (.ireturn, 1) := by decide +kernel
theorem dX5_readHead_165 : decode cX5_readHead 165 = .ok (.aload_n 0, 1) := by decide +kernel
theorem dX5_readHead_166 : decode cX5_readHead 166 = .ok (.iload_n 1, 1) := by decide +kernel
theorem dX5_readHead_167 : decode cX5_readHead 167 = .ok (.iconst 0, 1) := by decide +kernel
theorem dX5_readHead_168 : decode cX5_readHead 168 = .ok (.bipush 15, 2) := by decide +kernel
theorem dX5_readHead_170 : decode cX5_readHead 170 = .ok (.invokevirtual 82, 3) := by decide +kernel
theorem dX5_readHead_173 : decode cX5_readHead 173 = .ok (.ireturn, 1) := by decide +kernel
set_option maxRecDepth 20000 in
theorem ggX5_readWeight_X5_fail : GoodIn wsX5_readWeight wsX5_fail := goodIn_r _ [9, 2, 1, 10, 11, 12, 13, 14, 15, 16, 17, 51, 52, 53, 54, 55, 56, 57, 58, 59, 60] (by decide +kernel) (by decide +kernel)
set_option maxRecDepth 20000 in
theorem gX5_readWeight_X5_fail : GoodIn wsX5_readWeight (wsV RX5 61 RX5 yX5_fail wsX5_fail) := goodIn_app (goodIn_of _ (by decide +kernel)) ggX5_readWeight_X5_fail
set_option maxRecDepth 20000 in
theorem ggX5_readWeight_X9_numberAt : GoodIn wsX5_readWeight wsX9_numberAt := goodIn_r _ [21, 16, 22, 57, 58, 59, 60] (by decide +kernel) (by decide +kernel)
set_option maxRecDepth 20000 in
theorem gX5_readWeight_X9_numberAt : GoodIn wsX5_readWeight (wsV RX5 85 RX9 yX9_numberAt wsX9_numberAt) := goodIn_app (goodIn_of _ (by decide +kernel)) ggX5_readWeight_X9_numberAt
set_option maxRecDepth 20000 in
theorem ggX5_readWeight_X5_takesNumber : GoodIn wsX5_readWeight wsX5_takesNumber := goodIn_r _ [26, 2, 1, 27, 28, 29, 14, 30, 16, 31, 5, 6, 7, 8, 9, 10, 11, 12, 13, 15, 17, 18, 19, 20, 21, 22, 32, 33, 34, 51, 52, 53, 54, 55, 56, 57, 58, 59, 60] (by decide +kernel) (by decide +kernel)
set_option maxRecDepth 20000 in
theorem gX5_readWeight_X5_takesNumber : GoodIn wsX5_readWeight (wsV RX5 88 RX5 yX5_takesNumber wsX5_takesNumber) := goodIn_app (goodIn_of _ (by decide +kernel)) ggX5_readWeight_X5_takesNumber
set_option maxRecDepth 20000 in
theorem ggX5_readWeight_X2_addClause : GoodIn wsX5_readWeight wsX2_addClause := goodIn_r _ [39, 40, 41, 42, 43, 44, 45, 46, 61, 62, 63, 64, 65, 66, 67, 68, 69, 70, 71, 72] (by decide +kernel) (by decide +kernel)
set_option maxRecDepth 20000 in
theorem gX5_readWeight_X2_addClause : GoodIn wsX5_readWeight (wsV RX5 78 RX2 yX2_addClause wsX2_addClause) := goodIn_app (goodIn_of _ (by decide +kernel)) ggX5_readWeight_X2_addClause
set_option maxRecDepth 20000 in
theorem ggX5_readWeight_X5_takes : GoodIn wsX5_readWeight wsX5_takes := goodIn_r _ [50, 2, 1, 27, 28, 29, 14, 30, 16, 31, 51, 52, 53, 54, 55, 56, 57, 58, 59, 60] (by decide +kernel) (by decide +kernel)
set_option maxRecDepth 20000 in
theorem gX5_readWeight_X5_takes : GoodIn wsX5_readWeight (wsV RX5 58 RX5 yX5_takes wsX5_takes) := goodIn_app (goodIn_of _ (by decide +kernel)) ggX5_readWeight_X5_takes
theorem dX5_readWeight_0 : decode cX5_readWeight 0 = .ok (.iload_n 2, 1) := by decide +kernel
theorem dX5_readWeight_1 : decode cX5_readWeight 1 = .ok (.ifCond .ge 9, 3) := by decide +kernel
theorem dX5_readWeight_4 : decode cX5_readWeight 4 = .ok (.aload_n 0, 1) := by decide +kernel
theorem dX5_readWeight_5 : decode cX5_readWeight 5 = .ok (.iconst 0, 1) := by decide +kernel
theorem dX5_readWeight_6 : decode cX5_readWeight 6 = .ok (.invokevirtual 61, 3) := by decide +kernel
theorem dX5_readWeight_9 : decode cX5_readWeight 9 = .ok (.ireturn, 1) := by decide +kernel
theorem dX5_readWeight_10 : decode cX5_readWeight 10 = .ok (.aload_n 0, 1) := by decide +kernel
theorem dX5_readWeight_11 : decode cX5_readWeight 11 = .ok (.dup, 1) := by decide +kernel
theorem dX5_readWeight_12 : decode cX5_readWeight 12 = .ok (.getfield 32, 3) := by decide +kernel
theorem dX5_readWeight_15 : decode cX5_readWeight 15 = .ok (.iconst 1, 1) := by decide +kernel
theorem dX5_readWeight_16 : decode cX5_readWeight 16 = .ok (.iadd, 1) := by decide +kernel
theorem dX5_readWeight_17 : decode cX5_readWeight 17 = .ok (.putfield 32, 3) := by decide +kernel
theorem dX5_readWeight_20 : decode cX5_readWeight 20 = .ok (.aload_n 0, 1) := by decide +kernel
theorem dX5_readWeight_21 : decode cX5_readWeight 21 = .ok (.getfield 12, 3) := by decide +kernel
theorem dX5_readWeight_24 : decode cX5_readWeight 24 = .ok (.aload_n 0, 1) := by decide +kernel
theorem dX5_readWeight_25 : decode cX5_readWeight 25 = .ok (.getfield 32, 3) := by decide +kernel
theorem dX5_readWeight_28 : decode cX5_readWeight 28 = .ok (.invokevirtual 85, 3) := by decide +kernel
theorem dX5_readWeight_31 : decode cX5_readWeight 31 = .ok (.istore 4, 2) := by decide +kernel
theorem dX5_readWeight_33 : decode cX5_readWeight 33 = .ok (.aload_n 0, 1) := by decide +kernel
theorem dX5_readWeight_34 : decode cX5_readWeight 34 = .ok (.iconst 0, 1) := by decide +kernel
theorem dX5_readWeight_35 : decode cX5_readWeight 35 = .ok (.iload_n 3, 1) := by decide +kernel
theorem dX5_readWeight_36 : decode cX5_readWeight 36 = .ok (.invokevirtual 88, 3) := by decide +kernel
theorem dX5_readWeight_39 : decode cX5_readWeight 39 = .ok (.ifCond .ne 5, 3) := by decide +kernel
theorem dX5_readWeight_42 : decode cX5_readWeight 42 = .ok (.iconst 0, 1) := by decide +kernel
theorem dX5_readWeight_43 : decode cX5_readWeight 43 = .ok (.ireturn, 1) := by decide +kernel
theorem dX5_readWeight_44 : decode cX5_readWeight 44 = .ok (.aload_n 0, 1) := by decide +kernel
theorem dX5_readWeight_45 : decode cX5_readWeight 45 = .ok (.getfield 21, 3) := by decide +kernel
theorem dX5_readWeight_48 : decode cX5_readWeight 48 = .ok (.iload_n 1, 1) := by decide +kernel
theorem dX5_readWeight_49 : decode cX5_readWeight 49 = .ok (.iload_n 2, 1) := by decide +kernel
theorem dX5_readWeight_50 : decode cX5_readWeight 50 = .ok (.iload 4, 2) := by decide +kernel
theorem dX5_readWeight_52 : decode cX5_readWeight 52 = .ok (.invokevirtual 78, 3) := by decide +kernel
theorem dX5_readWeight_55 : decode cX5_readWeight 55 = .ok (.aload_n 0, 1) := by decide +kernel
theorem dX5_readWeight_56 : decode cX5_readWeight 56 = .ok (.aload_n 0, 1) := by decide +kernel
theorem dX5_readWeight_57 : decode cX5_readWeight 57 = .ok (.bipush 14, 2) := by decide +kernel
theorem dX5_readWeight_59 : decode cX5_readWeight 59 = .ok (.invokevirtual 58, 3) := by decide +kernel
theorem dX5_readWeight_62 : decode cX5_readWeight 62 = .ok (.putfield 46, 3) := by decide +kernel
theorem dX5_readWeight_65 : decode cX5_readWeight 65 = .ok (.iconst 1, 1) := by decide +kernel
theorem dX5_readWeight_66 : decode cX5_readWeight 66 = .ok (.ireturn, 1) := by decide +kernel
set_option maxRecDepth 20000 in
theorem ggX5_readMeasure_X9_numberAt : GoodIn wsX5_readMeasure wsX9_numberAt := goodIn_r _ [8, 9, 10, 59, 60, 61, 62] (by decide +kernel) (by decide +kernel)
set_option maxRecDepth 20000 in
theorem gX5_readMeasure_X9_numberAt : GoodIn wsX5_readMeasure (wsV RX5 85 RX9 yX9_numberAt wsX9_numberAt) := goodIn_app (goodIn_of _ (by decide +kernel)) ggX5_readMeasure_X9_numberAt
set_option maxRecDepth 20000 in
theorem ggX5_readMeasure_X5_takesNumber : GoodIn wsX5_readMeasure wsX5_takesNumber := goodIn_r _ [15, 1, 2, 16, 17, 18, 7, 19, 9, 20, 21, 22, 23, 14, 24, 25, 26, 27, 28, 29, 30, 4, 5, 6, 8, 10, 31, 32, 33, 53, 54, 55, 56, 57, 58, 59, 60, 61, 62] (by decide +kernel) (by decide +kernel)
set_option maxRecDepth 20000 in
theorem gX5_readMeasure_X5_takesNumber : GoodIn wsX5_readMeasure (wsV RX5 88 RX5 yX5_takesNumber wsX5_takesNumber) := goodIn_app (goodIn_of _ (by decide +kernel)) ggX5_readMeasure_X5_takesNumber
set_option maxRecDepth 20000 in
theorem ggX5_readMeasure_X2_addClause : GoodIn wsX5_readMeasure wsX2_addClause := goodIn_r _ [38, 39, 40, 41, 42, 43, 44, 45, 63, 64, 65, 66, 67, 68, 69, 70, 71, 72, 73, 74] (by decide +kernel) (by decide +kernel)
set_option maxRecDepth 20000 in
theorem gX5_readMeasure_X2_addClause : GoodIn wsX5_readMeasure (wsV RX5 78 RX2 yX2_addClause wsX2_addClause) := goodIn_app (goodIn_of _ (by decide +kernel)) ggX5_readMeasure_X2_addClause
set_option maxRecDepth 20000 in
theorem ggX5_readMeasure_X2_setMeasure : GoodIn wsX5_readMeasure wsX2_setMeasure := goodIn_r _ [49, 50, 51, 52, 63, 64, 65, 66, 67, 68, 69, 70, 71, 72, 73, 74] (by decide +kernel) (by decide +kernel)
set_option maxRecDepth 20000 in
theorem gX5_readMeasure_X2_setMeasure : GoodIn wsX5_readMeasure (wsV RX5 92 RX2 yX2_setMeasure wsX2_setMeasure) := goodIn_app (goodIn_of _ (by decide +kernel)) ggX5_readMeasure_X2_setMeasure
theorem dX5_readMeasure_0 : decode cX5_readMeasure 0 = .ok (.aload_n 0, 1) := by decide +kernel
theorem dX5_readMeasure_1 : decode cX5_readMeasure 1 = .ok (.getfield 12, 3) := by decide +kernel
theorem dX5_readMeasure_4 : decode cX5_readMeasure 4 = .ok (.aload_n 0, 1) := by decide +kernel
theorem dX5_readMeasure_5 : decode cX5_readMeasure 5 = .ok (.getfield 32, 3) := by decide +kernel
theorem dX5_readMeasure_8 : decode cX5_readMeasure 8 = .ok (.invokevirtual 85, 3) := by decide +kernel
theorem dX5_readMeasure_11 : decode cX5_readMeasure 11 = .ok (.istore 4, 2) := by decide +kernel
theorem dX5_readMeasure_13 : decode cX5_readMeasure 13 = .ok (.aload_n 0, 1) := by decide +kernel
theorem dX5_readMeasure_14 : decode cX5_readMeasure 14 = .ok (.iload_n 2, 1) := by decide +kernel
theorem dX5_readMeasure_15 : decode cX5_readMeasure 15 = .ok (.iload_n 3, 1) := by decide +kernel
theorem dX5_readMeasure_16 : decode cX5_readMeasure 16 = .ok (.invokevirtual 88, 3) := by decide +kernel
theorem dX5_readMeasure_19 : decode cX5_readMeasure 19 = .ok (.ifCond .ne 5, 3) := by decide +kernel
theorem dX5_readMeasure_22 : decode cX5_readMeasure 22 = .ok (.iconst 0, 1) := by decide +kernel
theorem dX5_readMeasure_23 : decode cX5_readMeasure 23 = .ok (.ireturn, 1) := by decide +kernel
theorem dX5_readMeasure_24 : decode cX5_readMeasure 24 = .ok (.aload_n 0, 1) := by decide +kernel
theorem dX5_readMeasure_25 : decode cX5_readMeasure 25 = .ok (.getfield 21, 3) := by decide +kernel
theorem dX5_readMeasure_28 : decode cX5_readMeasure 28 = .ok (.iload_n 1, 1) := by decide +kernel
theorem dX5_readMeasure_29 : decode cX5_readMeasure 29 = .ok (.iconst 0, 1) := by decide +kernel
theorem dX5_readMeasure_30 : decode cX5_readMeasure 30 = .ok (.iload 4, 2) := by decide +kernel
theorem dX5_readMeasure_32 : decode cX5_readMeasure 32 = .ok (.invokevirtual 78, 3) := by decide +kernel
theorem dX5_readMeasure_35 : decode cX5_readMeasure 35 = .ok (.aload_n 0, 1) := by decide +kernel
theorem dX5_readMeasure_36 : decode cX5_readMeasure 36 = .ok (.getfield 21, 3) := by decide +kernel
theorem dX5_readMeasure_39 : decode cX5_readMeasure 39 = .ok (.iload_n 1, 1) := by decide +kernel
theorem dX5_readMeasure_40 : decode cX5_readMeasure 40 = .ok (.iload 4, 2) := by decide +kernel
theorem dX5_readMeasure_42 : decode cX5_readMeasure 42 = .ok (.invokevirtual 92, 3) := by decide +kernel
theorem dX5_readMeasure_45 : decode cX5_readMeasure 45 = .ok (.iconst 1, 1) := by decide +kernel
theorem dX5_readMeasure_46 : decode cX5_readMeasure 46 = .ok (.ireturn, 1) := by decide +kernel
set_option maxRecDepth 20000 in
theorem ggX5_readTest_X5_readPart : GoodIn wsX5_readTest wsX5_readPart := goodIn_r _ [70, 1, 67, 68, 69, 5, 6, 7, 8, 9, 10, 11, 12, 13, 14, 15, 16, 17, 18, 19, 20, 21, 22, 23, 24, 25, 26, 27, 28, 29, 30, 31, 32, 33, 34, 35, 36, 37, 38, 39, 40, 41, 42, 43, 44, 45, 46, 47, 48, 49, 50, 51, 52, 53, 54, 55, 56, 57, 58, 59, 60, 61, 62, 63, 64, 65, 66, 0, 2, 3, 4, 71, 72, 73, 74, 75, 76, 77, 78, 79, 80, 81, 82, 83, 84, 85, 86, 87, 88, 89, 90, 91, 92] (by decide +kernel) (by decide +kernel)
set_option maxRecDepth 20000 in
theorem gX5_readTest_X5_readPart : GoodIn wsX5_readTest (wsV RX5 96 RX5 yX5_readPart wsX5_readPart) := goodIn_app (goodIn_of _ (by decide +kernel)) ggX5_readTest_X5_readPart
set_option maxRecDepth 20000 in
theorem ggX5_readTest_X5_takes : GoodIn wsX5_readTest wsX5_takes := goodIn_r _ [9, 10, 11, 12, 13, 14, 15, 16, 17, 18, 71, 72, 73, 74, 75, 76, 77, 78, 79, 80] (by decide +kernel) (by decide +kernel)
set_option maxRecDepth 20000 in
theorem gX5_readTest_X5_takes : GoodIn wsX5_readTest (wsV RX5 58 RX5 yX5_takes wsX5_takes) := goodIn_app (goodIn_of _ (by decide +kernel)) ggX5_readTest_X5_takes
set_option maxRecDepth 20000 in
theorem ggX5_readTest_X2_addStep : GoodIn wsX5_readTest wsX2_addStep := goodIn_r _ [23, 24, 25, 26, 27, 81, 82, 83, 84, 85, 86, 87, 88, 89, 90, 91, 92] (by decide +kernel) (by decide +kernel)
set_option maxRecDepth 20000 in
theorem gX5_readTest_X2_addStep : GoodIn wsX5_readTest (wsV RX5 99 RX2 yX2_addStep wsX2_addStep) := goodIn_app (goodIn_of _ (by decide +kernel)) ggX5_readTest_X2_addStep
theorem dX5_readTest_0 : decode cX5_readTest 0 = .ok (.aload_n 0, 1) := by decide +kernel
theorem dX5_readTest_1 : decode cX5_readTest 1 = .ok (.iload_n 1, 1) := by decide +kernel
theorem dX5_readTest_2 : decode cX5_readTest 2 = .ok (.invokevirtual 96, 3) := by decide +kernel
theorem dX5_readTest_5 : decode cX5_readTest 5 = .ok (.ifCond .ne 5, 3) := by decide +kernel
theorem dX5_readTest_8 : decode cX5_readTest 8 = .ok (.iconst 0, 1) := by decide +kernel
theorem dX5_readTest_9 : decode cX5_readTest 9 = .ok (.ireturn, 1) := by decide +kernel
theorem dX5_readTest_10 : decode cX5_readTest 10 = .ok (.iconst 0, 1) := by decide +kernel
theorem dX5_readTest_11 : decode cX5_readTest 11 = .ok (.istore_n 2, 1) := by decide +kernel
theorem dX5_readTest_12 : decode cX5_readTest 12 = .ok (.iload_n 2, 1) := by decide +kernel
theorem dX5_readTest_13 : decode cX5_readTest 13 = .ok (.sipush 400, 3) := by decide +kernel
theorem dX5_readTest_16 : decode cX5_readTest 16 = .ok (.if_icmp .ge 38, 3) := by decide +kernel
theorem dX5_readTest_19 : decode cX5_readTest 19 = .ok (.aload_n 0, 1) := by decide +kernel
theorem dX5_readTest_20 : decode cX5_readTest 20 = .ok (.bipush 15, 2) := by decide +kernel
theorem dX5_readTest_22 : decode cX5_readTest 22 = .ok (.invokevirtual 58, 3) := by decide +kernel
theorem dX5_readTest_25 : decode cX5_readTest 25 = .ok (.ifCond .eq 29, 3) := by decide +kernel
theorem dX5_readTest_28 : decode cX5_readTest 28 = .ok (.aload_n 0, 1) := by decide +kernel
theorem dX5_readTest_29 : decode cX5_readTest 29 = .ok (.iload_n 1, 1) := by decide +kernel
theorem dX5_readTest_30 : decode cX5_readTest 30 = .ok (.invokevirtual 96, 3) := by decide +kernel
theorem dX5_readTest_33 : decode cX5_readTest 33 = .ok (.ifCond .ne 5, 3) := by decide +kernel
theorem dX5_readTest_36 : decode cX5_readTest 36 = .ok (.iconst 0, 1) := by decide +kernel
theorem dX5_readTest_37 : decode cX5_readTest 37 = .ok (.ireturn, 1) := by decide +kernel
theorem dX5_readTest_38 : decode cX5_readTest 38 = .ok (.aload_n 0, 1) := by decide +kernel
theorem dX5_readTest_39 : decode cX5_readTest 39 = .ok (.getfield 21, 3) := by decide +kernel
theorem dX5_readTest_42 : decode cX5_readTest 42 = .ok (.sipush 20009, 3) := by decide +kernel
theorem dX5_readTest_45 : decode cX5_readTest 45 = .ok (.invokevirtual 99, 3) := by decide +kernel
theorem dX5_readTest_48 : decode cX5_readTest 48 = .ok (.iinc 2 1, 3) := by decide +kernel
theorem dX5_readTest_51 : decode cX5_readTest 51 = .ok (.goto (-39), 3) := by decide +kernel
theorem dX5_readTest_54 : decode cX5_readTest 54 = .ok (.iconst 1, 1) := by decide +kernel
theorem dX5_readTest_55 : decode cX5_readTest 55 = .ok (.ireturn, 1) := by decide +kernel
set_option maxRecDepth 20000 in
theorem ggX5_readPart_X5_readFact : GoodIn wsX5_readPart wsX5_readFact := goodIn_r _ [28, 10, 11, 1, 12, 13, 14, 15, 16, 17, 18, 29, 30, 31, 5, 32, 33, 34, 35, 36, 37, 38, 39, 40, 41, 42, 43, 44, 45, 46, 47, 48, 49, 50, 51, 52, 53, 54, 55, 56, 57, 58, 59, 60, 19, 20, 21, 22, 23, 24, 25, 26, 27, 6, 7, 8, 9, 61, 62, 63, 64, 65, 66, 2, 3, 4, 0, 67, 68, 69, 70, 71, 72, 73, 74, 75, 76, 77, 78, 79, 80, 81, 82, 83, 84, 85, 86, 87, 88, 89, 90, 91, 92] (by decide +kernel) (by decide +kernel)
set_option maxRecDepth 20000 in
theorem gX5_readPart_X5_readFact : GoodIn wsX5_readPart (wsV RX5 103 RX5 yX5_readFact wsX5_readFact) := goodIn_app (goodIn_of _ (by decide +kernel)) ggX5_readPart_X5_readFact
set_option maxRecDepth 20000 in
theorem ggX5_readPart_X5_takes : GoodIn wsX5_readPart wsX5_takes := goodIn_r _ [9, 10, 11, 12, 13, 14, 15, 16, 17, 18, 71, 72, 73, 74, 75, 76, 77, 78, 79, 80] (by decide +kernel) (by decide +kernel)
set_option maxRecDepth 20000 in
theorem gX5_readPart_X5_takes : GoodIn wsX5_readPart (wsV RX5 58 RX5 yX5_takes wsX5_takes) := goodIn_app (goodIn_of _ (by decide +kernel)) ggX5_readPart_X5_takes
set_option maxRecDepth 20000 in
theorem ggX5_readPart_X2_addStep : GoodIn wsX5_readPart wsX2_addStep := goodIn_r _ [23, 24, 25, 26, 27, 81, 82, 83, 84, 85, 86, 87, 88, 89, 90, 91, 92] (by decide +kernel) (by decide +kernel)
set_option maxRecDepth 20000 in
theorem gX5_readPart_X2_addStep : GoodIn wsX5_readPart (wsV RX5 99 RX2 yX2_addStep wsX2_addStep) := goodIn_app (goodIn_of _ (by decide +kernel)) ggX5_readPart_X2_addStep
theorem dX5_readPart_0 : decode cX5_readPart 0 = .ok (.aload_n 0, 1) := by decide +kernel
theorem dX5_readPart_1 : decode cX5_readPart 1 = .ok (.iload_n 1, 1) := by decide +kernel
theorem dX5_readPart_2 : decode cX5_readPart 2 = .ok (.invokevirtual 103, 3) := by decide +kernel
theorem dX5_readPart_5 : decode cX5_readPart 5 = .ok (.ifCond .ne 5, 3) := by decide +kernel
theorem dX5_readPart_8 : decode cX5_readPart 8 = .ok (.iconst 0, 1) := by decide +kernel
theorem dX5_readPart_9 : decode cX5_readPart 9 = .ok (.ireturn, 1) := by decide +kernel
theorem dX5_readPart_10 : decode cX5_readPart 10 = .ok (.iconst 0, 1) := by decide +kernel
theorem dX5_readPart_11 : decode cX5_readPart 11 = .ok (.istore_n 2, 1) := by decide +kernel
theorem dX5_readPart_12 : decode cX5_readPart 12 = .ok (.iload_n 2, 1) := by decide +kernel
theorem dX5_readPart_13 : decode cX5_readPart 13 = .ok (.sipush 400, 3) := by decide +kernel
theorem dX5_readPart_16 : decode cX5_readPart 16 = .ok (.if_icmp .ge 38, 3) := by decide +kernel
theorem dX5_readPart_19 : decode cX5_readPart 19 = .ok (.aload_n 0, 1) := by decide +kernel
theorem dX5_readPart_20 : decode cX5_readPart 20 = .ok (.bipush 16, 2) := by decide +kernel
theorem dX5_readPart_22 : decode cX5_readPart 22 = .ok (.invokevirtual 58, 3) := by decide +kernel
theorem dX5_readPart_25 : decode cX5_readPart 25 = .ok (.ifCond .eq 29, 3) := by decide +kernel
theorem dX5_readPart_28 : decode cX5_readPart 28 = .ok (.aload_n 0, 1) := by decide +kernel
theorem dX5_readPart_29 : decode cX5_readPart 29 = .ok (.iload_n 1, 1) := by decide +kernel
theorem dX5_readPart_30 : decode cX5_readPart 30 = .ok (.invokevirtual 103, 3) := by decide +kernel
theorem dX5_readPart_33 : decode cX5_readPart 33 = .ok (.ifCond .ne 5, 3) := by decide +kernel
theorem dX5_readPart_36 : decode cX5_readPart 36 = .ok (.iconst 0, 1) := by decide +kernel
theorem dX5_readPart_37 : decode cX5_readPart 37 = .ok (.ireturn, 1) := by decide +kernel
theorem dX5_readPart_38 : decode cX5_readPart 38 = .ok (.aload_n 0, 1) := by decide +kernel
theorem dX5_readPart_39 : decode cX5_readPart 39 = .ok (.getfield 21, 3) := by decide +kernel
theorem dX5_readPart_42 : decode cX5_readPart 42 = .ok (.sipush 20008, 3) := by decide +kernel
theorem dX5_readPart_45 : decode cX5_readPart 45 = .ok (.invokevirtual 99, 3) := by decide +kernel
theorem dX5_readPart_48 : decode cX5_readPart 48 = .ok (.iinc 2 1, 3) := by decide +kernel
theorem dX5_readPart_51 : decode cX5_readPart 51 = .ok (.goto (-39), 3) := by decide +kernel
theorem dX5_readPart_54 : decode cX5_readPart 54 = .ok (.iconst 1, 1) := by decide +kernel
theorem dX5_readPart_55 : decode cX5_readPart 55 = .ok (.ireturn, 1) := by decide +kernel
set_option maxRecDepth 20000 in
theorem ggX5_readFact_X9_kindAt : GoodIn wsX5_readFact wsX9_kindAt := goodIn_r _ [8, 9, 10, 77, 78, 79, 80] (by decide +kernel) (by decide +kernel)
set_option maxRecDepth 20000 in
theorem gX5_readFact_X9_kindAt : GoodIn wsX5_readFact (wsV RX5 54 RX9 yX9_kindAt wsX9_kindAt) := goodIn_app (goodIn_of _ (by decide +kernel)) ggX5_readFact_X9_kindAt
set_option maxRecDepth 20000 in
theorem ggX5_readFact_X5_readSum : GoodIn wsX5_readFact wsX5_readSum := goodIn_r _ [15, 3, 16, 17, 18, 14, 19, 1, 2, 20, 21, 22, 23, 4, 5, 6, 7, 8, 9, 10, 24, 25, 26, 27, 28, 29, 30, 31, 32, 33, 34, 35, 36, 37, 38, 39, 40, 41, 42, 43, 44, 45, 46, 47, 48, 49, 50, 51, 52, 53, 54, 55, 56, 71, 72, 73, 74, 75, 76, 77, 78, 79, 80, 81, 82, 83, 84, 85, 86, 87, 88, 89, 90, 91, 92] (by decide +kernel) (by decide +kernel)
set_option maxRecDepth 20000 in
theorem gX5_readFact_X5_readSum : GoodIn wsX5_readFact (wsV RX5 106 RX5 yX5_readSum wsX5_readSum) := goodIn_app (goodIn_of _ (by decide +kernel)) ggX5_readFact_X5_readSum
set_option maxRecDepth 20000 in
theorem ggX5_readFact_X5_comparisonOf : GoodIn wsX5_readFact wsX5_comparisonOf := goodIn_r _ [59] (by decide +kernel) (by decide +kernel)
set_option maxRecDepth 20000 in
theorem gX5_readFact_X5_comparisonOf : GoodIn wsX5_readFact (va_wsS RX5 109 yX5_comparisonOf wsX5_comparisonOf) := goodIn_app (goodIn_of _ (by decide +kernel)) ggX5_readFact_X5_comparisonOf
set_option maxRecDepth 20000 in
theorem ggX5_readFact_X5_fail : GoodIn wsX5_readFact wsX5_fail := goodIn_r _ [27, 1, 2, 28, 29, 30, 31, 7, 32, 9, 33, 71, 72, 73, 74, 75, 76, 77, 78, 79, 80] (by decide +kernel) (by decide +kernel)
set_option maxRecDepth 20000 in
theorem gX5_readFact_X5_fail : GoodIn wsX5_readFact (wsV RX5 61 RX5 yX5_fail wsX5_fail) := goodIn_app (goodIn_of _ (by decide +kernel)) ggX5_readFact_X5_fail
set_option maxRecDepth 20000 in
theorem ggX5_readFact_X5_takesPart : GoodIn wsX5_readFact wsX5_takesPart := goodIn_r _ [42, 43, 2, 24, 25, 26, 14, 27, 1, 28, 29, 30, 31, 7, 32, 9, 33, 71, 72, 73, 74, 75, 76, 77, 78, 79, 80] (by decide +kernel) (by decide +kernel)
set_option maxRecDepth 20000 in
theorem gX5_readFact_X5_takesPart : GoodIn wsX5_readFact (wsV RX5 112 RX5 yX5_takesPart wsX5_takesPart) := goodIn_app (goodIn_of _ (by decide +kernel)) ggX5_readFact_X5_takesPart
set_option maxRecDepth 20000 in
theorem ggX5_readFact_X2_addStep : GoodIn wsX5_readFact wsX2_addStep := goodIn_r _ [48, 49, 50, 51, 52, 81, 82, 83, 84, 85, 86, 87, 88, 89, 90, 91, 92] (by decide +kernel) (by decide +kernel)
set_option maxRecDepth 20000 in
theorem gX5_readFact_X2_addStep : GoodIn wsX5_readFact (wsV RX5 99 RX2 yX2_addStep wsX2_addStep) := goodIn_app (goodIn_of _ (by decide +kernel)) ggX5_readFact_X2_addStep
set_option maxRecDepth 20000 in
theorem ggX5_readFact_X5_readTest : GoodIn wsX5_readFact wsX5_readTest := goodIn_r _ [67, 3, 68, 69, 70, 14, 53, 54, 55, 56, 1, 2, 4, 5, 6, 7, 8, 9, 10, 44, 45, 46, 47, 48, 49, 50, 51, 52, 0, 11, 12, 13, 15, 16, 17, 18, 19, 20, 21, 22, 23, 24, 25, 26, 27, 28, 29, 30, 31, 32, 33, 34, 35, 36, 37, 38, 39, 40, 41, 42, 43, 57, 58, 59, 60, 61, 62, 63, 64, 65, 66, 71, 72, 73, 74, 75, 76, 77, 78, 79, 80, 81, 82, 83, 84, 85, 86, 87, 88, 89, 90, 91, 92] (by decide +kernel) (by decide +kernel)
set_option maxRecDepth 20000 in
theorem gX5_readFact_X5_readTest : GoodIn wsX5_readFact (wsV RX5 50 RX5 yX5_readTest wsX5_readTest) := goodIn_app (goodIn_of _ (by decide +kernel)) ggX5_readFact_X5_readTest
set_option maxRecDepth 20000 in
theorem ggX5_readFact_X5_takes : GoodIn wsX5_readFact wsX5_takes := goodIn_r _ [56, 1, 2, 4, 5, 6, 7, 8, 9, 10, 71, 72, 73, 74, 75, 76, 77, 78, 79, 80] (by decide +kernel) (by decide +kernel)
set_option maxRecDepth 20000 in
theorem gX5_readFact_X5_takes : GoodIn wsX5_readFact (wsV RX5 58 RX5 yX5_takes wsX5_takes) := goodIn_app (goodIn_of _ (by decide +kernel)) ggX5_readFact_X5_takes
set_option maxRecDepth 20000 in
theorem ggX5_readFact_X5_readFact : GoodIn wsX5_readFact wsX5_readFact := goodIn_r _ [0, 1, 2, 3, 4, 5, 6, 7, 8, 9, 10, 11, 12, 13, 14, 15, 16, 17, 18, 19, 20, 21, 22, 23, 24, 25, 26, 27, 28, 29, 30, 31, 32, 33, 34, 35, 36, 37, 38, 39, 40, 41, 42, 43, 44, 45, 46, 47, 48, 49, 50, 51, 52, 53, 54, 55, 56, 57, 58, 59, 60, 61, 62, 63, 64, 65, 66, 67, 68, 69, 70, 71, 72, 73, 74, 75, 76, 77, 78, 79, 80, 81, 82, 83, 84, 85, 86, 87, 88, 89, 90, 91, 92] (by decide +kernel) (by decide +kernel)
set_option maxRecDepth 20000 in
theorem gX5_readFact_X5_readFact : GoodIn wsX5_readFact (wsV RX5 103 RX5 yX5_readFact wsX5_readFact) := goodIn_app (goodIn_of _ (by decide +kernel)) ggX5_readFact_X5_readFact
theorem dX5_readFact_0 : decode cX5_readFact 0 = .ok (.aload_n 0, 1) := by decide +kernel
theorem dX5_readFact_1 : decode cX5_readFact 1 = .ok (.getfield 12, 3) := by decide +kernel
theorem dX5_readFact_4 : decode cX5_readFact 4 = .ok (.aload_n 0, 1) := by decide +kernel
theorem dX5_readFact_5 : decode cX5_readFact 5 = .ok (.getfield 32, 3) := by decide +kernel
theorem dX5_readFact_8 : decode cX5_readFact 8 = .ok (.invokevirtual 54, 3) := by decide +kernel
theorem dX5_readFact_11 : decode cX5_readFact 11 = .ok (.istore_n 2, 1) := by decide +kernel
theorem dX5_readFact_12 : decode cX5_readFact 12 = .ok (.iload_n 2, 1) := by decide +kernel
theorem dX5_readFact_13 : decode cX5_readFact 13 = .ok (.sipush 347, 3) := by decide +kernel
theorem dX5_readFact_16 : decode cX5_readFact 16 = .ok (.if_icmp .ne 7, 3) := by decide +kernel
theorem dX5_readFact_19 : decode cX5_readFact 19 = .ok (.iconst 1, 1) := by decide +kernel
theorem dX5_readFact_20 : decode cX5_readFact 20 = .ok (.goto 4, 3) := by decide +kernel
theorem dX5_readFact_23 : decode cX5_readFact 23 = .ok (.iconst 0, 1) := by decide +kernel
theorem dX5_readFact_24 : decode cX5_readFact 24 = .ok (.istore_n 3, 1) := by decide +kernel
theorem dX5_readFact_25 : decode cX5_readFact 25 = .ok (.iload_n 3, 1) := by decide +kernel
theorem dX5_readFact_26 : decode cX5_readFact 26 = .ok (.ifCond .ne 72, 3) := by decide +kernel
theorem dX5_readFact_29 : decode cX5_readFact 29 = .ok (.iload_n 2, 1) := by decide +kernel
theorem dX5_readFact_30 : decode cX5_readFact 30 = .ok (.bipush 17, 2) := by decide +kernel
theorem dX5_readFact_32 : decode cX5_readFact 32 = .ok (.if_icmp .eq 66, 3) := by decide +kernel
theorem dX5_readFact_35 : decode cX5_readFact 35 = .ok (.aload_n 0, 1) := by decide +kernel
theorem dX5_readFact_36 : decode cX5_readFact 36 = .ok (.invokevirtual 106, 3) := by decide +kernel
theorem dX5_readFact_39 : decode cX5_readFact 39 = .ok (.ifCond .ne 5, 3) := by decide +kernel
theorem dX5_readFact_42 : decode cX5_readFact 42 = .ok (.iconst 0, 1) := by decide +kernel
theorem dX5_readFact_43 : decode cX5_readFact 43 = .ok (.ireturn, 1) := by decide +kernel
theorem dX5_readFact_44 : decode cX5_readFact 44 = .ok (.aload_n 0, 1) := by decide +kernel
theorem dX5_readFact_45 : decode cX5_readFact 45 = .ok (.getfield 12, 3) := by decide +kernel
theorem dX5_readFact_48 : decode cX5_readFact 48 = .ok (.aload_n 0, 1) := by decide +kernel
theorem dX5_readFact_49 : decode cX5_readFact 49 = .ok (.getfield 32, 3) := by decide +kernel
theorem dX5_readFact_52 : decode cX5_readFact 52 = .ok (.invokevirtual 54, 3) := by decide +kernel
theorem dX5_readFact_55 : decode cX5_readFact 55 = .ok (.invokestatic 109, 3) := by decide +kernel
theorem dX5_readFact_58 : decode cX5_readFact 58 = .ok (.istore 4, 2) := by decide +kernel
theorem dX5_readFact_60 : decode cX5_readFact 60 = .ok (.iload 4, 2) := by decide +kernel
theorem dX5_readFact_62 : decode cX5_readFact 62 = .ok (.ifCond .ge 9, 3) := by decide +kernel
theorem dX5_readFact_65 : decode cX5_readFact 65 = .ok (.aload_n 0, 1) := by decide +kernel
theorem dX5_readFact_66 : decode cX5_readFact 66 = .ok (.iconst 0, 1) := by decide +kernel
theorem dX5_readFact_67 : decode cX5_readFact 67 = .ok (.invokevirtual 61, 3) := by decide +kernel
theorem dX5_readFact_70 : decode cX5_readFact 70 = .ok (.ireturn, 1) := by decide +kernel
theorem dX5_readFact_71 : decode cX5_readFact 71 = .ok (.aload_n 0, 1) := by decide +kernel
theorem dX5_readFact_72 : decode cX5_readFact 72 = .ok (.invokevirtual 112, 3) := by decide +kernel
theorem dX5_readFact_75 : decode cX5_readFact 75 = .ok (.ifCond .eq 10, 3) := by decide +kernel
theorem dX5_readFact_78 : decode cX5_readFact 78 = .ok (.aload_n 0, 1) := by decide +kernel
theorem dX5_readFact_79 : decode cX5_readFact 79 = .ok (.invokevirtual 106, 3) := by decide +kernel
theorem dX5_readFact_82 : decode cX5_readFact 82 = .ok (.ifCond .ne 5, 3) := by decide +kernel
theorem dX5_readFact_85 : decode cX5_readFact 85 = .ok (.iconst 0, 1) := by decide +kernel
theorem dX5_readFact_86 : decode cX5_readFact 86 = .ok (.ireturn, 1) := by decide +kernel
theorem dX5_readFact_87 : decode cX5_readFact 87 = .ok (.aload_n 0, 1) := by decide +kernel
theorem dX5_readFact_88 : decode cX5_readFact 88 = .ok (.getfield 21, 3) := by decide +kernel
theorem dX5_readFact_91 : decode cX5_readFact 91 = .ok (.iload 4, 2) := by decide +kernel
theorem dX5_readFact_93 : decode cX5_readFact 93 = .ok (.invokevirtual 99, 3) := by decide +kernel
theorem dX5_readFact_96 : decode cX5_readFact 96 = .ok (.iconst 1, 1) := by decide +kernel
theorem dX5_readFact_97 : decode cX5_readFact 97 = .ok (.ireturn, 1) := by decide +kernel
theorem dX5_readFact_98 : decode cX5_readFact 98 = .ok (.iload_n 1, 1) := by decide +kernel
theorem dX5_readFact_99 : decode cX5_readFact 99 = .ok (.bipush 10, 2) := by decide +kernel
theorem dX5_readFact_101 : decode cX5_readFact 101 = .ok (.if_icmp .lt 9, 3) := by decide +kernel
theorem dX5_readFact_104 : decode cX5_readFact 104 = .ok (.aload_n 0, 1) := by decide +kernel
theorem dX5_readFact_105 : decode cX5_readFact 105 = .ok (.iconst 2, 1) := by decide +kernel
theorem dX5_readFact_106 : decode cX5_readFact 106 = .ok (.invokevirtual 61, 3) := by decide +kernel
theorem dX5_readFact_109 : decode cX5_readFact 109 = .ok (.ireturn, 1) := by decide +kernel
theorem dX5_readFact_110 : decode cX5_readFact 110 = .ok (.aload_n 0, 1) := by decide +kernel
theorem dX5_readFact_111 : decode cX5_readFact 111 = .ok (.dup, 1) := by decide +kernel
theorem dX5_readFact_112 : decode cX5_readFact 112 = .ok (.getfield 32, 3) := by decide +kernel
theorem dX5_readFact_115 : decode cX5_readFact 115 = .ok (.iconst 1, 1) := by decide +kernel
theorem dX5_readFact_116 : decode cX5_readFact 116 = .ok (.iadd, 1) := by decide +kernel
theorem dX5_readFact_117 : decode cX5_readFact 117 = .ok (.putfield 32, 3) := by decide +kernel
theorem dX5_readFact_120 : decode cX5_readFact 120 = .ok (.iload_n 3, 1) := by decide +kernel
theorem dX5_readFact_121 : decode cX5_readFact 121 = .ok (.ifCond .eq 37, 3) := by decide +kernel
theorem dX5_readFact_124 : decode cX5_readFact 124 = .ok (.aload_n 0, 1) := by decide +kernel
theorem dX5_readFact_125 : decode cX5_readFact 125 = .ok (.iload_n 1, 1) := by decide +kernel
theorem dX5_readFact_126 : decode cX5_readFact 126 = .ok (.iconst 1, 1) := by decide +kernel
theorem dX5_readFact_127 : decode cX5_readFact 127 = .ok (.iadd, 1) := by decide +kernel
theorem dX5_readFact_128 : decode cX5_readFact 128 = .ok (.invokevirtual 50, 3) := by decide +kernel
theorem dX5_readFact_131 : decode cX5_readFact 131 = .ok (.ifCond .eq 25, 3) := by decide +kernel
theorem dX5_readFact_134 : decode cX5_readFact 134 = .ok (.aload_n 0, 1) := by decide +kernel
theorem dX5_readFact_135 : decode cX5_readFact 135 = .ok (.sipush 349, 3) := by decide +kernel
theorem dX5_readFact_138 : decode cX5_readFact 138 = .ok (.invokevirtual 58, 3) := by decide +kernel
theorem dX5_readFact_141 : decode cX5_readFact 141 = .ok (.ifCond .ne 11, 3) := by decide +kernel
theorem dX5_readFact_144 : decode cX5_readFact 144 = .ok (.aload_n 0, 1) := by decide +kernel
theorem dX5_readFact_145 : decode cX5_readFact 145 = .ok (.iconst 0, 1) := by decide +kernel
theorem dX5_readFact_146 : decode cX5_readFact 146 = .ok (.invokevirtual 61, 3) := by decide +kernel
theorem dX5_readFact_149 : decode cX5_readFact 149 = .ok (.ifCond .eq 7, 3) := by decide +kernel
theorem dX5_readFact_152 : decode cX5_readFact 152 = .ok (.iconst 1, 1) := by decide +kernel
theorem dX5_readFact_153 : decode cX5_readFact 153 = .ok (.goto 4, 3) := by decide +kernel
theorem dX5_readFact_156 : decode cX5_readFact 156 = .ok (.iconst 0, 1) := by decide +kernel
theorem dX5_readFact_157 : decode cX5_readFact 157 = .ok (.ireturn, 1) := by decide +kernel
theorem dX5_readFact_158 : decode cX5_readFact 158 = .ok (.aload_n 0, 1) := by decide +kernel
theorem dX5_readFact_159 : decode cX5_readFact 159 = .ok (.iload_n 1, 1) := by decide +kernel
theorem dX5_readFact_160 : decode cX5_readFact 160 = .ok (.iconst 1, 1) := by decide +kernel
theorem dX5_readFact_161 : decode cX5_readFact 161 = .ok (.iadd, 1) := by decide +kernel
theorem dX5_readFact_162 : decode cX5_readFact 162 = .ok (.invokevirtual 103, 3) := by decide +kernel
theorem dX5_readFact_165 : decode cX5_readFact 165 = .ok (.ifCond .ne 5, 3) := by decide +kernel
theorem dX5_readFact_168 : decode cX5_readFact 168 = .ok (.iconst 0, 1) := by decide +kernel
theorem dX5_readFact_169 : decode cX5_readFact 169 = .ok (.ireturn, 1) := by decide +kernel
theorem dX5_readFact_170 : decode cX5_readFact 170 = .ok (.aload_n 0, 1) := by decide +kernel
theorem dX5_readFact_171 : decode cX5_readFact 171 = .ok (.getfield 21, 3) := by decide +kernel
theorem dX5_readFact_174 : decode cX5_readFact 174 = .ok (.sipush 20007, 3) := by decide +kernel
theorem dX5_readFact_177 : decode cX5_readFact 177 = .ok (.invokevirtual 99, 3) := by decide +kernel
theorem dX5_readFact_180 : decode cX5_readFact 180 = .ok (.iconst 1, 1) := by decide +kernel
theorem dX5_readFact_181 : decode cX5_readFact 181 = .ok (.ireturn, 1) := by decide +kernel
theorem dX5_comparisonOf_0 : decode cX5_comparisonOf 0 = .ok (.iload_n 0, 1) := by decide +kernel
theorem dX5_comparisonOf_1 : decode cX5_comparisonOf 1 = .ok (.lookupswitch 71 #[(316, 51), (317, 59), (318, 67), (572, 55), (574, 63)], 51) := by decide +kernel
theorem dX5_comparisonOf_52 : decode cX5_comparisonOf 52 = .ok (.sipush 20002, 3) := by decide +kernel
theorem dX5_comparisonOf_55 : decode cX5_comparisonOf 55 = .ok (.ireturn, 1) := by decide +kernel
theorem dX5_comparisonOf_56 : decode cX5_comparisonOf 56 = .ok (.sipush 20003, 3) := by decide +kernel
theorem dX5_comparisonOf_59 : decode cX5_comparisonOf 59 = .ok (.ireturn, 1) := by decide +kernel
theorem dX5_comparisonOf_60 : decode cX5_comparisonOf 60 = .ok (.sipush 20004, 3) := by decide +kernel
theorem dX5_comparisonOf_63 : decode cX5_comparisonOf 63 = .ok (.ireturn, 1) := by decide +kernel
theorem dX5_comparisonOf_64 : decode cX5_comparisonOf 64 = .ok (.sipush 20005, 3) := by decide +kernel
theorem dX5_comparisonOf_67 : decode cX5_comparisonOf 67 = .ok (.ireturn, 1) := by decide +kernel
theorem dX5_comparisonOf_68 : decode cX5_comparisonOf 68 = .ok (.sipush 20006, 3) := by decide +kernel
theorem dX5_comparisonOf_71 : decode cX5_comparisonOf 71 = .ok (.ireturn, 1) := by decide +kernel
theorem dX5_comparisonOf_72 : decode cX5_comparisonOf 72 = .ok (.iconst (-1), 1) := by decide +kernel
theorem dX5_comparisonOf_73 : decode cX5_comparisonOf 73 = .ok (.ireturn, 1) := by decide +kernel
set_option maxRecDepth 20000 in
theorem ggX5_readSum_X5_readValue : GoodIn wsX5_readSum wsX5_readValue := goodIn_r _ [6, 7, 8, 1, 9, 10, 11, 5, 12, 13, 14, 15, 16, 17, 18, 19, 20, 21, 22, 23, 24, 25, 26, 27, 28, 29, 30, 31, 32, 33, 34, 35, 36, 37, 38, 39, 40, 41, 42, 43, 44, 45, 46, 47, 48, 53, 54, 55, 56, 57, 58, 59, 60, 61, 62, 63, 64, 65, 66, 67, 68, 69, 70, 71, 72, 73, 74] (by decide +kernel) (by decide +kernel)
set_option maxRecDepth 20000 in
theorem gX5_readSum_X5_readValue : GoodIn wsX5_readSum (wsV RX5 115 RX5 yX5_readValue wsX5_readValue) := goodIn_app (goodIn_of _ (by decide +kernel)) ggX5_readSum_X5_readValue
set_option maxRecDepth 20000 in
theorem ggX5_readSum_X5_takes : GoodIn wsX5_readSum wsX5_takes := goodIn_r _ [52, 7, 8, 13, 14, 15, 16, 17, 18, 19, 53, 54, 55, 56, 57, 58, 59, 60, 61, 62] (by decide +kernel) (by decide +kernel)
set_option maxRecDepth 20000 in
theorem gX5_readSum_X5_takes : GoodIn wsX5_readSum (wsV RX5 58 RX5 yX5_takes wsX5_takes) := goodIn_app (goodIn_of _ (by decide +kernel)) ggX5_readSum_X5_takes
set_option maxRecDepth 20000 in
theorem ggX5_readSum_X2_addStep : GoodIn wsX5_readSum wsX2_addStep := goodIn_r _ [44, 45, 46, 47, 48, 63, 64, 65, 66, 67, 68, 69, 70, 71, 72, 73, 74] (by decide +kernel) (by decide +kernel)
set_option maxRecDepth 20000 in
theorem gX5_readSum_X2_addStep : GoodIn wsX5_readSum (wsV RX5 99 RX2 yX2_addStep wsX2_addStep) := goodIn_app (goodIn_of _ (by decide +kernel)) ggX5_readSum_X2_addStep
theorem dX5_readSum_0 : decode cX5_readSum 0 = .ok (.aload_n 0, 1) := by decide +kernel
theorem dX5_readSum_1 : decode cX5_readSum 1 = .ok (.invokevirtual 115, 3) := by decide +kernel
theorem dX5_readSum_4 : decode cX5_readSum 4 = .ok (.ifCond .ne 5, 3) := by decide +kernel
theorem dX5_readSum_7 : decode cX5_readSum 7 = .ok (.iconst 0, 1) := by decide +kernel
theorem dX5_readSum_8 : decode cX5_readSum 8 = .ok (.ireturn, 1) := by decide +kernel
theorem dX5_readSum_9 : decode cX5_readSum 9 = .ok (.iconst 0, 1) := by decide +kernel
theorem dX5_readSum_10 : decode cX5_readSum 10 = .ok (.istore_n 1, 1) := by decide +kernel
theorem dX5_readSum_11 : decode cX5_readSum 11 = .ok (.iload_n 1, 1) := by decide +kernel
theorem dX5_readSum_12 : decode cX5_readSum 12 = .ok (.sipush 400, 3) := by decide +kernel
theorem dX5_readSum_15 : decode cX5_readSum 15 = .ok (.if_icmp .ge 62, 3) := by decide +kernel
theorem dX5_readSum_18 : decode cX5_readSum 18 = .ok (.aload_n 0, 1) := by decide +kernel
theorem dX5_readSum_19 : decode cX5_readSum 19 = .ok (.sipush 299, 3) := by decide +kernel
theorem dX5_readSum_22 : decode cX5_readSum 22 = .ok (.invokevirtual 58, 3) := by decide +kernel
theorem dX5_readSum_25 : decode cX5_readSum 25 = .ok (.istore_n 2, 1) := by decide +kernel
theorem dX5_readSum_26 : decode cX5_readSum 26 = .ok (.iload_n 2, 1) := by decide +kernel
theorem dX5_readSum_27 : decode cX5_readSum 27 = .ok (.ifCond .ne 15, 3) := by decide +kernel
theorem dX5_readSum_30 : decode cX5_readSum 30 = .ok (.aload_n 0, 1) := by decide +kernel
theorem dX5_readSum_31 : decode cX5_readSum 31 = .ok (.sipush 301, 3) := by decide +kernel
theorem dX5_readSum_34 : decode cX5_readSum 34 = .ok (.invokevirtual 58, 3) := by decide +kernel
theorem dX5_readSum_37 : decode cX5_readSum 37 = .ok (.ifCond .ne 5, 3) := by decide +kernel
theorem dX5_readSum_40 : decode cX5_readSum 40 = .ok (.iconst 1, 1) := by decide +kernel
theorem dX5_readSum_41 : decode cX5_readSum 41 = .ok (.ireturn, 1) := by decide +kernel
theorem dX5_readSum_42 : decode cX5_readSum 42 = .ok (.aload_n 0, 1) := by decide +kernel
theorem dX5_readSum_43 : decode cX5_readSum 43 = .ok (.invokevirtual 115, 3) := by decide +kernel
theorem dX5_readSum_46 : decode cX5_readSum 46 = .ok (.ifCond .ne 5, 3) := by decide +kernel
theorem dX5_readSum_49 : decode cX5_readSum 49 = .ok (.iconst 0, 1) := by decide +kernel
theorem dX5_readSum_50 : decode cX5_readSum 50 = .ok (.ireturn, 1) := by decide +kernel
theorem dX5_readSum_51 : decode cX5_readSum 51 = .ok (.aload_n 0, 1) := by decide +kernel
theorem dX5_readSum_52 : decode cX5_readSum 52 = .ok (.getfield 21, 3) := by decide +kernel
theorem dX5_readSum_55 : decode cX5_readSum 55 = .ok (.iload_n 2, 1) := by decide +kernel
theorem dX5_readSum_56 : decode cX5_readSum 56 = .ok (.ifCond .eq 9, 3) := by decide +kernel
theorem dX5_readSum_59 : decode cX5_readSum 59 = .ok (.sipush 20000, 3) := by decide +kernel
theorem dX5_readSum_62 : decode cX5_readSum 62 = .ok (.goto 6, 3) := by decide +kernel
theorem dX5_readSum_65 : decode cX5_readSum 65 = .ok (.sipush 20001, 3) := by decide +kernel
theorem dX5_readSum_68 : decode cX5_readSum 68 = .ok (.invokevirtual 99, 3) := by decide +kernel
theorem dX5_readSum_71 : decode cX5_readSum 71 = .ok (.iinc 1 1, 3) := by decide +kernel
theorem dX5_readSum_74 : decode cX5_readSum 74 = .ok (.goto (-63), 3) := by decide +kernel
theorem dX5_readSum_77 : decode cX5_readSum 77 = .ok (.iconst 1, 1) := by decide +kernel
theorem dX5_readSum_78 : decode cX5_readSum 78 = .ok (.ireturn, 1) := by decide +kernel
set_option maxRecDepth 20000 in
theorem ggX5_readValue_X5_wordFrom : GoodIn wsX5_readValue wsX5_wordFrom := goodIn_r _ [8, 1, 2, 9, 10, 11, 12, 13, 14, 15, 45, 46, 47, 48, 49, 50, 51, 52, 53, 54] (by decide +kernel) (by decide +kernel)
set_option maxRecDepth 20000 in
theorem gX5_readValue_X5_wordFrom : GoodIn wsX5_readValue (wsV RX5 64 RX5 yX5_wordFrom wsX5_wordFrom) := goodIn_app (goodIn_of _ (by decide +kernel)) ggX5_readValue_X5_wordFrom
set_option maxRecDepth 20000 in
theorem ggX5_readValue_X9_kindAt : GoodIn wsX5_readValue wsX9_kindAt := goodIn_r _ [13, 14, 15, 51, 52, 53, 54] (by decide +kernel) (by decide +kernel)
set_option maxRecDepth 20000 in
theorem gX5_readValue_X9_kindAt : GoodIn wsX5_readValue (wsV RX5 54 RX9 yX9_kindAt wsX9_kindAt) := goodIn_app (goodIn_of _ (by decide +kernel)) ggX5_readValue_X9_kindAt
set_option maxRecDepth 20000 in
theorem ggX5_readValue_X5_fail : GoodIn wsX5_readValue wsX5_fail := goodIn_r _ [19, 1, 2, 20, 21, 22, 23, 12, 24, 14, 25, 45, 46, 47, 48, 49, 50, 51, 52, 53, 54] (by decide +kernel) (by decide +kernel)
set_option maxRecDepth 20000 in
theorem gX5_readValue_X5_fail : GoodIn wsX5_readValue (wsV RX5 61 RX5 yX5_fail wsX5_fail) := goodIn_app (goodIn_of _ (by decide +kernel)) ggX5_readValue_X5_fail
set_option maxRecDepth 20000 in
theorem ggX5_readValue_X9_numberAt : GoodIn wsX5_readValue wsX9_numberAt := goodIn_r _ [29, 14, 30, 51, 52, 53, 54] (by decide +kernel) (by decide +kernel)
set_option maxRecDepth 20000 in
theorem gX5_readValue_X9_numberAt : GoodIn wsX5_readValue (wsV RX5 85 RX9 yX9_numberAt wsX9_numberAt) := goodIn_app (goodIn_of _ (by decide +kernel)) ggX5_readValue_X9_numberAt
set_option maxRecDepth 20000 in
theorem ggX5_readValue_X5_takesPart : GoodIn wsX5_readValue wsX5_takesPart := goodIn_r _ [34, 35, 2, 16, 17, 18, 7, 19, 1, 20, 21, 22, 23, 12, 24, 14, 25, 45, 46, 47, 48, 49, 50, 51, 52, 53, 54] (by decide +kernel) (by decide +kernel)
set_option maxRecDepth 20000 in
theorem gX5_readValue_X5_takesPart : GoodIn wsX5_readValue (wsV RX5 112 RX5 yX5_takesPart wsX5_takesPart) := goodIn_app (goodIn_of _ (by decide +kernel)) ggX5_readValue_X5_takesPart
set_option maxRecDepth 20000 in
theorem ggX5_readValue_X2_addStep : GoodIn wsX5_readValue wsX2_addStep := goodIn_r _ [40, 41, 42, 43, 44, 55, 56, 57, 58, 59, 60, 61, 62, 63, 64, 65, 66] (by decide +kernel) (by decide +kernel)
set_option maxRecDepth 20000 in
theorem gX5_readValue_X2_addStep : GoodIn wsX5_readValue (wsV RX5 99 RX2 yX2_addStep wsX2_addStep) := goodIn_app (goodIn_of _ (by decide +kernel)) ggX5_readValue_X2_addStep
theorem dX5_readValue_0 : decode cX5_readValue 0 = .ok (.aload_n 0, 1) := by decide +kernel
theorem dX5_readValue_1 : decode cX5_readValue 1 = .ok (.bipush 18, 2) := by decide +kernel
theorem dX5_readValue_3 : decode cX5_readValue 3 = .ok (.bipush 28, 2) := by decide +kernel
theorem dX5_readValue_5 : decode cX5_readValue 5 = .ok (.invokevirtual 64, 3) := by decide +kernel
theorem dX5_readValue_8 : decode cX5_readValue 8 = .ok (.istore_n 1, 1) := by decide +kernel
theorem dX5_readValue_9 : decode cX5_readValue 9 = .ok (.iload_n 1, 1) := by decide +kernel
theorem dX5_readValue_10 : decode cX5_readValue 10 = .ok (.ifCond .ge 25, 3) := by decide +kernel
theorem dX5_readValue_13 : decode cX5_readValue 13 = .ok (.aload_n 0, 1) := by decide +kernel
theorem dX5_readValue_14 : decode cX5_readValue 14 = .ok (.getfield 12, 3) := by decide +kernel
theorem dX5_readValue_17 : decode cX5_readValue 17 = .ok (.aload_n 0, 1) := by decide +kernel
theorem dX5_readValue_18 : decode cX5_readValue 18 = .ok (.getfield 32, 3) := by decide +kernel
theorem dX5_readValue_21 : decode cX5_readValue 21 = .ok (.invokevirtual 54, 3) := by decide +kernel
theorem dX5_readValue_24 : decode cX5_readValue 24 = .ok (.bipush 30, 2) := by decide +kernel
theorem dX5_readValue_26 : decode cX5_readValue 26 = .ok (.if_icmp .eq 9, 3) := by decide +kernel
theorem dX5_readValue_29 : decode cX5_readValue 29 = .ok (.aload_n 0, 1) := by decide +kernel
theorem dX5_readValue_30 : decode cX5_readValue 30 = .ok (.iconst 0, 1) := by decide +kernel
theorem dX5_readValue_31 : decode cX5_readValue 31 = .ok (.invokevirtual 61, 3) := by decide +kernel
theorem dX5_readValue_34 : decode cX5_readValue 34 = .ok (.ireturn, 1) := by decide +kernel
theorem dX5_readValue_35 : decode cX5_readValue 35 = .ok (.aload_n 0, 1) := by decide +kernel
theorem dX5_readValue_36 : decode cX5_readValue 36 = .ok (.getfield 12, 3) := by decide +kernel
theorem dX5_readValue_39 : decode cX5_readValue 39 = .ok (.aload_n 0, 1) := by decide +kernel
theorem dX5_readValue_40 : decode cX5_readValue 40 = .ok (.getfield 32, 3) := by decide +kernel
theorem dX5_readValue_43 : decode cX5_readValue 43 = .ok (.invokevirtual 85, 3) := by decide +kernel
theorem dX5_readValue_46 : decode cX5_readValue 46 = .ok (.istore_n 2, 1) := by decide +kernel
theorem dX5_readValue_47 : decode cX5_readValue 47 = .ok (.iload_n 2, 1) := by decide +kernel
theorem dX5_readValue_48 : decode cX5_readValue 48 = .ok (.iconst (-1), 1) := by decide +kernel
theorem dX5_readValue_49 : decode cX5_readValue 49 = .ok (.if_icmp .ne 9, 3) := by decide +kernel
theorem dX5_readValue_52 : decode cX5_readValue 52 = .ok (.aload_n 0, 1) := by decide +kernel
theorem dX5_readValue_53 : decode cX5_readValue 53 = .ok (.iconst 1, 1) := by decide +kernel
theorem dX5_readValue_54 : decode cX5_readValue 54 = .ok (.invokevirtual 61, 3) := by decide +kernel
theorem dX5_readValue_57 : decode cX5_readValue 57 = .ok (.ireturn, 1) := by decide +kernel
theorem dX5_readValue_58 : decode cX5_readValue 58 = .ok (.aload_n 0, 1) := by decide +kernel
theorem dX5_readValue_59 : decode cX5_readValue 59 = .ok (.invokevirtual 112, 3) := by decide +kernel
theorem dX5_readValue_62 : decode cX5_readValue 62 = .ok (.ifCond .ne 5, 3) := by decide +kernel
theorem dX5_readValue_65 : decode cX5_readValue 65 = .ok (.iconst 0, 1) := by decide +kernel
theorem dX5_readValue_66 : decode cX5_readValue 66 = .ok (.ireturn, 1) := by decide +kernel
theorem dX5_readValue_67 : decode cX5_readValue 67 = .ok (.aload_n 0, 1) := by decide +kernel
theorem dX5_readValue_68 : decode cX5_readValue 68 = .ok (.getfield 21, 3) := by decide +kernel
theorem dX5_readValue_71 : decode cX5_readValue 71 = .ok (.iload_n 1, 1) := by decide +kernel
theorem dX5_readValue_72 : decode cX5_readValue 72 = .ok (.ifCond .ge 7, 3) := by decide +kernel
theorem dX5_readValue_75 : decode cX5_readValue 75 = .ok (.iload_n 2, 1) := by decide +kernel
theorem dX5_readValue_76 : decode cX5_readValue 76 = .ok (.goto 8, 3) := by decide +kernel
theorem dX5_readValue_79 : decode cX5_readValue 79 = .ok (.sipush 10000, 3) := by decide +kernel
theorem dX5_readValue_82 : decode cX5_readValue 82 = .ok (.iload_n 1, 1) := by decide +kernel
theorem dX5_readValue_83 : decode cX5_readValue 83 = .ok (.iadd, 1) := by decide +kernel
theorem dX5_readValue_84 : decode cX5_readValue 84 = .ok (.invokevirtual 99, 3) := by decide +kernel
theorem dX5_readValue_87 : decode cX5_readValue 87 = .ok (.iconst 1, 1) := by decide +kernel
theorem dX5_readValue_88 : decode cX5_readValue 88 = .ok (.ireturn, 1) := by decide +kernel
set_option maxRecDepth 20000 in
theorem ggX5_takesPart_X5_fail : GoodIn wsX5_takesPart wsX5_fail := goodIn_r _ [7, 8, 2, 9, 10, 11, 12, 13, 14, 15, 16, 17, 18, 19, 20, 21, 22, 23, 24, 25, 26] (by decide +kernel) (by decide +kernel)
set_option maxRecDepth 20000 in
theorem gX5_takesPart_X5_fail : GoodIn wsX5_takesPart (wsV RX5 61 RX5 yX5_fail wsX5_fail) := goodIn_app (goodIn_of _ (by decide +kernel)) ggX5_takesPart_X5_fail
theorem dX5_takesPart_0 : decode cX5_takesPart 0 = .ok (.aload_n 0, 1) := by decide +kernel
theorem dX5_takesPart_1 : decode cX5_takesPart 1 = .ok (.getfield 36, 3) := by decide +kernel
theorem dX5_takesPart_4 : decode cX5_takesPart 4 = .ok (.bipush 50, 2) := by decide +kernel
theorem dX5_takesPart_6 : decode cX5_takesPart 6 = .ok (.if_icmp .lt 9, 3) := by decide +kernel
theorem dX5_takesPart_9 : decode cX5_takesPart 9 = .ok (.aload_n 0, 1) := by decide +kernel
theorem dX5_takesPart_10 : decode cX5_takesPart 10 = .ok (.iconst 3, 1) := by decide +kernel
theorem dX5_takesPart_11 : decode cX5_takesPart 11 = .ok (.invokevirtual 61, 3) := by decide +kernel
theorem dX5_takesPart_14 : decode cX5_takesPart 14 = .ok (.ireturn, 1) := by decide +kernel
theorem dX5_takesPart_15 : decode cX5_takesPart 15 = .ok (.aload_n 0, 1) := by decide +kernel
theorem dX5_takesPart_16 : decode cX5_takesPart 16 = .ok (.dup, 1) := by decide +kernel
theorem dX5_takesPart_17 : decode cX5_takesPart 17 = .ok (.getfield 36, 3) := by decide +kernel
theorem dX5_takesPart_20 : decode cX5_takesPart 20 = .ok (.iconst 1, 1) := by decide +kernel
theorem dX5_takesPart_21 : decode cX5_takesPart 21 = .ok (.iadd, 1) := by decide +kernel
theorem dX5_takesPart_22 : decode cX5_takesPart 22 = .ok (.putfield 36, 3) := by decide +kernel
theorem dX5_takesPart_25 : decode cX5_takesPart 25 = .ok (.aload_n 0, 1) := by decide +kernel
theorem dX5_takesPart_26 : decode cX5_takesPart 26 = .ok (.dup, 1) := by decide +kernel
theorem dX5_takesPart_27 : decode cX5_takesPart 27 = .ok (.getfield 32, 3) := by decide +kernel
theorem dX5_takesPart_30 : decode cX5_takesPart 30 = .ok (.iconst 1, 1) := by decide +kernel
theorem dX5_takesPart_31 : decode cX5_takesPart 31 = .ok (.iadd, 1) := by decide +kernel
theorem dX5_takesPart_32 : decode cX5_takesPart 32 = .ok (.putfield 32, 3) := by decide +kernel
theorem dX5_takesPart_35 : decode cX5_takesPart 35 = .ok (.iconst 1, 1) := by decide +kernel
theorem dX5_takesPart_36 : decode cX5_takesPart 36 = .ok (.ireturn, 1) := by decide +kernel
set_option maxRecDepth 20000 in
theorem ggX5_takesNumber_X9_kindAt : GoodIn wsX5_takesNumber wsX9_kindAt := goodIn_r _ [7, 8, 9, 35, 36, 37, 38] (by decide +kernel) (by decide +kernel)
set_option maxRecDepth 20000 in
theorem gX5_takesNumber_X9_kindAt : GoodIn wsX5_takesNumber (wsV RX5 54 RX9 yX9_kindAt wsX9_kindAt) := goodIn_app (goodIn_of _ (by decide +kernel)) ggX5_takesNumber_X9_kindAt
set_option maxRecDepth 20000 in
theorem ggX5_takesNumber_X5_fail : GoodIn wsX5_takesNumber wsX5_fail := goodIn_r _ [14, 1, 2, 15, 16, 17, 18, 6, 19, 8, 20, 29, 30, 31, 32, 33, 34, 35, 36, 37, 38] (by decide +kernel) (by decide +kernel)
set_option maxRecDepth 20000 in
theorem gX5_takesNumber_X5_fail : GoodIn wsX5_takesNumber (wsV RX5 61 RX5 yX5_fail wsX5_fail) := goodIn_app (goodIn_of _ (by decide +kernel)) ggX5_takesNumber_X5_fail
set_option maxRecDepth 20000 in
theorem ggX5_takesNumber_X9_numberAt : GoodIn wsX5_takesNumber wsX9_numberAt := goodIn_r _ [24, 8, 25, 35, 36, 37, 38] (by decide +kernel) (by decide +kernel)
set_option maxRecDepth 20000 in
theorem gX5_takesNumber_X9_numberAt : GoodIn wsX5_takesNumber (wsV RX5 85 RX9 yX9_numberAt wsX9_numberAt) := goodIn_app (goodIn_of _ (by decide +kernel)) ggX5_takesNumber_X9_numberAt
set_option maxRecDepth 20000 in
theorem ggX5_takesNumber_X11_isWithin : GoodIn wsX5_takesNumber wsX11_isWithin := goodIn_r _ [28] (by decide +kernel) (by decide +kernel)
set_option maxRecDepth 20000 in
theorem gX5_takesNumber_X11_isWithin_n118 : GoodIn wsX5_takesNumber (wsX11_isWithin) := ggX5_takesNumber_X11_isWithin
theorem dX5_takesNumber_0 : decode cX5_takesNumber 0 = .ok (.aload_n 0, 1) := by decide +kernel
theorem dX5_takesNumber_1 : decode cX5_takesNumber 1 = .ok (.getfield 12, 3) := by decide +kernel
theorem dX5_takesNumber_4 : decode cX5_takesNumber 4 = .ok (.aload_n 0, 1) := by decide +kernel
theorem dX5_takesNumber_5 : decode cX5_takesNumber 5 = .ok (.getfield 32, 3) := by decide +kernel
theorem dX5_takesNumber_8 : decode cX5_takesNumber 8 = .ok (.invokevirtual 54, 3) := by decide +kernel
theorem dX5_takesNumber_11 : decode cX5_takesNumber 11 = .ok (.bipush 30, 2) := by decide +kernel
theorem dX5_takesNumber_13 : decode cX5_takesNumber 13 = .ok (.if_icmp .eq 9, 3) := by decide +kernel
theorem dX5_takesNumber_16 : decode cX5_takesNumber 16 = .ok (.aload_n 0, 1) := by decide +kernel
theorem dX5_takesNumber_17 : decode cX5_takesNumber 17 = .ok (.iconst 0, 1) := by decide +kernel
theorem dX5_takesNumber_18 : decode cX5_takesNumber 18 = .ok (.invokevirtual 61, 3) := by decide +kernel
theorem dX5_takesNumber_21 : decode cX5_takesNumber 21 = .ok (.ireturn, 1) := by decide +kernel
theorem dX5_takesNumber_22 : decode cX5_takesNumber 22 = .ok (.aload_n 0, 1) := by decide +kernel
theorem dX5_takesNumber_23 : decode cX5_takesNumber 23 = .ok (.getfield 12, 3) := by decide +kernel
theorem dX5_takesNumber_26 : decode cX5_takesNumber 26 = .ok (.aload_n 0, 1) := by decide +kernel
theorem dX5_takesNumber_27 : decode cX5_takesNumber 27 = .ok (.getfield 32, 3) := by decide +kernel
theorem dX5_takesNumber_30 : decode cX5_takesNumber 30 = .ok (.invokevirtual 85, 3) := by decide +kernel
theorem dX5_takesNumber_33 : decode cX5_takesNumber 33 = .ok (.iload_n 1, 1) := by decide +kernel
theorem dX5_takesNumber_34 : decode cX5_takesNumber 34 = .ok (.iload_n 2, 1) := by decide +kernel
theorem dX5_takesNumber_35 : decode cX5_takesNumber 35 = .ok (.invokestatic 118, 3) := by decide +kernel
theorem dX5_takesNumber_38 : decode cX5_takesNumber 38 = .ok (.ifCond .ne 9, 3) := by decide +kernel
theorem dX5_takesNumber_41 : decode cX5_takesNumber 41 = .ok (.aload_n 0, 1) := by decide +kernel
theorem dX5_takesNumber_42 : decode cX5_takesNumber 42 = .ok (.iconst 1, 1) := by decide +kernel
theorem dX5_takesNumber_43 : decode cX5_takesNumber 43 = .ok (.invokevirtual 61, 3) := by decide +kernel
theorem dX5_takesNumber_46 : decode cX5_takesNumber 46 = .ok (.ireturn, 1) := by decide +kernel
theorem dX5_takesNumber_47 : decode cX5_takesNumber 47 = .ok (.aload_n 0, 1) := by decide +kernel
theorem dX5_takesNumber_48 : decode cX5_takesNumber 48 = .ok (.dup, 1) := by decide +kernel
theorem dX5_takesNumber_49 : decode cX5_takesNumber 49 = .ok (.getfield 32, 3) := by decide +kernel
theorem dX5_takesNumber_52 : decode cX5_takesNumber 52 = .ok (.iconst 1, 1) := by decide +kernel
theorem dX5_takesNumber_53 : decode cX5_takesNumber 53 = .ok (.iadd, 1) := by decide +kernel
theorem dX5_takesNumber_54 : decode cX5_takesNumber 54 = .ok (.putfield 32, 3) := by decide +kernel
theorem dX5_takesNumber_57 : decode cX5_takesNumber 57 = .ok (.iconst 1, 1) := by decide +kernel
theorem dX5_takesNumber_58 : decode cX5_takesNumber 58 = .ok (.ireturn, 1) := by decide +kernel
set_option maxRecDepth 20000 in
theorem ggX5_takes_X9_kindAt : GoodIn wsX5_takes wsX9_kindAt := goodIn_r _ [7, 8, 9, 16, 17, 18, 19] (by decide +kernel) (by decide +kernel)
set_option maxRecDepth 20000 in
theorem gX5_takes_X9_kindAt : GoodIn wsX5_takes (wsV RX5 54 RX9 yX9_kindAt wsX9_kindAt) := goodIn_app (goodIn_of _ (by decide +kernel)) ggX5_takes_X9_kindAt
theorem dX5_takes_0 : decode cX5_takes 0 = .ok (.aload_n 0, 1) := by decide +kernel
theorem dX5_takes_1 : decode cX5_takes 1 = .ok (.getfield 12, 3) := by decide +kernel
theorem dX5_takes_4 : decode cX5_takes 4 = .ok (.aload_n 0, 1) := by decide +kernel
theorem dX5_takes_5 : decode cX5_takes 5 = .ok (.getfield 32, 3) := by decide +kernel
theorem dX5_takes_8 : decode cX5_takes 8 = .ok (.invokevirtual 54, 3) := by decide +kernel
theorem dX5_takes_11 : decode cX5_takes 11 = .ok (.iload_n 1, 1) := by decide +kernel
theorem dX5_takes_12 : decode cX5_takes 12 = .ok (.if_icmp .eq 5, 3) := by decide +kernel
theorem dX5_takes_15 : decode cX5_takes 15 = .ok (.iconst 0, 1) := by decide +kernel
theorem dX5_takes_16 : decode cX5_takes 16 = .ok (.ireturn, 1) := by decide +kernel
theorem dX5_takes_17 : decode cX5_takes 17 = .ok (.aload_n 0, 1) := by decide +kernel
theorem dX5_takes_18 : decode cX5_takes 18 = .ok (.dup, 1) := by decide +kernel
theorem dX5_takes_19 : decode cX5_takes 19 = .ok (.getfield 32, 3) := by decide +kernel
theorem dX5_takes_22 : decode cX5_takes 22 = .ok (.iconst 1, 1) := by decide +kernel
theorem dX5_takes_23 : decode cX5_takes 23 = .ok (.iadd, 1) := by decide +kernel
theorem dX5_takes_24 : decode cX5_takes 24 = .ok (.putfield 32, 3) := by decide +kernel
theorem dX5_takes_27 : decode cX5_takes 27 = .ok (.iconst 1, 1) := by decide +kernel
theorem dX5_takes_28 : decode cX5_takes 28 = .ok (.ireturn, 1) := by decide +kernel
set_option maxRecDepth 20000 in
theorem ggX5_wordFrom_X9_kindAt : GoodIn wsX5_wordFrom wsX9_kindAt := goodIn_r _ [7, 8, 9, 16, 17, 18, 19] (by decide +kernel) (by decide +kernel)
set_option maxRecDepth 20000 in
theorem gX5_wordFrom_X9_kindAt : GoodIn wsX5_wordFrom (wsV RX5 54 RX9 yX9_kindAt wsX9_kindAt) := goodIn_app (goodIn_of _ (by decide +kernel)) ggX5_wordFrom_X9_kindAt
theorem dX5_wordFrom_0 : decode cX5_wordFrom 0 = .ok (.aload_n 0, 1) := by decide +kernel
theorem dX5_wordFrom_1 : decode cX5_wordFrom 1 = .ok (.getfield 12, 3) := by decide +kernel
theorem dX5_wordFrom_4 : decode cX5_wordFrom 4 = .ok (.aload_n 0, 1) := by decide +kernel
theorem dX5_wordFrom_5 : decode cX5_wordFrom 5 = .ok (.getfield 32, 3) := by decide +kernel
theorem dX5_wordFrom_8 : decode cX5_wordFrom 8 = .ok (.invokevirtual 54, 3) := by decide +kernel
theorem dX5_wordFrom_11 : decode cX5_wordFrom 11 = .ok (.istore_n 3, 1) := by decide +kernel
theorem dX5_wordFrom_12 : decode cX5_wordFrom 12 = .ok (.iload_n 3, 1) := by decide +kernel
theorem dX5_wordFrom_13 : decode cX5_wordFrom 13 = .ok (.iload_n 1, 1) := by decide +kernel
theorem dX5_wordFrom_14 : decode cX5_wordFrom 14 = .ok (.if_icmp .lt 14, 3) := by decide +kernel
theorem dX5_wordFrom_17 : decode cX5_wordFrom 17 = .ok (.iload_n 3, 1) := by decide +kernel
theorem dX5_wordFrom_18 : decode cX5_wordFrom 18 = .ok (.iload_n 2, 1) := by decide +kernel
theorem dX5_wordFrom_19 : decode cX5_wordFrom 19 = .ok (.if_icmp .ge 9, 3) := by decide +kernel
theorem dX5_wordFrom_22 : decode cX5_wordFrom 22 = .ok (.iload_n 3, 1) := by decide +kernel
theorem dX5_wordFrom_23 : decode cX5_wordFrom 23 = .ok (.iload_n 1, 1) := by decide +kernel
theorem dX5_wordFrom_24 : decode cX5_wordFrom 24 = .ok (.isub, 1) := by decide +kernel
theorem dX5_wordFrom_25 : decode cX5_wordFrom 25 = .ok (.goto 4, 3) := by decide +kernel
theorem dX5_wordFrom_28 : decode cX5_wordFrom 28 = .ok (.iconst (-1), 1) := by decide +kernel
theorem dX5_wordFrom_29 : decode cX5_wordFrom 29 = .ok (.ireturn, 1) := by decide +kernel
set_option maxRecDepth 20000 in
theorem ggX5_fail_X9_placeAt : GoodIn wsX5_fail wsX9_placeAt := goodIn_r _ [8, 9, 10, 17, 18, 19, 20] (by decide +kernel) (by decide +kernel)
set_option maxRecDepth 20000 in
theorem gX5_fail_X9_placeAt : GoodIn wsX5_fail (wsV RX5 121 RX9 yX9_placeAt wsX9_placeAt) := goodIn_app (goodIn_of _ (by decide +kernel)) ggX5_fail_X9_placeAt
theorem dX5_fail_0 : decode cX5_fail 0 = .ok (.aload_n 0, 1) := by decide +kernel
theorem dX5_fail_1 : decode cX5_fail 1 = .ok (.iconst 1, 1) := by decide +kernel
theorem dX5_fail_2 : decode cX5_fail 2 = .ok (.bipush 8, 2) := by decide +kernel
theorem dX5_fail_4 : decode cX5_fail 4 = .ok (.aload_n 0, 1) := by decide +kernel
theorem dX5_fail_5 : decode cX5_fail 5 = .ok (.getfield 12, 3) := by decide +kernel
theorem dX5_fail_8 : decode cX5_fail 8 = .ok (.aload_n 0, 1) := by decide +kernel
theorem dX5_fail_9 : decode cX5_fail 9 = .ok (.getfield 32, 3) := by decide +kernel
theorem dX5_fail_12 : decode cX5_fail 12 = .ok (.invokevirtual 121, 3) := by decide +kernel
theorem dX5_fail_15 : decode cX5_fail 15 = .ok (.imul, 1) := by decide +kernel
theorem dX5_fail_16 : decode cX5_fail 16 = .ok (.iadd, 1) := by decide +kernel
theorem dX5_fail_17 : decode cX5_fail 17 = .ok (.iload_n 1, 1) := by decide +kernel
theorem dX5_fail_18 : decode cX5_fail 18 = .ok (.iadd, 1) := by decide +kernel
theorem dX5_fail_19 : decode cX5_fail 19 = .ok (.putfield 39, 3) := by decide +kernel
theorem dX5_fail_22 : decode cX5_fail 22 = .ok (.iconst 0, 1) := by decide +kernel
theorem dX5_fail_23 : decode cX5_fail 23 = .ok (.ireturn, 1) := by decide +kernel
theorem dX6_init_0 : decode cX6_init 0 = .ok (.aload_n 0, 1) := by decide +kernel
theorem dX6_init_1 : decode cX6_init 1 = .ok (.invokespecial 1, 3) := by decide +kernel
theorem dX6_init_4 : decode cX6_init 4 = .ok (.aload_n 0, 1) := by decide +kernel
theorem dX6_init_5 : decode cX6_init 5 = .ok (.bipush 10, 2) := by decide +kernel
theorem dX6_init_7 : decode cX6_init 7 = .ok (.newarray .int, 2) := by decide +kernel
theorem dX6_init_9 : decode cX6_init 9 = .ok (.putfield 9, 3) := by decide +kernel
theorem dX6_init_12 : decode cX6_init 12 = .ok (.return_, 1) := by decide +kernel
set_option maxRecDepth 20000 in
theorem ggX6_turnTo_X1_ageOf : GoodIn wsX6_turnTo wsX1_ageOf := goodIn_r _ [6, 7, 8, 9, 10, 5, 11, 12, 29, 30, 31, 32, 33, 34, 35, 36, 37] (by decide +kernel) (by decide +kernel)
set_option maxRecDepth 20000 in
theorem gX6_turnTo_X1_ageOf : GoodIn wsX6_turnTo (wsV RX6 13 RX1 yX1_ageOf wsX1_ageOf) := goodIn_app (goodIn_of _ (by decide +kernel)) ggX6_turnTo_X1_ageOf
set_option maxRecDepth 20000 in
theorem ggX6_turnTo_X1_rankOf : GoodIn wsX6_turnTo wsX1_rankOf := goodIn_r _ [16, 17, 8, 9, 10, 5, 11, 12, 29, 30, 31, 32, 33, 34, 35, 36, 37] (by decide +kernel) (by decide +kernel)
set_option maxRecDepth 20000 in
theorem gX6_turnTo_X1_rankOf : GoodIn wsX6_turnTo (wsV RX6 19 RX1 yX1_rankOf wsX1_rankOf) := goodIn_app (goodIn_of _ (by decide +kernel)) ggX6_turnTo_X1_rankOf
set_option maxRecDepth 20000 in
theorem ggX6_turnTo_X1_houseOf : GoodIn wsX6_turnTo wsX1_houseOf := goodIn_r _ [21, 22, 8, 9, 10, 5, 11, 12, 29, 30, 31, 32, 33, 34, 35, 36, 37] (by decide +kernel) (by decide +kernel)
set_option maxRecDepth 20000 in
theorem gX6_turnTo_X1_houseOf : GoodIn wsX6_turnTo (wsV RX6 22 RX1 yX1_houseOf wsX1_houseOf) := goodIn_app (goodIn_of _ (by decide +kernel)) ggX6_turnTo_X1_houseOf
set_option maxRecDepth 20000 in
theorem ggX6_turnTo_X1_isOwing : GoodIn wsX6_turnTo wsX1_isOwing := goodIn_r _ [26, 27, 8, 9, 10, 5, 11, 12, 29, 30, 31, 32, 33, 34, 35, 36, 37] (by decide +kernel) (by decide +kernel)
set_option maxRecDepth 20000 in
theorem gX6_turnTo_X1_isOwing : GoodIn wsX6_turnTo (wsV RX6 25 RX1 yX1_isOwing wsX1_isOwing) := goodIn_app (goodIn_of _ (by decide +kernel)) ggX6_turnTo_X1_isOwing
theorem dX6_turnTo_0 : decode cX6_turnTo 0 = .ok (.aload_n 0, 1) := by decide +kernel
theorem dX6_turnTo_1 : decode cX6_turnTo 1 = .ok (.getfield 9, 3) := by decide +kernel
theorem dX6_turnTo_4 : decode cX6_turnTo 4 = .ok (.iconst 0, 1) := by decide +kernel
theorem dX6_turnTo_5 : decode cX6_turnTo 5 = .ok (.aload_n 1, 1) := by decide +kernel
theorem dX6_turnTo_6 : decode cX6_turnTo 6 = .ok (.iload_n 2, 1) := by decide +kernel
theorem dX6_turnTo_7 : decode cX6_turnTo 7 = .ok (.invokevirtual 13, 3) := by decide +kernel
theorem dX6_turnTo_10 : decode cX6_turnTo 10 = .ok (.iastore, 1) := by decide +kernel
theorem dX6_turnTo_11 : decode cX6_turnTo 11 = .ok (.aload_n 0, 1) := by decide +kernel
theorem dX6_turnTo_12 : decode cX6_turnTo 12 = .ok (.getfield 9, 3) := by decide +kernel
theorem dX6_turnTo_15 : decode cX6_turnTo 15 = .ok (.iconst 1, 1) := by decide +kernel
theorem dX6_turnTo_16 : decode cX6_turnTo 16 = .ok (.aload_n 1, 1) := by decide +kernel
theorem dX6_turnTo_17 : decode cX6_turnTo 17 = .ok (.iload_n 2, 1) := by decide +kernel
theorem dX6_turnTo_18 : decode cX6_turnTo 18 = .ok (.invokevirtual 19, 3) := by decide +kernel
theorem dX6_turnTo_21 : decode cX6_turnTo 21 = .ok (.iastore, 1) := by decide +kernel
theorem dX6_turnTo_22 : decode cX6_turnTo 22 = .ok (.aload_n 0, 1) := by decide +kernel
theorem dX6_turnTo_23 : decode cX6_turnTo 23 = .ok (.getfield 9, 3) := by decide +kernel
theorem dX6_turnTo_26 : decode cX6_turnTo 26 = .ok (.iconst 2, 1) := by decide +kernel
theorem dX6_turnTo_27 : decode cX6_turnTo 27 = .ok (.aload_n 1, 1) := by decide +kernel
theorem dX6_turnTo_28 : decode cX6_turnTo 28 = .ok (.iload_n 3, 1) := by decide +kernel
theorem dX6_turnTo_29 : decode cX6_turnTo 29 = .ok (.invokevirtual 13, 3) := by decide +kernel
theorem dX6_turnTo_32 : decode cX6_turnTo 32 = .ok (.iastore, 1) := by decide +kernel
theorem dX6_turnTo_33 : decode cX6_turnTo 33 = .ok (.aload_n 0, 1) := by decide +kernel
theorem dX6_turnTo_34 : decode cX6_turnTo 34 = .ok (.getfield 9, 3) := by decide +kernel
theorem dX6_turnTo_37 : decode cX6_turnTo 37 = .ok (.iconst 3, 1) := by decide +kernel
theorem dX6_turnTo_38 : decode cX6_turnTo 38 = .ok (.aload_n 1, 1) := by decide +kernel
theorem dX6_turnTo_39 : decode cX6_turnTo 39 = .ok (.iload_n 3, 1) := by decide +kernel
theorem dX6_turnTo_40 : decode cX6_turnTo 40 = .ok (.invokevirtual 19, 3) := by decide +kernel
theorem dX6_turnTo_43 : decode cX6_turnTo 43 = .ok (.iastore, 1) := by decide +kernel
theorem dX6_turnTo_44 : decode cX6_turnTo 44 = .ok (.aload_n 0, 1) := by decide +kernel
theorem dX6_turnTo_45 : decode cX6_turnTo 45 = .ok (.getfield 9, 3) := by decide +kernel
theorem dX6_turnTo_48 : decode cX6_turnTo 48 = .ok (.iconst 4, 1) := by decide +kernel
theorem dX6_turnTo_49 : decode cX6_turnTo 49 = .ok (.aload_n 1, 1) := by decide +kernel
theorem dX6_turnTo_50 : decode cX6_turnTo 50 = .ok (.iload_n 2, 1) := by decide +kernel
theorem dX6_turnTo_51 : decode cX6_turnTo 51 = .ok (.invokevirtual 22, 3) := by decide +kernel
theorem dX6_turnTo_54 : decode cX6_turnTo 54 = .ok (.aload_n 1, 1) := by decide +kernel
theorem dX6_turnTo_55 : decode cX6_turnTo 55 = .ok (.iload_n 3, 1) := by decide +kernel
theorem dX6_turnTo_56 : decode cX6_turnTo 56 = .ok (.invokevirtual 22, 3) := by decide +kernel
theorem dX6_turnTo_59 : decode cX6_turnTo 59 = .ok (.if_icmp .ne 7, 3) := by decide +kernel
theorem dX6_turnTo_62 : decode cX6_turnTo 62 = .ok (.iconst 1, 1) := by decide +kernel
theorem dX6_turnTo_63 : decode cX6_turnTo 63 = .ok (.goto 4, 3) := by decide +kernel
theorem dX6_turnTo_66 : decode cX6_turnTo 66 = .ok (.iconst 0, 1) := by decide +kernel
theorem dX6_turnTo_67 : decode cX6_turnTo 67 = .ok (.iastore, 1) := by decide +kernel
theorem dX6_turnTo_68 : decode cX6_turnTo 68 = .ok (.aload_n 0, 1) := by decide +kernel
theorem dX6_turnTo_69 : decode cX6_turnTo 69 = .ok (.getfield 9, 3) := by decide +kernel
theorem dX6_turnTo_72 : decode cX6_turnTo 72 = .ok (.iconst 5, 1) := by decide +kernel
theorem dX6_turnTo_73 : decode cX6_turnTo 73 = .ok (.aload_n 1, 1) := by decide +kernel
theorem dX6_turnTo_74 : decode cX6_turnTo 74 = .ok (.iload_n 2, 1) := by decide +kernel
theorem dX6_turnTo_75 : decode cX6_turnTo 75 = .ok (.iload_n 3, 1) := by decide +kernel
theorem dX6_turnTo_76 : decode cX6_turnTo 76 = .ok (.invokevirtual 25, 3) := by decide +kernel
theorem dX6_turnTo_79 : decode cX6_turnTo 79 = .ok (.ifCond .eq 7, 3) := by decide +kernel
theorem dX6_turnTo_82 : decode cX6_turnTo 82 = .ok (.iconst 1, 1) := by decide +kernel
theorem dX6_turnTo_83 : decode cX6_turnTo 83 = .ok (.goto 4, 3) := by decide +kernel
theorem dX6_turnTo_86 : decode cX6_turnTo 86 = .ok (.iconst 0, 1) := by decide +kernel
theorem dX6_turnTo_87 : decode cX6_turnTo 87 = .ok (.iastore, 1) := by decide +kernel
theorem dX6_turnTo_88 : decode cX6_turnTo 88 = .ok (.aload_n 0, 1) := by decide +kernel
theorem dX6_turnTo_89 : decode cX6_turnTo 89 = .ok (.getfield 9, 3) := by decide +kernel
theorem dX6_turnTo_92 : decode cX6_turnTo 92 = .ok (.bipush 6, 2) := by decide +kernel
theorem dX6_turnTo_94 : decode cX6_turnTo 94 = .ok (.iload 4, 2) := by decide +kernel
theorem dX6_turnTo_96 : decode cX6_turnTo 96 = .ok (.iastore, 1) := by decide +kernel
theorem dX6_turnTo_97 : decode cX6_turnTo 97 = .ok (.return_, 1) := by decide +kernel
theorem dX6_setHour_0 : decode cX6_setHour 0 = .ok (.aload_n 0, 1) := by decide +kernel
theorem dX6_setHour_1 : decode cX6_setHour 1 = .ok (.getfield 9, 3) := by decide +kernel
theorem dX6_setHour_4 : decode cX6_setHour 4 = .ok (.bipush 7, 2) := by decide +kernel
theorem dX6_setHour_6 : decode cX6_setHour 6 = .ok (.iload_n 1, 1) := by decide +kernel
theorem dX6_setHour_7 : decode cX6_setHour 7 = .ok (.iastore, 1) := by decide +kernel
theorem dX6_setHour_8 : decode cX6_setHour 8 = .ok (.aload_n 0, 1) := by decide +kernel
theorem dX6_setHour_9 : decode cX6_setHour 9 = .ok (.getfield 9, 3) := by decide +kernel
theorem dX6_setHour_12 : decode cX6_setHour 12 = .ok (.bipush 8, 2) := by decide +kernel
theorem dX6_setHour_14 : decode cX6_setHour 14 = .ok (.iload_n 2, 1) := by decide +kernel
theorem dX6_setHour_15 : decode cX6_setHour 15 = .ok (.iastore, 1) := by decide +kernel
theorem dX6_setHour_16 : decode cX6_setHour 16 = .ok (.aload_n 0, 1) := by decide +kernel
theorem dX6_setHour_17 : decode cX6_setHour 17 = .ok (.getfield 9, 3) := by decide +kernel
theorem dX6_setHour_20 : decode cX6_setHour 20 = .ok (.bipush 9, 2) := by decide +kernel
theorem dX6_setHour_22 : decode cX6_setHour 22 = .ok (.iload_n 3, 1) := by decide +kernel
theorem dX6_setHour_23 : decode cX6_setHour 23 = .ok (.iastore, 1) := by decide +kernel
theorem dX6_setHour_24 : decode cX6_setHour 24 = .ok (.return_, 1) := by decide +kernel
theorem dX6_valueOf_0 : decode cX6_valueOf 0 = .ok (.iload_n 1, 1) := by decide +kernel
theorem dX6_valueOf_1 : decode cX6_valueOf 1 = .ok (.ifCond .lt 18, 3) := by decide +kernel
theorem dX6_valueOf_4 : decode cX6_valueOf 4 = .ok (.iload_n 1, 1) := by decide +kernel
theorem dX6_valueOf_5 : decode cX6_valueOf 5 = .ok (.bipush 10, 2) := by decide +kernel
theorem dX6_valueOf_7 : decode cX6_valueOf 7 = .ok (.if_icmp .ge 12, 3) := by decide +kernel
theorem dX6_valueOf_10 : decode cX6_valueOf 10 = .ok (.aload_n 0, 1) := by decide +kernel
theorem dX6_valueOf_11 : decode cX6_valueOf 11 = .ok (.getfield 9, 3) := by decide +kernel
theorem dX6_valueOf_14 : decode cX6_valueOf 14 = .ok (.iload_n 1, 1) := by decide +kernel
theorem dX6_valueOf_15 : decode cX6_valueOf 15 = .ok (.iaload, 1) := by decide +kernel
theorem dX6_valueOf_16 : decode cX6_valueOf 16 = .ok (.goto 4, 3) := by decide +kernel
theorem dX6_valueOf_19 : decode cX6_valueOf 19 = .ok (.iconst 0, 1) := by decide +kernel
theorem dX6_valueOf_20 : decode cX6_valueOf 20 = .ok (.ireturn, 1) := by decide +kernel
theorem dX7_of_0 : decode cX7_of 0 = .ok (.iload_n 0, 1) := by decide +kernel
theorem dX7_of_1 : decode cX7_of 1 = .ok (.iload_n 1, 1) := by decide +kernel
theorem dX7_of_2 : decode cX7_of 2 = .ok (.iconst 4, 1) := by decide +kernel
theorem dX7_of_3 : decode cX7_of 3 = .ok (.ishl, 1) := by decide +kernel
theorem dX7_of_4 : decode cX7_of 4 = .ok (.ior, 1) := by decide +kernel
theorem dX7_of_5 : decode cX7_of 5 = .ok (.iload_n 2, 1) := by decide +kernel
theorem dX7_of_6 : decode cX7_of 6 = .ok (.bipush 8, 2) := by decide +kernel
theorem dX7_of_8 : decode cX7_of 8 = .ok (.ishl, 1) := by decide +kernel
theorem dX7_of_9 : decode cX7_of 9 = .ok (.ior, 1) := by decide +kernel
theorem dX7_of_10 : decode cX7_of 10 = .ok (.iload_n 3, 1) := by decide +kernel
theorem dX7_of_11 : decode cX7_of 11 = .ok (.bipush 12, 2) := by decide +kernel
theorem dX7_of_13 : decode cX7_of 13 = .ok (.ishl, 1) := by decide +kernel
theorem dX7_of_14 : decode cX7_of 14 = .ok (.ior, 1) := by decide +kernel
theorem dX7_of_15 : decode cX7_of 15 = .ok (.iload 4, 2) := by decide +kernel
theorem dX7_of_17 : decode cX7_of 17 = .ok (.bipush 13, 2) := by decide +kernel
theorem dX7_of_19 : decode cX7_of 19 = .ok (.ishl, 1) := by decide +kernel
theorem dX7_of_20 : decode cX7_of 20 = .ok (.ior, 1) := by decide +kernel
theorem dX7_of_21 : decode cX7_of 21 = .ok (.ireturn, 1) := by decide +kernel
theorem dX7_ended_0 : decode cX7_ended 0 = .ok (.iload_n 0, 1) := by decide +kernel
theorem dX7_ended_1 : decode cX7_ended 1 = .ok (.iload_n 1, 1) := by decide +kernel
theorem dX7_ended_2 : decode cX7_ended 2 = .ok (.bipush 15, 2) := by decide +kernel
theorem dX7_ended_4 : decode cX7_ended 4 = .ok (.ishl, 1) := by decide +kernel
theorem dX7_ended_5 : decode cX7_ended 5 = .ok (.ior, 1) := by decide +kernel
theorem dX7_ended_6 : decode cX7_ended 6 = .ok (.iload_n 2, 1) := by decide +kernel
theorem dX7_ended_7 : decode cX7_ended 7 = .ok (.bipush 18, 2) := by decide +kernel
theorem dX7_ended_9 : decode cX7_ended 9 = .ok (.ishl, 1) := by decide +kernel
theorem dX7_ended_10 : decode cX7_ended 10 = .ok (.ior, 1) := by decide +kernel
theorem dX7_ended_11 : decode cX7_ended 11 = .ok (.ireturn, 1) := by decide +kernel
theorem dX7_owed_0 : decode cX7_owed 0 = .ok (.iload_n 1, 1) := by decide +kernel
theorem dX7_owed_1 : decode cX7_owed 1 = .ok (.ifCond .ne 7, 3) := by decide +kernel
theorem dX7_owed_4 : decode cX7_owed 4 = .ok (.iload_n 0, 1) := by decide +kernel
theorem dX7_owed_5 : decode cX7_owed 5 = .ok (.goto 6, 3) := by decide +kernel
theorem dX7_owed_8 : decode cX7_owed 8 = .ok (.iload_n 0, 1) := by decide +kernel
theorem dX7_owed_9 : decode cX7_owed 9 = .ok (.iconst 4, 1) := by decide +kernel
theorem dX7_owed_10 : decode cX7_owed 10 = .ok (.ishr, 1) := by decide +kernel
theorem dX7_owed_11 : decode cX7_owed 11 = .ok (.bipush 15, 2) := by decide +kernel
theorem dX7_owed_13 : decode cX7_owed 13 = .ok (.iand, 1) := by decide +kernel
theorem dX7_owed_14 : decode cX7_owed 14 = .ok (.ireturn, 1) := by decide +kernel
theorem dX7_left_0 : decode cX7_left 0 = .ok (.iload_n 0, 1) := by decide +kernel
theorem dX7_left_1 : decode cX7_left 1 = .ok (.bipush 8, 2) := by decide +kernel
theorem dX7_left_3 : decode cX7_left 3 = .ok (.ishr, 1) := by decide +kernel
theorem dX7_left_4 : decode cX7_left 4 = .ok (.bipush 15, 2) := by decide +kernel
theorem dX7_left_6 : decode cX7_left 6 = .ok (.iand, 1) := by decide +kernel
theorem dX7_left_7 : decode cX7_left 7 = .ok (.ireturn, 1) := by decide +kernel
theorem dX7_turn_0 : decode cX7_turn 0 = .ok (.iload_n 0, 1) := by decide +kernel
theorem dX7_turn_1 : decode cX7_turn 1 = .ok (.bipush 12, 2) := by decide +kernel
theorem dX7_turn_3 : decode cX7_turn 3 = .ok (.ishr, 1) := by decide +kernel
theorem dX7_turn_4 : decode cX7_turn 4 = .ok (.iconst 1, 1) := by decide +kernel
theorem dX7_turn_5 : decode cX7_turn 5 = .ok (.iand, 1) := by decide +kernel
theorem dX7_turn_6 : decode cX7_turn 6 = .ok (.ireturn, 1) := by decide +kernel
theorem dX7_asked_0 : decode cX7_asked 0 = .ok (.iload_n 0, 1) := by decide +kernel
theorem dX7_asked_1 : decode cX7_asked 1 = .ok (.bipush 13, 2) := by decide +kernel
theorem dX7_asked_3 : decode cX7_asked 3 = .ok (.ishr, 1) := by decide +kernel
theorem dX7_asked_4 : decode cX7_asked 4 = .ok (.iconst 3, 1) := by decide +kernel
theorem dX7_asked_5 : decode cX7_asked 5 = .ok (.iand, 1) := by decide +kernel
theorem dX7_asked_6 : decode cX7_asked 6 = .ok (.ireturn, 1) := by decide +kernel
theorem dX7_ending_0 : decode cX7_ending 0 = .ok (.iload_n 0, 1) := by decide +kernel
theorem dX7_ending_1 : decode cX7_ending 1 = .ok (.bipush 15, 2) := by decide +kernel
theorem dX7_ending_3 : decode cX7_ending 3 = .ok (.ishr, 1) := by decide +kernel
theorem dX7_ending_4 : decode cX7_ending 4 = .ok (.bipush 7, 2) := by decide +kernel
theorem dX7_ending_6 : decode cX7_ending 6 = .ok (.iand, 1) := by decide +kernel
theorem dX7_ending_7 : decode cX7_ending 7 = .ok (.ireturn, 1) := by decide +kernel
theorem dX7_less_0 : decode cX7_less 0 = .ok (.iload_n 0, 1) := by decide +kernel
theorem dX7_less_1 : decode cX7_less 1 = .ok (.bipush 18, 2) := by decide +kernel
theorem dX7_less_3 : decode cX7_less 3 = .ok (.ishr, 1) := by decide +kernel
theorem dX7_less_4 : decode cX7_less 4 = .ok (.iconst 3, 1) := by decide +kernel
theorem dX7_less_5 : decode cX7_less 5 = .ok (.iand, 1) := by decide +kernel
theorem dX7_less_6 : decode cX7_less 6 = .ok (.ireturn, 1) := by decide +kernel
set_option maxRecDepth 20000 in
theorem ggX7_outcome_X7_ending : GoodIn wsX7_outcome wsX7_ending := goodIn_r _ [4] (by decide +kernel) (by decide +kernel)
set_option maxRecDepth 20000 in
theorem gX7_outcome_X7_ending : GoodIn wsX7_outcome (va_wsS RX7 7 yX7_ending wsX7_ending) := goodIn_app (goodIn_of _ (by decide +kernel)) ggX7_outcome_X7_ending
set_option maxRecDepth 20000 in
theorem ggX7_outcome_X7_less : GoodIn wsX7_outcome wsX7_less := goodIn_r _ [7] (by decide +kernel) (by decide +kernel)
set_option maxRecDepth 20000 in
theorem gX7_outcome_X7_less : GoodIn wsX7_outcome (va_wsS RX7 13 yX7_less wsX7_less) := goodIn_app (goodIn_of _ (by decide +kernel)) ggX7_outcome_X7_less
theorem dX7_outcome_0 : decode cX7_outcome 0 = .ok (.iconst 4, 1) := by decide +kernel
theorem dX7_outcome_1 : decode cX7_outcome 1 = .ok (.iload_n 0, 1) := by decide +kernel
theorem dX7_outcome_2 : decode cX7_outcome 2 = .ok (.invokestatic 7, 3) := by decide +kernel
theorem dX7_outcome_5 : decode cX7_outcome 5 = .ok (.imul, 1) := by decide +kernel
theorem dX7_outcome_6 : decode cX7_outcome 6 = .ok (.iload_n 0, 1) := by decide +kernel
theorem dX7_outcome_7 : decode cX7_outcome 7 = .ok (.invokestatic 13, 3) := by decide +kernel
theorem dX7_outcome_10 : decode cX7_outcome 10 = .ok (.iadd, 1) := by decide +kernel
theorem dX7_outcome_11 : decode cX7_outcome 11 = .ok (.ireturn, 1) := by decide +kernel
set_option maxRecDepth 20000 in
theorem ggX7_spot_X7_left : GoodIn wsX7_spot wsX7_left := goodIn_r _ [4] (by decide +kernel) (by decide +kernel)
set_option maxRecDepth 20000 in
theorem gX7_spot_X7_left : GoodIn wsX7_spot (va_wsS RX7 16 yX7_left wsX7_left) := goodIn_app (goodIn_of _ (by decide +kernel)) ggX7_spot_X7_left
set_option maxRecDepth 20000 in
theorem ggX7_spot_X7_asked : GoodIn wsX7_spot wsX7_asked := goodIn_r _ [7] (by decide +kernel) (by decide +kernel)
set_option maxRecDepth 20000 in
theorem gX7_spot_X7_asked : GoodIn wsX7_spot (va_wsS RX7 19 yX7_asked wsX7_asked) := goodIn_app (goodIn_of _ (by decide +kernel)) ggX7_spot_X7_asked
theorem dX7_spot_0 : decode cX7_spot 0 = .ok (.iload_n 0, 1) := by decide +kernel
theorem dX7_spot_1 : decode cX7_spot 1 = .ok (.invokestatic 16, 3) := by decide +kernel
theorem dX7_spot_4 : decode cX7_spot 4 = .ok (.iconst 1, 1) := by decide +kernel
theorem dX7_spot_5 : decode cX7_spot 5 = .ok (.isub, 1) := by decide +kernel
theorem dX7_spot_6 : decode cX7_spot 6 = .ok (.bipush 7, 2) := by decide +kernel
theorem dX7_spot_8 : decode cX7_spot 8 = .ok (.iand, 1) := by decide +kernel
theorem dX7_spot_9 : decode cX7_spot 9 = .ok (.bipush 9, 2) := by decide +kernel
theorem dX7_spot_11 : decode cX7_spot 11 = .ok (.ishl, 1) := by decide +kernel
theorem dX7_spot_12 : decode cX7_spot 12 = .ok (.iload_n 0, 1) := by decide +kernel
theorem dX7_spot_13 : decode cX7_spot 13 = .ok (.invokestatic 19, 3) := by decide +kernel
theorem dX7_spot_16 : decode cX7_spot 16 = .ok (.ifCond .ne 7, 3) := by decide +kernel
theorem dX7_spot_19 : decode cX7_spot 19 = .ok (.iconst 0, 1) := by decide +kernel
theorem dX7_spot_20 : decode cX7_spot 20 = .ok (.goto 6, 3) := by decide +kernel
theorem dX7_spot_23 : decode cX7_spot 23 = .ok (.sipush 256, 3) := by decide +kernel
theorem dX7_spot_26 : decode cX7_spot 26 = .ok (.ior, 1) := by decide +kernel
theorem dX7_spot_27 : decode cX7_spot 27 = .ok (.iload_n 0, 1) := by decide +kernel
theorem dX7_spot_28 : decode cX7_spot 28 = .ok (.sipush 255, 3) := by decide +kernel
theorem dX7_spot_31 : decode cX7_spot 31 = .ok (.iand, 1) := by decide +kernel
theorem dX7_spot_32 : decode cX7_spot 32 = .ok (.ior, 1) := by decide +kernel
theorem dX7_spot_33 : decode cX7_spot 33 = .ok (.ireturn, 1) := by decide +kernel
theorem dX8_init_0 : decode cX8_init 0 = .ok (.aload_n 0, 1) := by decide +kernel
theorem dX8_init_1 : decode cX8_init 1 = .ok (.invokespecial 3, 3) := by decide +kernel
theorem dX8_init_4 : decode cX8_init 4 = .ok (.aload_n 0, 1) := by decide +kernel
theorem dX8_init_5 : decode cX8_init 5 = .ok (.sipush 400, 3) := by decide +kernel
theorem dX8_init_8 : decode cX8_init 8 = .ok (.newarray .int, 2) := by decide +kernel
theorem dX8_init_10 : decode cX8_init 10 = .ok (.putfield 9, 3) := by decide +kernel
theorem dX8_init_13 : decode cX8_init 13 = .ok (.return_, 1) := by decide +kernel
theorem dX8_add_0 : decode cX8_add 0 = .ok (.bipush 24, 2) := by decide +kernel
theorem dX8_add_2 : decode cX8_add 2 = .ok (.istore_n 2, 1) := by decide +kernel
theorem dX8_add_3 : decode cX8_add 3 = .ok (.iload_n 2, 1) := by decide +kernel
theorem dX8_add_4 : decode cX8_add 4 = .ok (.ifCond .lt 45, 3) := by decide +kernel
theorem dX8_add_7 : decode cX8_add 7 = .ok (.aload_n 0, 1) := by decide +kernel
theorem dX8_add_8 : decode cX8_add 8 = .ok (.getfield 15, 3) := by decide +kernel
theorem dX8_add_11 : decode cX8_add 11 = .ok (.sipush 400, 3) := by decide +kernel
theorem dX8_add_14 : decode cX8_add 14 = .ok (.if_icmp .ge 35, 3) := by decide +kernel
theorem dX8_add_17 : decode cX8_add 17 = .ok (.aload_n 0, 1) := by decide +kernel
theorem dX8_add_18 : decode cX8_add 18 = .ok (.getfield 9, 3) := by decide +kernel
theorem dX8_add_21 : decode cX8_add 21 = .ok (.aload_n 0, 1) := by decide +kernel
theorem dX8_add_22 : decode cX8_add 22 = .ok (.getfield 15, 3) := by decide +kernel
theorem dX8_add_25 : decode cX8_add 25 = .ok (.iload_n 1, 1) := by decide +kernel
theorem dX8_add_26 : decode cX8_add 26 = .ok (.iload_n 2, 1) := by decide +kernel
theorem dX8_add_27 : decode cX8_add 27 = .ok (.ishr, 1) := by decide +kernel
theorem dX8_add_28 : decode cX8_add 28 = .ok (.sipush 255, 3) := by decide +kernel
theorem dX8_add_31 : decode cX8_add 31 = .ok (.iand, 1) := by decide +kernel
theorem dX8_add_32 : decode cX8_add 32 = .ok (.iastore, 1) := by decide +kernel
theorem dX8_add_33 : decode cX8_add 33 = .ok (.aload_n 0, 1) := by decide +kernel
theorem dX8_add_34 : decode cX8_add 34 = .ok (.dup, 1) := by decide +kernel
theorem dX8_add_35 : decode cX8_add 35 = .ok (.getfield 15, 3) := by decide +kernel
theorem dX8_add_38 : decode cX8_add 38 = .ok (.iconst 1, 1) := by decide +kernel
theorem dX8_add_39 : decode cX8_add 39 = .ok (.iadd, 1) := by decide +kernel
theorem dX8_add_40 : decode cX8_add 40 = .ok (.putfield 15, 3) := by decide +kernel
theorem dX8_add_43 : decode cX8_add 43 = .ok (.iinc 2 (-8), 3) := by decide +kernel
theorem dX8_add_46 : decode cX8_add 46 = .ok (.goto (-43), 3) := by decide +kernel
theorem dX8_add_49 : decode cX8_add 49 = .ok (.return_, 1) := by decide +kernel
theorem dX8_byteAt_0 : decode cX8_byteAt 0 = .ok (.iload_n 1, 1) := by decide +kernel
theorem dX8_byteAt_1 : decode cX8_byteAt 1 = .ok (.ifCond .lt 27, 3) := by decide +kernel
theorem dX8_byteAt_4 : decode cX8_byteAt 4 = .ok (.iload_n 1, 1) := by decide +kernel
theorem dX8_byteAt_5 : decode cX8_byteAt 5 = .ok (.aload_n 0, 1) := by decide +kernel
theorem dX8_byteAt_6 : decode cX8_byteAt 6 = .ok (.getfield 15, 3) := by decide +kernel
theorem dX8_byteAt_9 : decode cX8_byteAt 9 = .ok (.if_icmp .ge 19, 3) := by decide +kernel
theorem dX8_byteAt_12 : decode cX8_byteAt 12 = .ok (.iload_n 1, 1) := by decide +kernel
theorem dX8_byteAt_13 : decode cX8_byteAt 13 = .ok (.sipush 400, 3) := by decide +kernel
theorem dX8_byteAt_16 : decode cX8_byteAt 16 = .ok (.if_icmp .ge 12, 3) := by decide +kernel
theorem dX8_byteAt_19 : decode cX8_byteAt 19 = .ok (.aload_n 0, 1) := by decide +kernel
theorem dX8_byteAt_20 : decode cX8_byteAt 20 = .ok (.getfield 9, 3) := by decide +kernel
theorem dX8_byteAt_23 : decode cX8_byteAt 23 = .ok (.iload_n 1, 1) := by decide +kernel
theorem dX8_byteAt_24 : decode cX8_byteAt 24 = .ok (.iaload, 1) := by decide +kernel
theorem dX8_byteAt_25 : decode cX8_byteAt 25 = .ok (.goto 4, 3) := by decide +kernel
theorem dX8_byteAt_28 : decode cX8_byteAt 28 = .ok (.iconst (-1), 1) := by decide +kernel
theorem dX8_byteAt_29 : decode cX8_byteAt 29 = .ok (.ireturn, 1) := by decide +kernel
theorem dX9_init_0 : decode cX9_init 0 = .ok (.aload_n 0, 1) := by decide +kernel
theorem dX9_init_1 : decode cX9_init 1 = .ok (.invokespecial 3, 3) := by decide +kernel
theorem dX9_init_4 : decode cX9_init 4 = .ok (.aload_n 0, 1) := by decide +kernel
theorem dX9_init_5 : decode cX9_init 5 = .ok (.sipush 401, 3) := by decide +kernel
theorem dX9_init_8 : decode cX9_init 8 = .ok (.newarray .int, 2) := by decide +kernel
theorem dX9_init_10 : decode cX9_init 10 = .ok (.putfield 9, 3) := by decide +kernel
theorem dX9_init_13 : decode cX9_init 13 = .ok (.aload_n 0, 1) := by decide +kernel
theorem dX9_init_14 : decode cX9_init 14 = .ok (.sipush 401, 3) := by decide +kernel
theorem dX9_init_17 : decode cX9_init 17 = .ok (.newarray .int, 2) := by decide +kernel
theorem dX9_init_19 : decode cX9_init 19 = .ok (.putfield 15, 3) := by decide +kernel
theorem dX9_init_22 : decode cX9_init 22 = .ok (.aload_n 0, 1) := by decide +kernel
theorem dX9_init_23 : decode cX9_init 23 = .ok (.sipush 401, 3) := by decide +kernel
theorem dX9_init_26 : decode cX9_init 26 = .ok (.newarray .int, 2) := by decide +kernel
theorem dX9_init_28 : decode cX9_init 28 = .ok (.putfield 18, 3) := by decide +kernel
theorem dX9_init_31 : decode cX9_init 31 = .ok (.return_, 1) := by decide +kernel
set_option maxRecDepth 20000 in
theorem ggX9_take_X8_byteAt : GoodIn wsX9_take wsX8_byteAt := goodIn_r _ [7, 8, 9, 92, 93] (by decide +kernel) (by decide +kernel)
set_option maxRecDepth 20000 in
theorem gX9_take_X8_byteAt : GoodIn wsX9_take (wsV RX9 30 RX8 yX8_byteAt wsX8_byteAt) := goodIn_app (goodIn_of _ (by decide +kernel)) ggX9_take_X8_byteAt
set_option maxRecDepth 20000 in
theorem ggX9_take_X9_isLetter : GoodIn wsX9_take wsX9_isLetter := goodIn_r _ [13] (by decide +kernel) (by decide +kernel)
set_option maxRecDepth 20000 in
theorem gX9_take_X9_isLetter : GoodIn wsX9_take (va_wsS RX9 34 yX9_isLetter wsX9_isLetter) := goodIn_app (goodIn_of _ (by decide +kernel)) ggX9_take_X9_isLetter
set_option maxRecDepth 20000 in
theorem ggX9_take_X9_wordEnd : GoodIn wsX9_take wsX9_wordEnd := goodIn_r _ [16, 3, 4, 5, 6, 7, 8, 9, 10, 11, 12, 13, 92, 93] (by decide +kernel) (by decide +kernel)
set_option maxRecDepth 20000 in
theorem gX9_take_X9_wordEnd : GoodIn wsX9_take (va_wsS RX9 38 yX9_wordEnd wsX9_wordEnd) := goodIn_app (goodIn_of _ (by decide +kernel)) ggX9_take_X9_wordEnd
set_option maxRecDepth 20000 in
theorem ggX9_take_X9_wordOf : GoodIn wsX9_take wsX9_wordOf := goodIn_r _ [19, 20, 21, 22, 23, 24, 25, 26, 27, 28, 29, 30, 31, 32, 33, 34, 35, 36, 37, 38, 39, 40, 41, 42, 43, 44, 45, 46, 47, 48, 49, 50, 51, 52, 53, 54, 55, 56, 57, 58, 59, 60, 61, 62, 63, 64, 65, 66, 67, 68, 3, 4, 5, 6, 7, 8, 9, 92, 93] (by decide +kernel) (by decide +kernel)
set_option maxRecDepth 20000 in
theorem gX9_take_X9_wordOf : GoodIn wsX9_take (va_wsS RX9 42 yX9_wordOf wsX9_wordOf) := goodIn_app (goodIn_of _ (by decide +kernel)) ggX9_take_X9_wordOf
set_option maxRecDepth 20000 in
theorem ggX9_take_X9_add : GoodIn wsX9_take wsX9_add := goodIn_r _ [72, 1, 73, 74, 75, 88, 89, 90, 91] (by decide +kernel) (by decide +kernel)
set_option maxRecDepth 20000 in
theorem gX9_take_X9_add : GoodIn wsX9_take (wsV RX9 46 RX9 yX9_add wsX9_add) := goodIn_app (goodIn_of _ (by decide +kernel)) ggX9_take_X9_add
set_option maxRecDepth 20000 in
theorem ggX9_take_X9_isDigit : GoodIn wsX9_take wsX9_isDigit := goodIn_r _ [78] (by decide +kernel) (by decide +kernel)
set_option maxRecDepth 20000 in
theorem gX9_take_X9_isDigit : GoodIn wsX9_take (va_wsS RX9 50 yX9_isDigit wsX9_isDigit) := goodIn_app (goodIn_of _ (by decide +kernel)) ggX9_take_X9_isDigit
set_option maxRecDepth 20000 in
theorem ggX9_take_X9_numberEnd : GoodIn wsX9_take wsX9_numberEnd := goodIn_r _ [81, 3, 4, 5, 6, 7, 8, 9, 76, 77, 12, 78, 92, 93] (by decide +kernel) (by decide +kernel)
set_option maxRecDepth 20000 in
theorem gX9_take_X9_numberEnd : GoodIn wsX9_take (va_wsS RX9 53 yX9_numberEnd wsX9_numberEnd) := goodIn_app (goodIn_of _ (by decide +kernel)) ggX9_take_X9_numberEnd
set_option maxRecDepth 20000 in
theorem ggX9_take_X9_numberOf : GoodIn wsX9_take wsX9_numberOf := goodIn_r _ [84, 3, 4, 5, 6, 7, 8, 9, 92, 93] (by decide +kernel) (by decide +kernel)
set_option maxRecDepth 20000 in
theorem gX9_take_X9_numberOf : GoodIn wsX9_take (va_wsS RX9 56 yX9_numberOf wsX9_numberOf) := goodIn_app (goodIn_of _ (by decide +kernel)) ggX9_take_X9_numberOf
set_option maxRecDepth 20000 in
theorem ggX9_take_X9_signOf : GoodIn wsX9_take wsX9_signOf := goodIn_r _ [87] (by decide +kernel) (by decide +kernel)
set_option maxRecDepth 20000 in
theorem gX9_take_X9_signOf : GoodIn wsX9_take (va_wsS RX9 59 yX9_signOf wsX9_signOf) := goodIn_app (goodIn_of _ (by decide +kernel)) ggX9_take_X9_signOf
theorem dX9_take_0 : decode cX9_take 0 = .ok (.aload_n 0, 1) := by decide +kernel
theorem dX9_take_1 : decode cX9_take 1 = .ok (.iconst 0, 1) := by decide +kernel
theorem dX9_take_2 : decode cX9_take 2 = .ok (.putfield 21, 3) := by decide +kernel
theorem dX9_take_5 : decode cX9_take 5 = .ok (.iconst 0, 1) := by decide +kernel
theorem dX9_take_6 : decode cX9_take 6 = .ok (.istore_n 2, 1) := by decide +kernel
theorem dX9_take_7 : decode cX9_take 7 = .ok (.iconst 0, 1) := by decide +kernel
theorem dX9_take_8 : decode cX9_take 8 = .ok (.istore_n 3, 1) := by decide +kernel
theorem dX9_take_9 : decode cX9_take 9 = .ok (.iload_n 3, 1) := by decide +kernel
theorem dX9_take_10 : decode cX9_take 10 = .ok (.sipush 400, 3) := by decide +kernel
theorem dX9_take_13 : decode cX9_take 13 = .ok (.if_icmp .ge 144, 3) := by decide +kernel
theorem dX9_take_16 : decode cX9_take 16 = .ok (.iload_n 2, 1) := by decide +kernel
theorem dX9_take_17 : decode cX9_take 17 = .ok (.aload_n 1, 1) := by decide +kernel
theorem dX9_take_18 : decode cX9_take 18 = .ok (.getfield 25, 3) := by decide +kernel
theorem dX9_take_21 : decode cX9_take 21 = .ok (.if_icmp .ge 136, 3) := by decide +kernel
theorem dX9_take_24 : decode cX9_take 24 = .ok (.aload_n 1, 1) := by decide +kernel
theorem dX9_take_25 : decode cX9_take 25 = .ok (.iload_n 2, 1) := by decide +kernel
theorem dX9_take_26 : decode cX9_take 26 = .ok (.invokevirtual 30, 3) := by decide +kernel
theorem dX9_take_29 : decode cX9_take 29 = .ok (.istore 4, 2) := by decide +kernel
theorem dX9_take_31 : decode cX9_take 31 = .ok (.iload 4, 2) := by decide +kernel
theorem dX9_take_33 : decode cX9_take 33 = .ok (.bipush 32, 2) := by decide +kernel
theorem dX9_take_35 : decode cX9_take 35 = .ok (.if_icmp .ne 9, 3) := by decide +kernel
theorem dX9_take_38 : decode cX9_take 38 = .ok (.iinc 2 1, 3) := by decide +kernel
theorem dX9_take_41 : decode cX9_take 41 = .ok (.goto 110, 3) := by decide +kernel
theorem dX9_take_44 : decode cX9_take 44 = .ok (.iload 4, 2) := by decide +kernel
theorem dX9_take_46 : decode cX9_take 46 = .ok (.invokestatic 34, 3) := by decide +kernel
theorem dX9_take_49 : decode cX9_take 49 = .ok (.ifCond .eq 29, 3) := by decide +kernel
theorem dX9_take_52 : decode cX9_take 52 = .ok (.aload_n 1, 1) := by decide +kernel
theorem dX9_take_53 : decode cX9_take 53 = .ok (.iload_n 2, 1) := by decide +kernel
theorem dX9_take_54 : decode cX9_take 54 = .ok (.invokestatic 38, 3) := by decide +kernel
theorem dX9_take_57 : decode cX9_take 57 = .ok (.istore 5, 2) := by decide +kernel
theorem dX9_take_59 : decode cX9_take 59 = .ok (.aload_n 0, 1) := by decide +kernel
theorem dX9_take_60 : decode cX9_take 60 = .ok (.aload_n 1, 1) := by decide +kernel
theorem dX9_take_61 : decode cX9_take 61 = .ok (.iload_n 2, 1) := by decide +kernel
theorem dX9_take_62 : decode cX9_take 62 = .ok (.iload 5, 2) := by decide +kernel
theorem dX9_take_64 : decode cX9_take 64 = .ok (.invokestatic 42, 3) := by decide +kernel
theorem dX9_take_67 : decode cX9_take 67 = .ok (.iload_n 2, 1) := by decide +kernel
theorem dX9_take_68 : decode cX9_take 68 = .ok (.iconst 0, 1) := by decide +kernel
theorem dX9_take_69 : decode cX9_take 69 = .ok (.invokevirtual 46, 3) := by decide +kernel
theorem dX9_take_72 : decode cX9_take 72 = .ok (.iload 5, 2) := by decide +kernel
theorem dX9_take_74 : decode cX9_take 74 = .ok (.istore_n 2, 1) := by decide +kernel
theorem dX9_take_75 : decode cX9_take 75 = .ok (.goto 76, 3) := by decide +kernel
theorem dX9_take_78 : decode cX9_take 78 = .ok (.iload 4, 2) := by decide +kernel
theorem dX9_take_80 : decode cX9_take 80 = .ok (.invokestatic 50, 3) := by decide +kernel
theorem dX9_take_83 : decode cX9_take 83 = .ok (.ifCond .eq 30, 3) := by decide +kernel
theorem dX9_take_86 : decode cX9_take 86 = .ok (.aload_n 1, 1) := by decide +kernel
theorem dX9_take_87 : decode cX9_take 87 = .ok (.iload_n 2, 1) := by decide +kernel
theorem dX9_take_88 : decode cX9_take 88 = .ok (.invokestatic 53, 3) := by decide +kernel
theorem dX9_take_91 : decode cX9_take 91 = .ok (.istore 5, 2) := by decide +kernel
theorem dX9_take_93 : decode cX9_take 93 = .ok (.aload_n 0, 1) := by decide +kernel
theorem dX9_take_94 : decode cX9_take 94 = .ok (.bipush 30, 2) := by decide +kernel
theorem dX9_take_96 : decode cX9_take 96 = .ok (.iload_n 2, 1) := by decide +kernel
theorem dX9_take_97 : decode cX9_take 97 = .ok (.aload_n 1, 1) := by decide +kernel
theorem dX9_take_98 : decode cX9_take 98 = .ok (.iload_n 2, 1) := by decide +kernel
theorem dX9_take_99 : decode cX9_take 99 = .ok (.iload 5, 2) := by decide +kernel
theorem dX9_take_101 : decode cX9_take 101 = .ok (.invokestatic 56, 3) := by decide +kernel
theorem dX9_take_104 : decode cX9_take 104 = .ok (.invokevirtual 46, 3) := by decide +kernel
theorem dX9_take_107 : decode cX9_take 107 = .ok (.iload 5, 2) := by decide +kernel
theorem dX9_take_109 : decode cX9_take 109 = .ok (.istore_n 2, 1) := by decide +kernel
theorem dX9_take_110 : decode cX9_take 110 = .ok (.goto 41, 3) := by decide +kernel
theorem dX9_take_113 : decode cX9_take 113 = .ok (.iload 4, 2) := by decide +kernel
theorem dX9_take_115 : decode cX9_take 115 = .ok (.aload_n 1, 1) := by decide +kernel
theorem dX9_take_116 : decode cX9_take 116 = .ok (.iload_n 2, 1) := by decide +kernel
theorem dX9_take_117 : decode cX9_take 117 = .ok (.iconst 1, 1) := by decide +kernel
theorem dX9_take_118 : decode cX9_take 118 = .ok (.iadd, 1) := by decide +kernel
theorem dX9_take_119 : decode cX9_take 119 = .ok (.invokevirtual 30, 3) := by decide +kernel
theorem dX9_take_122 : decode cX9_take 122 = .ok (.invokestatic 59, 3) := by decide +kernel
theorem dX9_take_125 : decode cX9_take 125 = .ok (.istore 5, 2) := by decide +kernel
theorem dX9_take_127 : decode cX9_take 127 = .ok (.aload_n 0, 1) := by decide +kernel
theorem dX9_take_128 : decode cX9_take 128 = .ok (.iload 5, 2) := by decide +kernel
theorem dX9_take_130 : decode cX9_take 130 = .ok (.iload_n 2, 1) := by decide +kernel
theorem dX9_take_131 : decode cX9_take 131 = .ok (.iconst 0, 1) := by decide +kernel
theorem dX9_take_132 : decode cX9_take 132 = .ok (.invokevirtual 46, 3) := by decide +kernel
theorem dX9_take_135 : decode cX9_take 135 = .ok (.iload_n 2, 1) := by decide +kernel
theorem dX9_take_136 : decode cX9_take 136 = .ok (.iload 5, 2) := by decide +kernel
theorem dX9_take_138 : decode cX9_take 138 = .ok (.sipush 512, 3) := by decide +kernel
theorem dX9_take_141 : decode cX9_take 141 = .ok (.if_icmp .lt 7, 3) := by decide +kernel
theorem dX9_take_144 : decode cX9_take 144 = .ok (.iconst 2, 1) := by decide +kernel
theorem dX9_take_145 : decode cX9_take 145 = .ok (.goto 4, 3) := by decide +kernel
theorem dX9_take_148 : decode cX9_take 148 = .ok (.iconst 1, 1) := by decide +kernel
theorem dX9_take_149 : decode cX9_take 149 = .ok (.iadd, 1) := by decide +kernel
theorem dX9_take_150 : decode cX9_take 150 = .ok (.istore_n 2, 1) := by decide +kernel
theorem dX9_take_151 : decode cX9_take 151 = .ok (.iinc 3 1, 3) := by decide +kernel
theorem dX9_take_154 : decode cX9_take 154 = .ok (.goto (-145), 3) := by decide +kernel
theorem dX9_take_157 : decode cX9_take 157 = .ok (.aload_n 0, 1) := by decide +kernel
theorem dX9_take_158 : decode cX9_take 158 = .ok (.bipush 31, 2) := by decide +kernel
theorem dX9_take_160 : decode cX9_take 160 = .ok (.aload_n 1, 1) := by decide +kernel
theorem dX9_take_161 : decode cX9_take 161 = .ok (.getfield 25, 3) := by decide +kernel
theorem dX9_take_164 : decode cX9_take 164 = .ok (.iconst 0, 1) := by decide +kernel
theorem dX9_take_165 : decode cX9_take 165 = .ok (.invokevirtual 46, 3) := by decide +kernel
theorem dX9_take_168 : decode cX9_take 168 = .ok (.return_, 1) := by decide +kernel
theorem dX9_kindAt_0 : decode cX9_kindAt 0 = .ok (.iload_n 1, 1) := by decide +kernel
theorem dX9_kindAt_1 : decode cX9_kindAt 1 = .ok (.ifCond .lt 27, 3) := by decide +kernel
theorem dX9_kindAt_4 : decode cX9_kindAt 4 = .ok (.iload_n 1, 1) := by decide +kernel
theorem dX9_kindAt_5 : decode cX9_kindAt 5 = .ok (.aload_n 0, 1) := by decide +kernel
theorem dX9_kindAt_6 : decode cX9_kindAt 6 = .ok (.getfield 21, 3) := by decide +kernel
theorem dX9_kindAt_9 : decode cX9_kindAt 9 = .ok (.if_icmp .ge 19, 3) := by decide +kernel
theorem dX9_kindAt_12 : decode cX9_kindAt 12 = .ok (.iload_n 1, 1) := by decide +kernel
theorem dX9_kindAt_13 : decode cX9_kindAt 13 = .ok (.sipush 400, 3) := by decide +kernel
theorem dX9_kindAt_16 : decode cX9_kindAt 16 = .ok (.if_icmp .gt 12, 3) := by decide +kernel
theorem dX9_kindAt_19 : decode cX9_kindAt 19 = .ok (.aload_n 0, 1) := by decide +kernel
theorem dX9_kindAt_20 : decode cX9_kindAt 20 = .ok (.getfield 9, 3) := by decide +kernel
theorem dX9_kindAt_23 : decode cX9_kindAt 23 = .ok (.iload_n 1, 1) := by decide +kernel
theorem dX9_kindAt_24 : decode cX9_kindAt 24 = .ok (.iaload, 1) := by decide +kernel
theorem dX9_kindAt_25 : decode cX9_kindAt 25 = .ok (.goto 5, 3) := by decide +kernel
theorem dX9_kindAt_28 : decode cX9_kindAt 28 = .ok (.bipush 31, 2) := by decide +kernel
theorem dX9_kindAt_30 : decode cX9_kindAt 30 = .ok (.ireturn, 1) := by decide +kernel
theorem dX9_placeAt_0 : decode cX9_placeAt 0 = .ok (.iload_n 1, 1) := by decide +kernel
theorem dX9_placeAt_1 : decode cX9_placeAt 1 = .ok (.ifCond .lt 27, 3) := by decide +kernel
theorem dX9_placeAt_4 : decode cX9_placeAt 4 = .ok (.iload_n 1, 1) := by decide +kernel
theorem dX9_placeAt_5 : decode cX9_placeAt 5 = .ok (.aload_n 0, 1) := by decide +kernel
theorem dX9_placeAt_6 : decode cX9_placeAt 6 = .ok (.getfield 21, 3) := by decide +kernel
theorem dX9_placeAt_9 : decode cX9_placeAt 9 = .ok (.if_icmp .ge 19, 3) := by decide +kernel
theorem dX9_placeAt_12 : decode cX9_placeAt 12 = .ok (.iload_n 1, 1) := by decide +kernel
theorem dX9_placeAt_13 : decode cX9_placeAt 13 = .ok (.sipush 400, 3) := by decide +kernel
theorem dX9_placeAt_16 : decode cX9_placeAt 16 = .ok (.if_icmp .gt 12, 3) := by decide +kernel
theorem dX9_placeAt_19 : decode cX9_placeAt 19 = .ok (.aload_n 0, 1) := by decide +kernel
theorem dX9_placeAt_20 : decode cX9_placeAt 20 = .ok (.getfield 15, 3) := by decide +kernel
theorem dX9_placeAt_23 : decode cX9_placeAt 23 = .ok (.iload_n 1, 1) := by decide +kernel
theorem dX9_placeAt_24 : decode cX9_placeAt 24 = .ok (.iaload, 1) := by decide +kernel
theorem dX9_placeAt_25 : decode cX9_placeAt 25 = .ok (.goto 4, 3) := by decide +kernel
theorem dX9_placeAt_28 : decode cX9_placeAt 28 = .ok (.iconst 0, 1) := by decide +kernel
theorem dX9_placeAt_29 : decode cX9_placeAt 29 = .ok (.ireturn, 1) := by decide +kernel
theorem dX9_numberAt_0 : decode cX9_numberAt 0 = .ok (.iload_n 1, 1) := by decide +kernel
theorem dX9_numberAt_1 : decode cX9_numberAt 1 = .ok (.ifCond .lt 27, 3) := by decide +kernel
theorem dX9_numberAt_4 : decode cX9_numberAt 4 = .ok (.iload_n 1, 1) := by decide +kernel
theorem dX9_numberAt_5 : decode cX9_numberAt 5 = .ok (.aload_n 0, 1) := by decide +kernel
theorem dX9_numberAt_6 : decode cX9_numberAt 6 = .ok (.getfield 21, 3) := by decide +kernel
theorem dX9_numberAt_9 : decode cX9_numberAt 9 = .ok (.if_icmp .ge 19, 3) := by decide +kernel
theorem dX9_numberAt_12 : decode cX9_numberAt 12 = .ok (.iload_n 1, 1) := by decide +kernel
theorem dX9_numberAt_13 : decode cX9_numberAt 13 = .ok (.sipush 400, 3) := by decide +kernel
theorem dX9_numberAt_16 : decode cX9_numberAt 16 = .ok (.if_icmp .gt 12, 3) := by decide +kernel
theorem dX9_numberAt_19 : decode cX9_numberAt 19 = .ok (.aload_n 0, 1) := by decide +kernel
theorem dX9_numberAt_20 : decode cX9_numberAt 20 = .ok (.getfield 18, 3) := by decide +kernel
theorem dX9_numberAt_23 : decode cX9_numberAt 23 = .ok (.iload_n 1, 1) := by decide +kernel
theorem dX9_numberAt_24 : decode cX9_numberAt 24 = .ok (.iaload, 1) := by decide +kernel
theorem dX9_numberAt_25 : decode cX9_numberAt 25 = .ok (.goto 4, 3) := by decide +kernel
theorem dX9_numberAt_28 : decode cX9_numberAt 28 = .ok (.iconst (-1), 1) := by decide +kernel
theorem dX9_numberAt_29 : decode cX9_numberAt 29 = .ok (.ireturn, 1) := by decide +kernel
theorem dX9_add_0 : decode cX9_add 0 = .ok (.aload_n 0, 1) := by decide +kernel
theorem dX9_add_1 : decode cX9_add 1 = .ok (.getfield 21, 3) := by decide +kernel
theorem dX9_add_4 : decode cX9_add 4 = .ok (.ifCond .lt 53, 3) := by decide +kernel
theorem dX9_add_7 : decode cX9_add 7 = .ok (.aload_n 0, 1) := by decide +kernel
theorem dX9_add_8 : decode cX9_add 8 = .ok (.getfield 21, 3) := by decide +kernel
theorem dX9_add_11 : decode cX9_add 11 = .ok (.sipush 400, 3) := by decide +kernel
theorem dX9_add_14 : decode cX9_add 14 = .ok (.if_icmp .gt 43, 3) := by decide +kernel
theorem dX9_add_17 : decode cX9_add 17 = .ok (.aload_n 0, 1) := by decide +kernel
theorem dX9_add_18 : decode cX9_add 18 = .ok (.getfield 9, 3) := by decide +kernel
theorem dX9_add_21 : decode cX9_add 21 = .ok (.aload_n 0, 1) := by decide +kernel
theorem dX9_add_22 : decode cX9_add 22 = .ok (.getfield 21, 3) := by decide +kernel
theorem dX9_add_25 : decode cX9_add 25 = .ok (.iload_n 1, 1) := by decide +kernel
theorem dX9_add_26 : decode cX9_add 26 = .ok (.iastore, 1) := by decide +kernel
theorem dX9_add_27 : decode cX9_add 27 = .ok (.aload_n 0, 1) := by decide +kernel
theorem dX9_add_28 : decode cX9_add 28 = .ok (.getfield 15, 3) := by decide +kernel
theorem dX9_add_31 : decode cX9_add 31 = .ok (.aload_n 0, 1) := by decide +kernel
theorem dX9_add_32 : decode cX9_add 32 = .ok (.getfield 21, 3) := by decide +kernel
theorem dX9_add_35 : decode cX9_add 35 = .ok (.iload_n 2, 1) := by decide +kernel
theorem dX9_add_36 : decode cX9_add 36 = .ok (.iastore, 1) := by decide +kernel
theorem dX9_add_37 : decode cX9_add 37 = .ok (.aload_n 0, 1) := by decide +kernel
theorem dX9_add_38 : decode cX9_add 38 = .ok (.getfield 18, 3) := by decide +kernel
theorem dX9_add_41 : decode cX9_add 41 = .ok (.aload_n 0, 1) := by decide +kernel
theorem dX9_add_42 : decode cX9_add 42 = .ok (.getfield 21, 3) := by decide +kernel
theorem dX9_add_45 : decode cX9_add 45 = .ok (.iload_n 3, 1) := by decide +kernel
theorem dX9_add_46 : decode cX9_add 46 = .ok (.iastore, 1) := by decide +kernel
theorem dX9_add_47 : decode cX9_add 47 = .ok (.aload_n 0, 1) := by decide +kernel
theorem dX9_add_48 : decode cX9_add 48 = .ok (.dup, 1) := by decide +kernel
theorem dX9_add_49 : decode cX9_add 49 = .ok (.getfield 21, 3) := by decide +kernel
theorem dX9_add_52 : decode cX9_add 52 = .ok (.iconst 1, 1) := by decide +kernel
theorem dX9_add_53 : decode cX9_add 53 = .ok (.iadd, 1) := by decide +kernel
theorem dX9_add_54 : decode cX9_add 54 = .ok (.putfield 21, 3) := by decide +kernel
theorem dX9_add_57 : decode cX9_add 57 = .ok (.return_, 1) := by decide +kernel
set_option maxRecDepth 20000 in
theorem ggX9_wordEnd_X8_byteAt : GoodIn wsX9_wordEnd wsX8_byteAt := goodIn_r _ [5, 6, 7, 12, 13] (by decide +kernel) (by decide +kernel)
set_option maxRecDepth 20000 in
theorem gX9_wordEnd_X8_byteAt : GoodIn wsX9_wordEnd (wsV RX9 30 RX8 yX8_byteAt wsX8_byteAt) := goodIn_app (goodIn_of _ (by decide +kernel)) ggX9_wordEnd_X8_byteAt
set_option maxRecDepth 20000 in
theorem ggX9_wordEnd_X9_isLetter : GoodIn wsX9_wordEnd wsX9_isLetter := goodIn_r _ [11] (by decide +kernel) (by decide +kernel)
set_option maxRecDepth 20000 in
theorem gX9_wordEnd_X9_isLetter : GoodIn wsX9_wordEnd (va_wsS RX9 34 yX9_isLetter wsX9_isLetter) := goodIn_app (goodIn_of _ (by decide +kernel)) ggX9_wordEnd_X9_isLetter
theorem dX9_wordEnd_0 : decode cX9_wordEnd 0 = .ok (.iload_n 1, 1) := by decide +kernel
theorem dX9_wordEnd_1 : decode cX9_wordEnd 1 = .ok (.istore_n 2, 1) := by decide +kernel
theorem dX9_wordEnd_2 : decode cX9_wordEnd 2 = .ok (.iload_n 2, 1) := by decide +kernel
theorem dX9_wordEnd_3 : decode cX9_wordEnd 3 = .ok (.sipush 400, 3) := by decide +kernel
theorem dX9_wordEnd_6 : decode cX9_wordEnd 6 = .ok (.if_icmp .ge 20, 3) := by decide +kernel
theorem dX9_wordEnd_9 : decode cX9_wordEnd 9 = .ok (.aload_n 0, 1) := by decide +kernel
theorem dX9_wordEnd_10 : decode cX9_wordEnd 10 = .ok (.iload_n 2, 1) := by decide +kernel
theorem dX9_wordEnd_11 : decode cX9_wordEnd 11 = .ok (.invokevirtual 30, 3) := by decide +kernel
theorem dX9_wordEnd_14 : decode cX9_wordEnd 14 = .ok (.invokestatic 34, 3) := by decide +kernel
theorem dX9_wordEnd_17 : decode cX9_wordEnd 17 = .ok (.ifCond .eq 9, 3) := by decide +kernel
theorem dX9_wordEnd_20 : decode cX9_wordEnd 20 = .ok (.iinc 2 1, 3) := by decide +kernel
theorem dX9_wordEnd_23 : decode cX9_wordEnd 23 = .ok (.goto (-21), 3) := by decide +kernel
theorem dX9_wordEnd_26 : decode cX9_wordEnd 26 = .ok (.iload_n 2, 1) := by decide +kernel
theorem dX9_wordEnd_27 : decode cX9_wordEnd 27 = .ok (.ireturn, 1) := by decide +kernel
set_option maxRecDepth 20000 in
theorem ggX9_numberEnd_X8_byteAt : GoodIn wsX9_numberEnd wsX8_byteAt := goodIn_r _ [5, 6, 7, 12, 13] (by decide +kernel) (by decide +kernel)
set_option maxRecDepth 20000 in
theorem gX9_numberEnd_X8_byteAt : GoodIn wsX9_numberEnd (wsV RX9 30 RX8 yX8_byteAt wsX8_byteAt) := goodIn_app (goodIn_of _ (by decide +kernel)) ggX9_numberEnd_X8_byteAt
set_option maxRecDepth 20000 in
theorem ggX9_numberEnd_X9_isDigit : GoodIn wsX9_numberEnd wsX9_isDigit := goodIn_r _ [11] (by decide +kernel) (by decide +kernel)
set_option maxRecDepth 20000 in
theorem gX9_numberEnd_X9_isDigit : GoodIn wsX9_numberEnd (va_wsS RX9 50 yX9_isDigit wsX9_isDigit) := goodIn_app (goodIn_of _ (by decide +kernel)) ggX9_numberEnd_X9_isDigit
theorem dX9_numberEnd_0 : decode cX9_numberEnd 0 = .ok (.iload_n 1, 1) := by decide +kernel
theorem dX9_numberEnd_1 : decode cX9_numberEnd 1 = .ok (.istore_n 2, 1) := by decide +kernel
theorem dX9_numberEnd_2 : decode cX9_numberEnd 2 = .ok (.iload_n 2, 1) := by decide +kernel
theorem dX9_numberEnd_3 : decode cX9_numberEnd 3 = .ok (.sipush 400, 3) := by decide +kernel
theorem dX9_numberEnd_6 : decode cX9_numberEnd 6 = .ok (.if_icmp .ge 20, 3) := by decide +kernel
theorem dX9_numberEnd_9 : decode cX9_numberEnd 9 = .ok (.aload_n 0, 1) := by decide +kernel
theorem dX9_numberEnd_10 : decode cX9_numberEnd 10 = .ok (.iload_n 2, 1) := by decide +kernel
theorem dX9_numberEnd_11 : decode cX9_numberEnd 11 = .ok (.invokevirtual 30, 3) := by decide +kernel
theorem dX9_numberEnd_14 : decode cX9_numberEnd 14 = .ok (.invokestatic 50, 3) := by decide +kernel
theorem dX9_numberEnd_17 : decode cX9_numberEnd 17 = .ok (.ifCond .eq 9, 3) := by decide +kernel
theorem dX9_numberEnd_20 : decode cX9_numberEnd 20 = .ok (.iinc 2 1, 3) := by decide +kernel
theorem dX9_numberEnd_23 : decode cX9_numberEnd 23 = .ok (.goto (-21), 3) := by decide +kernel
theorem dX9_numberEnd_26 : decode cX9_numberEnd 26 = .ok (.iload_n 2, 1) := by decide +kernel
theorem dX9_numberEnd_27 : decode cX9_numberEnd 27 = .ok (.ireturn, 1) := by decide +kernel
set_option maxRecDepth 20000 in
theorem ggX9_wordOf_J0_length_8abf5 : GoodIn wsX9_wordOf wsJ0_length_8abf5 := goodIn_r _ [5, 6, 7, 8, 9, 4, 10, 11, 12] (by decide +kernel) (by decide +kernel)
set_option maxRecDepth 20000 in
theorem gX9_wordOf_J0_length_8abf5 : GoodIn wsX9_wordOf (wsV RX9 65 RJ0 yJ0_length_8abf5 wsJ0_length_8abf5) := goodIn_app (goodIn_of _ (by decide +kernel)) ggX9_wordOf_J0_length_8abf5
set_option maxRecDepth 20000 in
theorem ggX9_wordOf_J0_charAt_5068e : GoodIn wsX9_wordOf wsJ0_charAt_5068e := goodIn_r _ [16, 6, 17, 18, 19, 4, 20, 11, 12, 21, 22, 23, 24, 25, 26, 27, 28, 29, 30, 31, 32, 33, 34, 35, 36, 37, 38, 39, 40, 41, 42, 43, 44, 45, 46, 47, 48, 49] (by decide +kernel) (by decide +kernel)
set_option maxRecDepth 20000 in
theorem gX9_wordOf_J0_charAt_5068e : GoodIn wsX9_wordOf (wsV RX9 70 RJ0 yJ0_charAt_5068e wsJ0_charAt_5068e) := goodIn_app (goodIn_of _ (by decide +kernel)) ggX9_wordOf_J0_charAt_5068e
set_option maxRecDepth 20000 in
theorem ggX9_wordOf_X8_byteAt : GoodIn wsX9_wordOf wsX8_byteAt := goodIn_r _ [54, 55, 56, 57, 58] (by decide +kernel) (by decide +kernel)
set_option maxRecDepth 20000 in
theorem gX9_wordOf_X8_byteAt : GoodIn wsX9_wordOf (wsV RX9 30 RX8 yX8_byteAt wsX8_byteAt) := goodIn_app (goodIn_of _ (by decide +kernel)) ggX9_wordOf_X8_byteAt
theorem dX9_wordOf_0 : decode cX9_wordOf 0 = .ok (.iconst 0, 1) := by decide +kernel
theorem dX9_wordOf_1 : decode cX9_wordOf 1 = .ok (.istore_n 3, 1) := by decide +kernel
theorem dX9_wordOf_2 : decode cX9_wordOf 2 = .ok (.iconst 0, 1) := by decide +kernel
theorem dX9_wordOf_3 : decode cX9_wordOf 3 = .ok (.istore 4, 2) := by decide +kernel
theorem dX9_wordOf_5 : decode cX9_wordOf 5 = .ok (.iconst 0, 1) := by decide +kernel
theorem dX9_wordOf_6 : decode cX9_wordOf 6 = .ok (.istore 5, 2) := by decide +kernel
theorem dX9_wordOf_8 : decode cX9_wordOf 8 = .ok (.iload 5, 2) := by decide +kernel
theorem dX9_wordOf_10 : decode cX9_wordOf 10 = .ok (.ldc 63, 2) := by decide +kernel
theorem dX9_wordOf_12 : decode cX9_wordOf 12 = .ok (.invokevirtual 65, 3) := by decide +kernel
theorem dX9_wordOf_15 : decode cX9_wordOf 15 = .ok (.if_icmp .ge 72, 3) := by decide +kernel
theorem dX9_wordOf_18 : decode cX9_wordOf 18 = .ok (.ldc 63, 2) := by decide +kernel
theorem dX9_wordOf_20 : decode cX9_wordOf 20 = .ok (.iload 5, 2) := by decide +kernel
theorem dX9_wordOf_22 : decode cX9_wordOf 22 = .ok (.invokevirtual 70, 3) := by decide +kernel
theorem dX9_wordOf_25 : decode cX9_wordOf 25 = .ok (.istore 6, 2) := by decide +kernel
theorem dX9_wordOf_27 : decode cX9_wordOf 27 = .ok (.iload 6, 2) := by decide +kernel
theorem dX9_wordOf_29 : decode cX9_wordOf 29 = .ok (.bipush 32, 2) := by decide +kernel
theorem dX9_wordOf_31 : decode cX9_wordOf 31 = .ok (.if_icmp .ne 22, 3) := by decide +kernel
theorem dX9_wordOf_34 : decode cX9_wordOf 34 = .ok (.iload 4, 2) := by decide +kernel
theorem dX9_wordOf_36 : decode cX9_wordOf 36 = .ok (.iload_n 2, 1) := by decide +kernel
theorem dX9_wordOf_37 : decode cX9_wordOf 37 = .ok (.iload_n 1, 1) := by decide +kernel
theorem dX9_wordOf_38 : decode cX9_wordOf 38 = .ok (.isub, 1) := by decide +kernel
theorem dX9_wordOf_39 : decode cX9_wordOf 39 = .ok (.if_icmp .ne 5, 3) := by decide +kernel
theorem dX9_wordOf_42 : decode cX9_wordOf 42 = .ok (.iload_n 3, 1) := by decide +kernel
theorem dX9_wordOf_43 : decode cX9_wordOf 43 = .ok (.ireturn, 1) := by decide +kernel
theorem dX9_wordOf_44 : decode cX9_wordOf 44 = .ok (.iinc 3 1, 3) := by decide +kernel
theorem dX9_wordOf_47 : decode cX9_wordOf 47 = .ok (.iconst 0, 1) := by decide +kernel
theorem dX9_wordOf_48 : decode cX9_wordOf 48 = .ok (.istore 4, 2) := by decide +kernel
theorem dX9_wordOf_50 : decode cX9_wordOf 50 = .ok (.goto 31, 3) := by decide +kernel
theorem dX9_wordOf_53 : decode cX9_wordOf 53 = .ok (.iload 4, 2) := by decide +kernel
theorem dX9_wordOf_55 : decode cX9_wordOf 55 = .ok (.ifCond .lt 26, 3) := by decide +kernel
theorem dX9_wordOf_58 : decode cX9_wordOf 58 = .ok (.aload_n 0, 1) := by decide +kernel
theorem dX9_wordOf_59 : decode cX9_wordOf 59 = .ok (.iload_n 1, 1) := by decide +kernel
theorem dX9_wordOf_60 : decode cX9_wordOf 60 = .ok (.iload 4, 2) := by decide +kernel
theorem dX9_wordOf_62 : decode cX9_wordOf 62 = .ok (.iadd, 1) := by decide +kernel
theorem dX9_wordOf_63 : decode cX9_wordOf 63 = .ok (.invokevirtual 30, 3) := by decide +kernel
theorem dX9_wordOf_66 : decode cX9_wordOf 66 = .ok (.iload 6, 2) := by decide +kernel
theorem dX9_wordOf_68 : decode cX9_wordOf 68 = .ok (.if_icmp .ne 10, 3) := by decide +kernel
theorem dX9_wordOf_71 : decode cX9_wordOf 71 = .ok (.iload 4, 2) := by decide +kernel
theorem dX9_wordOf_73 : decode cX9_wordOf 73 = .ok (.iconst 1, 1) := by decide +kernel
theorem dX9_wordOf_74 : decode cX9_wordOf 74 = .ok (.iadd, 1) := by decide +kernel
theorem dX9_wordOf_75 : decode cX9_wordOf 75 = .ok (.goto 4, 3) := by decide +kernel
theorem dX9_wordOf_78 : decode cX9_wordOf 78 = .ok (.iconst (-1), 1) := by decide +kernel
theorem dX9_wordOf_79 : decode cX9_wordOf 79 = .ok (.istore 4, 2) := by decide +kernel
theorem dX9_wordOf_81 : decode cX9_wordOf 81 = .ok (.iinc 5 1, 3) := by decide +kernel
theorem dX9_wordOf_84 : decode cX9_wordOf 84 = .ok (.goto (-76), 3) := by decide +kernel
theorem dX9_wordOf_87 : decode cX9_wordOf 87 = .ok (.bipush 32, 2) := by decide +kernel
theorem dX9_wordOf_89 : decode cX9_wordOf 89 = .ok (.ireturn, 1) := by decide +kernel
set_option maxRecDepth 20000 in
theorem ggX9_numberOf_X8_byteAt : GoodIn wsX9_numberOf wsX8_byteAt := goodIn_r _ [5, 6, 7, 8, 9] (by decide +kernel) (by decide +kernel)
set_option maxRecDepth 20000 in
theorem gX9_numberOf_X8_byteAt : GoodIn wsX9_numberOf (wsV RX9 30 RX8 yX8_byteAt wsX8_byteAt) := goodIn_app (goodIn_of _ (by decide +kernel)) ggX9_numberOf_X8_byteAt
theorem dX9_numberOf_0 : decode cX9_numberOf 0 = .ok (.iload_n 2, 1) := by decide +kernel
theorem dX9_numberOf_1 : decode cX9_numberOf 1 = .ok (.iload_n 1, 1) := by decide +kernel
theorem dX9_numberOf_2 : decode cX9_numberOf 2 = .ok (.isub, 1) := by decide +kernel
theorem dX9_numberOf_3 : decode cX9_numberOf 3 = .ok (.iconst 4, 1) := by decide +kernel
theorem dX9_numberOf_4 : decode cX9_numberOf 4 = .ok (.if_icmp .le 5, 3) := by decide +kernel
theorem dX9_numberOf_7 : decode cX9_numberOf 7 = .ok (.iconst (-1), 1) := by decide +kernel
theorem dX9_numberOf_8 : decode cX9_numberOf 8 = .ok (.ireturn, 1) := by decide +kernel
theorem dX9_numberOf_9 : decode cX9_numberOf 9 = .ok (.iconst 0, 1) := by decide +kernel
theorem dX9_numberOf_10 : decode cX9_numberOf 10 = .ok (.istore_n 3, 1) := by decide +kernel
theorem dX9_numberOf_11 : decode cX9_numberOf 11 = .ok (.iload_n 1, 1) := by decide +kernel
theorem dX9_numberOf_12 : decode cX9_numberOf 12 = .ok (.istore 4, 2) := by decide +kernel
theorem dX9_numberOf_14 : decode cX9_numberOf 14 = .ok (.iload 4, 2) := by decide +kernel
theorem dX9_numberOf_16 : decode cX9_numberOf 16 = .ok (.iload_n 2, 1) := by decide +kernel
theorem dX9_numberOf_17 : decode cX9_numberOf 17 = .ok (.if_icmp .ge 24, 3) := by decide +kernel
theorem dX9_numberOf_20 : decode cX9_numberOf 20 = .ok (.iload_n 3, 1) := by decide +kernel
theorem dX9_numberOf_21 : decode cX9_numberOf 21 = .ok (.bipush 10, 2) := by decide +kernel
theorem dX9_numberOf_23 : decode cX9_numberOf 23 = .ok (.imul, 1) := by decide +kernel
theorem dX9_numberOf_24 : decode cX9_numberOf 24 = .ok (.aload_n 0, 1) := by decide +kernel
theorem dX9_numberOf_25 : decode cX9_numberOf 25 = .ok (.iload 4, 2) := by decide +kernel
theorem dX9_numberOf_27 : decode cX9_numberOf 27 = .ok (.invokevirtual 30, 3) := by decide +kernel
theorem dX9_numberOf_30 : decode cX9_numberOf 30 = .ok (.iadd, 1) := by decide +kernel
theorem dX9_numberOf_31 : decode cX9_numberOf 31 = .ok (.bipush 48, 2) := by decide +kernel
theorem dX9_numberOf_33 : decode cX9_numberOf 33 = .ok (.isub, 1) := by decide +kernel
theorem dX9_numberOf_34 : decode cX9_numberOf 34 = .ok (.istore_n 3, 1) := by decide +kernel
theorem dX9_numberOf_35 : decode cX9_numberOf 35 = .ok (.iinc 4 1, 3) := by decide +kernel
theorem dX9_numberOf_38 : decode cX9_numberOf 38 = .ok (.goto (-24), 3) := by decide +kernel
theorem dX9_numberOf_41 : decode cX9_numberOf 41 = .ok (.iload_n 3, 1) := by decide +kernel
theorem dX9_numberOf_42 : decode cX9_numberOf 42 = .ok (.ireturn, 1) := by decide +kernel
theorem dX9_signOf_0 : decode cX9_signOf 0 = .ok (.iload_n 0, 1) := by decide +kernel
theorem dX9_signOf_1 : decode cX9_signOf 1 = .ok (.lookupswitch 101 #[(43, 95), (45, 95), (59, 95), (60, 75), (61, 95), (62, 75), (91, 95), (93, 95)], 75) := by decide +kernel
theorem dX9_signOf_76 : decode cX9_signOf 76 = .ok (.iload_n 1, 1) := by decide +kernel
theorem dX9_signOf_77 : decode cX9_signOf 77 = .ok (.bipush 61, 2) := by decide +kernel
theorem dX9_signOf_79 : decode cX9_signOf 79 = .ok (.if_icmp .ne 11, 3) := by decide +kernel
theorem dX9_signOf_82 : decode cX9_signOf 82 = .ok (.sipush 512, 3) := by decide +kernel
theorem dX9_signOf_85 : decode cX9_signOf 85 = .ok (.iload_n 0, 1) := by decide +kernel
theorem dX9_signOf_86 : decode cX9_signOf 86 = .ok (.iadd, 1) := by decide +kernel
theorem dX9_signOf_87 : decode cX9_signOf 87 = .ok (.goto 8, 3) := by decide +kernel
theorem dX9_signOf_90 : decode cX9_signOf 90 = .ok (.sipush 256, 3) := by decide +kernel
theorem dX9_signOf_93 : decode cX9_signOf 93 = .ok (.iload_n 0, 1) := by decide +kernel
theorem dX9_signOf_94 : decode cX9_signOf 94 = .ok (.iadd, 1) := by decide +kernel
theorem dX9_signOf_95 : decode cX9_signOf 95 = .ok (.ireturn, 1) := by decide +kernel
theorem dX9_signOf_96 : decode cX9_signOf 96 = .ok (.sipush 256, 3) := by decide +kernel
theorem dX9_signOf_99 : decode cX9_signOf 99 = .ok (.iload_n 0, 1) := by decide +kernel
theorem dX9_signOf_100 : decode cX9_signOf 100 = .ok (.iadd, 1) := by decide +kernel
theorem dX9_signOf_101 : decode cX9_signOf 101 = .ok (.ireturn, 1) := by decide +kernel
theorem dX9_signOf_102 : decode cX9_signOf 102 = .ok (.bipush 32, 2) := by decide +kernel
theorem dX9_signOf_104 : decode cX9_signOf 104 = .ok (.ireturn, 1) := by decide +kernel
theorem dX9_isLetter_0 : decode cX9_isLetter 0 = .ok (.iload_n 0, 1) := by decide +kernel
theorem dX9_isLetter_1 : decode cX9_isLetter 1 = .ok (.bipush 97, 2) := by decide +kernel
theorem dX9_isLetter_3 : decode cX9_isLetter 3 = .ok (.if_icmp .lt 13, 3) := by decide +kernel
theorem dX9_isLetter_6 : decode cX9_isLetter 6 = .ok (.iload_n 0, 1) := by decide +kernel
theorem dX9_isLetter_7 : decode cX9_isLetter 7 = .ok (.bipush 122, 2) := by decide +kernel
theorem dX9_isLetter_9 : decode cX9_isLetter 9 = .ok (.if_icmp .gt 7, 3) := by decide +kernel
theorem dX9_isLetter_12 : decode cX9_isLetter 12 = .ok (.iconst 1, 1) := by decide +kernel
theorem dX9_isLetter_13 : decode cX9_isLetter 13 = .ok (.goto 4, 3) := by decide +kernel
theorem dX9_isLetter_16 : decode cX9_isLetter 16 = .ok (.iconst 0, 1) := by decide +kernel
theorem dX9_isLetter_17 : decode cX9_isLetter 17 = .ok (.ireturn, 1) := by decide +kernel
theorem dX9_isDigit_0 : decode cX9_isDigit 0 = .ok (.iload_n 0, 1) := by decide +kernel
theorem dX9_isDigit_1 : decode cX9_isDigit 1 = .ok (.bipush 48, 2) := by decide +kernel
theorem dX9_isDigit_3 : decode cX9_isDigit 3 = .ok (.if_icmp .lt 13, 3) := by decide +kernel
theorem dX9_isDigit_6 : decode cX9_isDigit 6 = .ok (.iload_n 0, 1) := by decide +kernel
theorem dX9_isDigit_7 : decode cX9_isDigit 7 = .ok (.bipush 57, 2) := by decide +kernel
theorem dX9_isDigit_9 : decode cX9_isDigit 9 = .ok (.if_icmp .gt 7, 3) := by decide +kernel
theorem dX9_isDigit_12 : decode cX9_isDigit 12 = .ok (.iconst 1, 1) := by decide +kernel
theorem dX9_isDigit_13 : decode cX9_isDigit 13 = .ok (.goto 4, 3) := by decide +kernel
theorem dX9_isDigit_16 : decode cX9_isDigit 16 = .ok (.iconst 0, 1) := by decide +kernel
theorem dX9_isDigit_17 : decode cX9_isDigit 17 = .ok (.ireturn, 1) := by decide +kernel
theorem dX10_init_0 : decode cX10_init 0 = .ok (.aload_n 0, 1) := by decide +kernel
theorem dX10_init_1 : decode cX10_init 1 = .ok (.invokespecial 3, 3) := by decide +kernel
theorem dX10_init_4 : decode cX10_init 4 = .ok (.aload_n 0, 1) := by decide +kernel
theorem dX10_init_5 : decode cX10_init 5 = .ok (.sipush 4096, 3) := by decide +kernel
theorem dX10_init_8 : decode cX10_init 8 = .ok (.newarray .int, 2) := by decide +kernel
theorem dX10_init_10 : decode cX10_init 10 = .ok (.putfield 9, 3) := by decide +kernel
theorem dX10_init_13 : decode cX10_init 13 = .ok (.aload_n 0, 1) := by decide +kernel
theorem dX10_init_14 : decode cX10_init 14 = .ok (.sipush 4096, 3) := by decide +kernel
theorem dX10_init_17 : decode cX10_init 17 = .ok (.newarray .long, 2) := by decide +kernel
theorem dX10_init_19 : decode cX10_init 19 = .ok (.putfield 15, 3) := by decide +kernel
theorem dX10_init_22 : decode cX10_init 22 = .ok (.aload_n 0, 1) := by decide +kernel
theorem dX10_init_23 : decode cX10_init 23 = .ok (.sipush 4096, 3) := by decide +kernel
theorem dX10_init_26 : decode cX10_init 26 = .ok (.newarray .int, 2) := by decide +kernel
theorem dX10_init_28 : decode cX10_init 28 = .ok (.putfield 19, 3) := by decide +kernel
theorem dX10_init_31 : decode cX10_init 31 = .ok (.aload_n 0, 1) := by decide +kernel
theorem dX10_init_32 : decode cX10_init 32 = .ok (.sipush 4096, 3) := by decide +kernel
theorem dX10_init_35 : decode cX10_init 35 = .ok (.newarray .int, 2) := by decide +kernel
theorem dX10_init_37 : decode cX10_init 37 = .ok (.putfield 22, 3) := by decide +kernel
theorem dX10_init_40 : decode cX10_init 40 = .ok (.aload_n 0, 1) := by decide +kernel
theorem dX10_init_41 : decode cX10_init 41 = .ok (.bipush 20, 2) := by decide +kernel
theorem dX10_init_43 : decode cX10_init 43 = .ok (.newarray .long, 2) := by decide +kernel
theorem dX10_init_45 : decode cX10_init 45 = .ok (.putfield 25, 3) := by decide +kernel
theorem dX10_init_48 : decode cX10_init 48 = .ok (.aload_n 0, 1) := by decide +kernel
theorem dX10_init_49 : decode cX10_init 49 = .ok (.bipush 20, 2) := by decide +kernel
theorem dX10_init_51 : decode cX10_init 51 = .ok (.newarray .int, 2) := by decide +kernel
theorem dX10_init_53 : decode cX10_init 53 = .ok (.putfield 28, 3) := by decide +kernel
theorem dX10_init_56 : decode cX10_init 56 = .ok (.return_, 1) := by decide +kernel
set_option maxRecDepth 20000 in
theorem ggX10_go_X7_ending : GoodIn wsX10_go wsX7_ending := goodIn_r _ [9] (by decide +kernel) (by decide +kernel)
set_option maxRecDepth 20000 in
theorem gX10_go_X7_ending : GoodIn wsX10_go (va_wsS RX10 38 yX7_ending wsX7_ending) := goodIn_app (goodIn_of _ (by decide +kernel)) ggX10_go_X7_ending
set_option maxRecDepth 20000 in
theorem ggX10_go_X7_outcome : GoodIn wsX10_go wsX7_outcome := goodIn_r _ [12, 13, 7, 8, 9, 14, 15, 16] (by decide +kernel) (by decide +kernel)
set_option maxRecDepth 20000 in
theorem gX10_go_X7_outcome : GoodIn wsX10_go (va_wsS RX10 48 yX7_outcome wsX7_outcome) := goodIn_app (goodIn_of _ (by decide +kernel)) ggX10_go_X7_outcome
set_option maxRecDepth 20000 in
theorem ggX10_go_X10_reach : GoodIn wsX10_go wsX10_reach := goodIn_r _ [21, 3, 4, 147, 148, 149, 150, 151, 152, 153, 154, 155] (by decide +kernel) (by decide +kernel)
set_option maxRecDepth 20000 in
theorem gX10_go_X10_reach : GoodIn wsX10_go (wsV RX10 51 RX10 yX10_reach wsX10_reach) := goodIn_app (goodIn_of _ (by decide +kernel)) ggX10_go_X10_reach
set_option maxRecDepth 20000 in
theorem ggX10_go_X10_arrive : GoodIn wsX10_go wsX10_arrive := goodIn_r _ [25, 26, 1, 2, 27, 28, 29, 30, 31, 8, 32, 33, 34, 35, 36, 37, 38, 147, 148, 149, 150, 151, 152, 153, 154, 155] (by decide +kernel) (by decide +kernel)
set_option maxRecDepth 20000 in
theorem gX10_go_X10_arrive : GoodIn wsX10_go (wsV RX10 55 RX10 yX10_arrive wsX10_arrive) := goodIn_app (goodIn_of _ (by decide +kernel)) ggX10_go_X10_arrive
set_option maxRecDepth 20000 in
theorem ggX10_go_X10_spread : GoodIn wsX10_go wsX10_spread := goodIn_r _ [42, 27, 28, 43, 44, 45, 46, 47, 48, 49, 7, 8, 9, 50, 37, 38, 51, 52, 53, 54, 55, 56, 57, 58, 59, 60, 61, 62, 63, 64, 65, 66, 67, 68, 69, 70, 71, 72, 73, 74, 75, 76, 77, 78, 79, 80, 31, 32, 33, 34, 35, 36, 81, 82, 83, 84, 85, 86, 87, 88, 89, 90, 91, 92, 93, 94, 95, 96, 97, 98, 99, 100, 101, 102, 103, 104, 105, 106, 107, 108, 109, 110, 111, 112, 113, 114, 115, 116, 117, 118, 119, 120, 121, 122, 123, 124, 125, 126, 127, 128, 129, 130, 131, 132, 133, 134, 135, 136, 137, 138, 139, 140, 141, 142, 143, 144, 145, 146, 6, 10, 11, 12, 13, 14, 15, 16, 17, 18, 19, 20, 21, 3, 4, 22, 23, 24, 25, 26, 1, 2, 29, 30, 147, 148, 149, 150, 151, 152, 153, 154, 155, 156, 157, 158, 159, 160, 161, 162, 163, 164, 165, 166, 167, 168, 169, 170, 171, 172, 173, 174, 175, 176, 177] (by decide +kernel) (by decide +kernel)
set_option maxRecDepth 20000 in
theorem gX10_go_X10_spread : GoodIn wsX10_go (wsV RX10 58 RX10 yX10_spread wsX10_spread) := goodIn_app (goodIn_of _ (by decide +kernel)) ggX10_go_X10_spread
theorem dX10_go_0 : decode cX10_go 0 = .ok (.aload_n 0, 1) := by decide +kernel
theorem dX10_go_1 : decode cX10_go 1 = .ok (.dup, 1) := by decide +kernel
theorem dX10_go_2 : decode cX10_go 2 = .ok (.getfield 31, 3) := by decide +kernel
theorem dX10_go_5 : decode cX10_go 5 = .ok (.iconst 1, 1) := by decide +kernel
theorem dX10_go_6 : decode cX10_go 6 = .ok (.iadd, 1) := by decide +kernel
theorem dX10_go_7 : decode cX10_go 7 = .ok (.putfield 31, 3) := by decide +kernel
theorem dX10_go_10 : decode cX10_go 10 = .ok (.aload_n 0, 1) := by decide +kernel
theorem dX10_go_11 : decode cX10_go 11 = .ok (.iconst 0, 1) := by decide +kernel
theorem dX10_go_12 : decode cX10_go 12 = .ok (.putfield 35, 3) := by decide +kernel
theorem dX10_go_15 : decode cX10_go 15 = .ok (.iconst 0, 1) := by decide +kernel
theorem dX10_go_16 : decode cX10_go 16 = .ok (.istore_n 3, 1) := by decide +kernel
theorem dX10_go_17 : decode cX10_go 17 = .ok (.iload_n 3, 1) := by decide +kernel
theorem dX10_go_18 : decode cX10_go 18 = .ok (.bipush 20, 2) := by decide +kernel
theorem dX10_go_20 : decode cX10_go 20 = .ok (.if_icmp .ge 23, 3) := by decide +kernel
theorem dX10_go_23 : decode cX10_go 23 = .ok (.aload_n 0, 1) := by decide +kernel
theorem dX10_go_24 : decode cX10_go 24 = .ok (.getfield 25, 3) := by decide +kernel
theorem dX10_go_27 : decode cX10_go 27 = .ok (.iload_n 3, 1) := by decide +kernel
theorem dX10_go_28 : decode cX10_go 28 = .ok (.lconst 0, 1) := by decide +kernel
theorem dX10_go_29 : decode cX10_go 29 = .ok (.lastore, 1) := by decide +kernel
theorem dX10_go_30 : decode cX10_go 30 = .ok (.aload_n 0, 1) := by decide +kernel
theorem dX10_go_31 : decode cX10_go 31 = .ok (.getfield 28, 3) := by decide +kernel
theorem dX10_go_34 : decode cX10_go 34 = .ok (.iload_n 3, 1) := by decide +kernel
theorem dX10_go_35 : decode cX10_go 35 = .ok (.iconst 0, 1) := by decide +kernel
theorem dX10_go_36 : decode cX10_go 36 = .ok (.iastore, 1) := by decide +kernel
theorem dX10_go_37 : decode cX10_go 37 = .ok (.iinc 3 1, 3) := by decide +kernel
theorem dX10_go_40 : decode cX10_go 40 = .ok (.goto (-23), 3) := by decide +kernel
theorem dX10_go_43 : decode cX10_go 43 = .ok (.aload_n 0, 1) := by decide +kernel
theorem dX10_go_44 : decode cX10_go 44 = .ok (.iload_n 2, 1) := by decide +kernel
theorem dX10_go_45 : decode cX10_go 45 = .ok (.invokestatic 38, 3) := by decide +kernel
theorem dX10_go_48 : decode cX10_go 48 = .ok (.ifCond .eq 7, 3) := by decide +kernel
theorem dX10_go_51 : decode cX10_go 51 = .ok (.iconst 1, 1) := by decide +kernel
theorem dX10_go_52 : decode cX10_go 52 = .ok (.goto 4, 3) := by decide +kernel
theorem dX10_go_55 : decode cX10_go 55 = .ok (.iconst 0, 1) := by decide +kernel
theorem dX10_go_56 : decode cX10_go 56 = .ok (.putfield 44, 3) := by decide +kernel
theorem dX10_go_59 : decode cX10_go 59 = .ok (.aload_n 0, 1) := by decide +kernel
theorem dX10_go_60 : decode cX10_go 60 = .ok (.getfield 44, 3) := by decide +kernel
theorem dX10_go_63 : decode cX10_go 63 = .ok (.ifCond .eq 14, 3) := by decide +kernel
theorem dX10_go_66 : decode cX10_go 66 = .ok (.aload_n 0, 1) := by decide +kernel
theorem dX10_go_67 : decode cX10_go 67 = .ok (.iload_n 2, 1) := by decide +kernel
theorem dX10_go_68 : decode cX10_go 68 = .ok (.invokestatic 48, 3) := by decide +kernel
theorem dX10_go_71 : decode cX10_go 71 = .ok (.lconst 1, 1) := by decide +kernel
theorem dX10_go_72 : decode cX10_go 72 = .ok (.iconst 0, 1) := by decide +kernel
theorem dX10_go_73 : decode cX10_go 73 = .ok (.invokevirtual 51, 3) := by decide +kernel
theorem dX10_go_76 : decode cX10_go 76 = .ok (.return_, 1) := by decide +kernel
theorem dX10_go_77 : decode cX10_go 77 = .ok (.aload_n 0, 1) := by decide +kernel
theorem dX10_go_78 : decode cX10_go 78 = .ok (.iload_n 2, 1) := by decide +kernel
theorem dX10_go_79 : decode cX10_go 79 = .ok (.lconst 1, 1) := by decide +kernel
theorem dX10_go_80 : decode cX10_go 80 = .ok (.iconst 0, 1) := by decide +kernel
theorem dX10_go_81 : decode cX10_go 81 = .ok (.invokevirtual 55, 3) := by decide +kernel
theorem dX10_go_84 : decode cX10_go 84 = .ok (.iconst 0, 1) := by decide +kernel
theorem dX10_go_85 : decode cX10_go 85 = .ok (.istore_n 3, 1) := by decide +kernel
theorem dX10_go_86 : decode cX10_go 86 = .ok (.iload_n 3, 1) := by decide +kernel
theorem dX10_go_87 : decode cX10_go 87 = .ok (.aload_n 0, 1) := by decide +kernel
theorem dX10_go_88 : decode cX10_go 88 = .ok (.getfield 35, 3) := by decide +kernel
theorem dX10_go_91 : decode cX10_go 91 = .ok (.if_icmp .ge 22, 3) := by decide +kernel
theorem dX10_go_94 : decode cX10_go 94 = .ok (.iload_n 3, 1) := by decide +kernel
theorem dX10_go_95 : decode cX10_go 95 = .ok (.sipush 4096, 3) := by decide +kernel
theorem dX10_go_98 : decode cX10_go 98 = .ok (.if_icmp .ge 15, 3) := by decide +kernel
theorem dX10_go_101 : decode cX10_go 101 = .ok (.aload_n 0, 1) := by decide +kernel
theorem dX10_go_102 : decode cX10_go 102 = .ok (.aload_n 1, 1) := by decide +kernel
theorem dX10_go_103 : decode cX10_go 103 = .ok (.iload_n 3, 1) := by decide +kernel
theorem dX10_go_104 : decode cX10_go 104 = .ok (.invokevirtual 58, 3) := by decide +kernel
theorem dX10_go_107 : decode cX10_go 107 = .ok (.iinc 3 1, 3) := by decide +kernel
theorem dX10_go_110 : decode cX10_go 110 = .ok (.goto (-24), 3) := by decide +kernel
theorem dX10_go_113 : decode cX10_go 113 = .ok (.return_, 1) := by decide +kernel
theorem dX10_outcomes_0 : decode cX10_outcomes 0 = .ok (.iconst 0, 1) := by decide +kernel
theorem dX10_outcomes_1 : decode cX10_outcomes 1 = .ok (.istore_n 1, 1) := by decide +kernel
theorem dX10_outcomes_2 : decode cX10_outcomes 2 = .ok (.iconst 0, 1) := by decide +kernel
theorem dX10_outcomes_3 : decode cX10_outcomes 3 = .ok (.istore_n 2, 1) := by decide +kernel
theorem dX10_outcomes_4 : decode cX10_outcomes 4 = .ok (.iload_n 2, 1) := by decide +kernel
theorem dX10_outcomes_5 : decode cX10_outcomes 5 = .ok (.bipush 20, 2) := by decide +kernel
theorem dX10_outcomes_7 : decode cX10_outcomes 7 = .ok (.if_icmp .ge 26, 3) := by decide +kernel
theorem dX10_outcomes_10 : decode cX10_outcomes 10 = .ok (.aload_n 0, 1) := by decide +kernel
theorem dX10_outcomes_11 : decode cX10_outcomes 11 = .ok (.getfield 25, 3) := by decide +kernel
theorem dX10_outcomes_14 : decode cX10_outcomes 14 = .ok (.iload_n 2, 1) := by decide +kernel
theorem dX10_outcomes_15 : decode cX10_outcomes 15 = .ok (.laload, 1) := by decide +kernel
theorem dX10_outcomes_16 : decode cX10_outcomes 16 = .ok (.lconst 0, 1) := by decide +kernel
theorem dX10_outcomes_17 : decode cX10_outcomes 17 = .ok (.lcmp, 1) := by decide +kernel
theorem dX10_outcomes_18 : decode cX10_outcomes 18 = .ok (.ifCond .eq 9, 3) := by decide +kernel
theorem dX10_outcomes_21 : decode cX10_outcomes 21 = .ok (.iload_n 1, 1) := by decide +kernel
theorem dX10_outcomes_22 : decode cX10_outcomes 22 = .ok (.iconst 1, 1) := by decide +kernel
theorem dX10_outcomes_23 : decode cX10_outcomes 23 = .ok (.iload_n 2, 1) := by decide +kernel
theorem dX10_outcomes_24 : decode cX10_outcomes 24 = .ok (.ishl, 1) := by decide +kernel
theorem dX10_outcomes_25 : decode cX10_outcomes 25 = .ok (.ior, 1) := by decide +kernel
theorem dX10_outcomes_26 : decode cX10_outcomes 26 = .ok (.istore_n 1, 1) := by decide +kernel
theorem dX10_outcomes_27 : decode cX10_outcomes 27 = .ok (.iinc 2 1, 3) := by decide +kernel
theorem dX10_outcomes_30 : decode cX10_outcomes 30 = .ok (.goto (-26), 3) := by decide +kernel
theorem dX10_outcomes_33 : decode cX10_outcomes 33 = .ok (.iload_n 1, 1) := by decide +kernel
theorem dX10_outcomes_34 : decode cX10_outcomes 34 = .ok (.ireturn, 1) := by decide +kernel
theorem dX10_waysTo_0 : decode cX10_waysTo 0 = .ok (.iload_n 1, 1) := by decide +kernel
theorem dX10_waysTo_1 : decode cX10_waysTo 1 = .ok (.ifCond .lt 18, 3) := by decide +kernel
theorem dX10_waysTo_4 : decode cX10_waysTo 4 = .ok (.iload_n 1, 1) := by decide +kernel
theorem dX10_waysTo_5 : decode cX10_waysTo 5 = .ok (.bipush 20, 2) := by decide +kernel
theorem dX10_waysTo_7 : decode cX10_waysTo 7 = .ok (.if_icmp .ge 12, 3) := by decide +kernel
theorem dX10_waysTo_10 : decode cX10_waysTo 10 = .ok (.aload_n 0, 1) := by decide +kernel
theorem dX10_waysTo_11 : decode cX10_waysTo 11 = .ok (.getfield 25, 3) := by decide +kernel
theorem dX10_waysTo_14 : decode cX10_waysTo 14 = .ok (.iload_n 1, 1) := by decide +kernel
theorem dX10_waysTo_15 : decode cX10_waysTo 15 = .ok (.laload, 1) := by decide +kernel
theorem dX10_waysTo_16 : decode cX10_waysTo 16 = .ok (.goto 4, 3) := by decide +kernel
theorem dX10_waysTo_19 : decode cX10_waysTo 19 = .ok (.lconst 0, 1) := by decide +kernel
theorem dX10_waysTo_20 : decode cX10_waysTo 20 = .ok (.lreturn, 1) := by decide +kernel
theorem dX10_fewestTo_0 : decode cX10_fewestTo 0 = .ok (.aload_n 0, 1) := by decide +kernel
theorem dX10_fewestTo_1 : decode cX10_fewestTo 1 = .ok (.getfield 44, 3) := by decide +kernel
theorem dX10_fewestTo_4 : decode cX10_fewestTo 4 = .ok (.ifCond .ne 13, 3) := by decide +kernel
theorem dX10_fewestTo_7 : decode cX10_fewestTo 7 = .ok (.iload_n 1, 1) := by decide +kernel
theorem dX10_fewestTo_8 : decode cX10_fewestTo 8 = .ok (.ifCond .lt 9, 3) := by decide +kernel
theorem dX10_fewestTo_11 : decode cX10_fewestTo 11 = .ok (.iload_n 1, 1) := by decide +kernel
theorem dX10_fewestTo_12 : decode cX10_fewestTo 12 = .ok (.bipush 20, 2) := by decide +kernel
theorem dX10_fewestTo_14 : decode cX10_fewestTo 14 = .ok (.if_icmp .lt 5, 3) := by decide +kernel
theorem dX10_fewestTo_17 : decode cX10_fewestTo 17 = .ok (.iconst 0, 1) := by decide +kernel
theorem dX10_fewestTo_18 : decode cX10_fewestTo 18 = .ok (.ireturn, 1) := by decide +kernel
theorem dX10_fewestTo_19 : decode cX10_fewestTo 19 = .ok (.iconst 1, 1) := by decide +kernel
theorem dX10_fewestTo_20 : decode cX10_fewestTo 20 = .ok (.istore_n 2, 1) := by decide +kernel
theorem dX10_fewestTo_21 : decode cX10_fewestTo 21 = .ok (.aload_n 0, 1) := by decide +kernel
theorem dX10_fewestTo_22 : decode cX10_fewestTo 22 = .ok (.getfield 28, 3) := by decide +kernel
theorem dX10_fewestTo_25 : decode cX10_fewestTo 25 = .ok (.iload_n 1, 1) := by decide +kernel
theorem dX10_fewestTo_26 : decode cX10_fewestTo 26 = .ok (.iaload, 1) := by decide +kernel
theorem dX10_fewestTo_27 : decode cX10_fewestTo 27 = .ok (.iconst 4, 1) := by decide +kernel
theorem dX10_fewestTo_28 : decode cX10_fewestTo 28 = .ok (.ishr, 1) := by decide +kernel
theorem dX10_fewestTo_29 : decode cX10_fewestTo 29 = .ok (.istore_n 3, 1) := by decide +kernel
theorem dX10_fewestTo_30 : decode cX10_fewestTo 30 = .ok (.iconst 0, 1) := by decide +kernel
theorem dX10_fewestTo_31 : decode cX10_fewestTo 31 = .ok (.istore 4, 2) := by decide +kernel
theorem dX10_fewestTo_33 : decode cX10_fewestTo 33 = .ok (.iload 4, 2) := by decide +kernel
theorem dX10_fewestTo_35 : decode cX10_fewestTo 35 = .ok (.bipush 8, 2) := by decide +kernel
theorem dX10_fewestTo_37 : decode cX10_fewestTo 37 = .ok (.if_icmp .ge 32, 3) := by decide +kernel
theorem dX10_fewestTo_40 : decode cX10_fewestTo 40 = .ok (.iload_n 3, 1) := by decide +kernel
theorem dX10_fewestTo_41 : decode cX10_fewestTo 41 = .ok (.ifCond .le 28, 3) := by decide +kernel
theorem dX10_fewestTo_44 : decode cX10_fewestTo 44 = .ok (.iload_n 3, 1) := by decide +kernel
theorem dX10_fewestTo_45 : decode cX10_fewestTo 45 = .ok (.sipush 4096, 3) := by decide +kernel
theorem dX10_fewestTo_48 : decode cX10_fewestTo 48 = .ok (.if_icmp .ge 21, 3) := by decide +kernel
theorem dX10_fewestTo_51 : decode cX10_fewestTo 51 = .ok (.iinc 2 1, 3) := by decide +kernel
theorem dX10_fewestTo_54 : decode cX10_fewestTo 54 = .ok (.aload_n 0, 1) := by decide +kernel
theorem dX10_fewestTo_55 : decode cX10_fewestTo 55 = .ok (.getfield 19, 3) := by decide +kernel
theorem dX10_fewestTo_58 : decode cX10_fewestTo 58 = .ok (.iload_n 3, 1) := by decide +kernel
theorem dX10_fewestTo_59 : decode cX10_fewestTo 59 = .ok (.iaload, 1) := by decide +kernel
theorem dX10_fewestTo_60 : decode cX10_fewestTo 60 = .ok (.iconst 4, 1) := by decide +kernel
theorem dX10_fewestTo_61 : decode cX10_fewestTo 61 = .ok (.ishr, 1) := by decide +kernel
theorem dX10_fewestTo_62 : decode cX10_fewestTo 62 = .ok (.istore_n 3, 1) := by decide +kernel
theorem dX10_fewestTo_63 : decode cX10_fewestTo 63 = .ok (.iinc 4 1, 3) := by decide +kernel
theorem dX10_fewestTo_66 : decode cX10_fewestTo 66 = .ok (.goto (-33), 3) := by decide +kernel
theorem dX10_fewestTo_69 : decode cX10_fewestTo 69 = .ok (.iload_n 2, 1) := by decide +kernel
theorem dX10_fewestTo_70 : decode cX10_fewestTo 70 = .ok (.ireturn, 1) := by decide +kernel
theorem dX10_moveTo_0 : decode cX10_moveTo 0 = .ok (.iload_n 1, 1) := by decide +kernel
theorem dX10_moveTo_1 : decode cX10_moveTo 1 = .ok (.ifCond .lt 9, 3) := by decide +kernel
theorem dX10_moveTo_4 : decode cX10_moveTo 4 = .ok (.iload_n 1, 1) := by decide +kernel
theorem dX10_moveTo_5 : decode cX10_moveTo 5 = .ok (.bipush 20, 2) := by decide +kernel
theorem dX10_moveTo_7 : decode cX10_moveTo 7 = .ok (.if_icmp .lt 5, 3) := by decide +kernel
theorem dX10_moveTo_10 : decode cX10_moveTo 10 = .ok (.iconst (-1), 1) := by decide +kernel
theorem dX10_moveTo_11 : decode cX10_moveTo 11 = .ok (.ireturn, 1) := by decide +kernel
theorem dX10_moveTo_12 : decode cX10_moveTo 12 = .ok (.aload_n 0, 1) := by decide +kernel
theorem dX10_moveTo_13 : decode cX10_moveTo 13 = .ok (.getfield 28, 3) := by decide +kernel
theorem dX10_moveTo_16 : decode cX10_moveTo 16 = .ok (.iload_n 1, 1) := by decide +kernel
