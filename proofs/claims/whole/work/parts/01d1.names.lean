theorem dX11_back_31 : decode cX11_back 31 = .ok (.iload_n 1, 1) := by decide +kernel
theorem dX11_back_32 : decode cX11_back 32 = .ok (.aaload, 1) := by decide +kernel
theorem dX11_back_33 : decode cX11_back 33 = .ok (.invokevirtual 283, 3) := by decide +kernel
theorem dX11_back_36 : decode cX11_back 36 = .ok (.aload_n 0, 1) := by decide +kernel
theorem dX11_back_37 : decode cX11_back 37 = .ok (.getfield 37, 3) := by decide +kernel
theorem dX11_back_40 : decode cX11_back 40 = .ok (.getfield 291, 3) := by decide +kernel
theorem dX11_back_43 : decode cX11_back 43 = .ok (.ireturn, 1) := by decide +kernel
set_option maxRecDepth 20000 in
theorem ggX11_count_X1_goingOn : GoodIn wsX11_count wsX1_goingOn := goodIn_r _ [11, 12, 13, 14, 15, 16, 17, 18, 19, 20, 21, 22, 23, 24, 25, 26, 27, 28, 29, 30, 31, 32, 44, 45, 46, 47, 48, 49, 50, 51, 52, 55, 56, 57, 58, 59, 60, 61, 62] (by decide +kernel) (by decide +kernel)
set_option maxRecDepth 20000 in
theorem gX11_count_X1_goingOn : GoodIn wsX11_count (wsV RX11 297 RX1 yX1_goingOn wsX1_goingOn) := goodIn_app (goodIn_of _ (by decide +kernel)) ggX11_count_X1_goingOn
theorem dX11_count_0 : decode cX11_count 0 = .ok (.iload_n 1, 1) := by decide +kernel
theorem dX11_count_1 : decode cX11_count 1 = .ok (.tableswitch 72 0 4 #[35, 43, 48, 56, 64], 35) := by decide +kernel
theorem dX11_count_36 : decode cX11_count 36 = .ok (.aload_n 0, 1) := by decide +kernel
theorem dX11_count_37 : decode cX11_count 37 = .ok (.getfield 37, 3) := by decide +kernel
theorem dX11_count_40 : decode cX11_count 40 = .ok (.getfield 294, 3) := by decide +kernel
theorem dX11_count_43 : decode cX11_count 43 = .ok (.ireturn, 1) := by decide +kernel
theorem dX11_count_44 : decode cX11_count 44 = .ok (.aload_n 0, 1) := by decide +kernel
theorem dX11_count_45 : decode cX11_count 45 = .ok (.getfield 100, 3) := by decide +kernel
theorem dX11_count_48 : decode cX11_count 48 = .ok (.ireturn, 1) := by decide +kernel
theorem dX11_count_49 : decode cX11_count 49 = .ok (.aload_n 0, 1) := by decide +kernel
theorem dX11_count_50 : decode cX11_count 50 = .ok (.getfield 37, 3) := by decide +kernel
theorem dX11_count_53 : decode cX11_count 53 = .ok (.getfield 291, 3) := by decide +kernel
theorem dX11_count_56 : decode cX11_count 56 = .ok (.ireturn, 1) := by decide +kernel
theorem dX11_count_57 : decode cX11_count 57 = .ok (.aload_n 0, 1) := by decide +kernel
theorem dX11_count_58 : decode cX11_count 58 = .ok (.getfield 37, 3) := by decide +kernel
theorem dX11_count_61 : decode cX11_count 61 = .ok (.invokevirtual 297, 3) := by decide +kernel
theorem dX11_count_64 : decode cX11_count 64 = .ok (.ireturn, 1) := by decide +kernel
theorem dX11_count_65 : decode cX11_count 65 = .ok (.aload_n 0, 1) := by decide +kernel
theorem dX11_count_66 : decode cX11_count 66 = .ok (.getfield 12, 3) := by decide +kernel
theorem dX11_count_69 : decode cX11_count 69 = .ok (.getfield 92, 3) := by decide +kernel
theorem dX11_count_72 : decode cX11_count 72 = .ok (.ireturn, 1) := by decide +kernel
theorem dX11_count_73 : decode cX11_count 73 = .ok (.iconst (-1), 1) := by decide +kernel
theorem dX11_count_74 : decode cX11_count 74 = .ok (.ireturn, 1) := by decide +kernel
theorem dX11_isWithin_0 : decode cX11_isWithin 0 = .ok (.iload_n 0, 1) := by decide +kernel
theorem dX11_isWithin_1 : decode cX11_isWithin 1 = .ok (.iload_n 1, 1) := by decide +kernel
theorem dX11_isWithin_2 : decode cX11_isWithin 2 = .ok (.if_icmp .lt 12, 3) := by decide +kernel
theorem dX11_isWithin_5 : decode cX11_isWithin 5 = .ok (.iload_n 0, 1) := by decide +kernel
theorem dX11_isWithin_6 : decode cX11_isWithin 6 = .ok (.iload_n 2, 1) := by decide +kernel
theorem dX11_isWithin_7 : decode cX11_isWithin 7 = .ok (.if_icmp .gt 7, 3) := by decide +kernel
theorem dX11_isWithin_10 : decode cX11_isWithin 10 = .ok (.iconst 1, 1) := by decide +kernel
theorem dX11_isWithin_11 : decode cX11_isWithin 11 = .ok (.goto 4, 3) := by decide +kernel
theorem dX11_isWithin_14 : decode cX11_isWithin 14 = .ok (.iconst 0, 1) := by decide +kernel
theorem dX11_isWithin_15 : decode cX11_isWithin 15 = .ok (.ireturn, 1) := by decide +kernel
set_option maxRecDepth 20000 in
theorem ggX11_areTwo_X1_hasPerson : GoodIn wsX11_areTwo wsX1_hasPerson := goodIn_r _ [6, 7, 19, 20, 21, 22, 23, 24, 25, 26, 27] (by decide +kernel) (by decide +kernel)
set_option maxRecDepth 20000 in
theorem gX11_areTwo_X1_hasPerson : GoodIn wsX11_areTwo (wsV RX11 107 RX1 yX1_hasPerson wsX1_hasPerson) := goodIn_app (goodIn_of _ (by decide +kernel)) ggX11_areTwo_X1_hasPerson
theorem dX11_areTwo_0 : decode cX11_areTwo 0 = .ok (.iload_n 1, 1) := by decide +kernel
theorem dX11_areTwo_1 : decode cX11_areTwo 1 = .ok (.iload_n 2, 1) := by decide +kernel
theorem dX11_areTwo_2 : decode cX11_areTwo 2 = .ok (.if_icmp .eq 29, 3) := by decide +kernel
theorem dX11_areTwo_5 : decode cX11_areTwo 5 = .ok (.aload_n 0, 1) := by decide +kernel
theorem dX11_areTwo_6 : decode cX11_areTwo 6 = .ok (.getfield 37, 3) := by decide +kernel
theorem dX11_areTwo_9 : decode cX11_areTwo 9 = .ok (.iload_n 1, 1) := by decide +kernel
theorem dX11_areTwo_10 : decode cX11_areTwo 10 = .ok (.invokevirtual 107, 3) := by decide +kernel
theorem dX11_areTwo_13 : decode cX11_areTwo 13 = .ok (.ifCond .eq 18, 3) := by decide +kernel
theorem dX11_areTwo_16 : decode cX11_areTwo 16 = .ok (.aload_n 0, 1) := by decide +kernel
theorem dX11_areTwo_17 : decode cX11_areTwo 17 = .ok (.getfield 37, 3) := by decide +kernel
theorem dX11_areTwo_20 : decode cX11_areTwo 20 = .ok (.iload_n 2, 1) := by decide +kernel
theorem dX11_areTwo_21 : decode cX11_areTwo 21 = .ok (.invokevirtual 107, 3) := by decide +kernel
theorem dX11_areTwo_24 : decode cX11_areTwo 24 = .ok (.ifCond .eq 7, 3) := by decide +kernel
theorem dX11_areTwo_27 : decode cX11_areTwo 27 = .ok (.iconst 1, 1) := by decide +kernel
theorem dX11_areTwo_28 : decode cX11_areTwo 28 = .ok (.goto 4, 3) := by decide +kernel
theorem dX11_areTwo_31 : decode cX11_areTwo 31 = .ok (.iconst 0, 1) := by decide +kernel
theorem dX11_areTwo_32 : decode cX11_areTwo 32 = .ok (.ireturn, 1) := by decide +kernel
theorem dX11_hasCode_0 : decode cX11_hasCode 0 = .ok (.iload_n 1, 1) := by decide +kernel
theorem dX11_hasCode_1 : decode cX11_hasCode 1 = .ok (.ifCond .lt 15, 3) := by decide +kernel
theorem dX11_hasCode_4 : decode cX11_hasCode 4 = .ok (.iload_n 1, 1) := by decide +kernel
theorem dX11_hasCode_5 : decode cX11_hasCode 5 = .ok (.aload_n 0, 1) := by decide +kernel
theorem dX11_hasCode_6 : decode cX11_hasCode 6 = .ok (.getfield 100, 3) := by decide +kernel
theorem dX11_hasCode_9 : decode cX11_hasCode 9 = .ok (.if_icmp .ge 7, 3) := by decide +kernel
theorem dX11_hasCode_12 : decode cX11_hasCode 12 = .ok (.iconst 1, 1) := by decide +kernel
theorem dX11_hasCode_13 : decode cX11_hasCode 13 = .ok (.goto 4, 3) := by decide +kernel
theorem dX11_hasCode_16 : decode cX11_hasCode 16 = .ok (.iconst 0, 1) := by decide +kernel
theorem dX11_hasCode_17 : decode cX11_hasCode 17 = .ok (.ireturn, 1) := by decide +kernel
theorem dX11_codeAt_0 : decode cX11_codeAt 0 = .ok (.iload_n 1, 1) := by decide +kernel
theorem dX11_codeAt_1 : decode cX11_codeAt 1 = .ok (.ifCond .lt 18, 3) := by decide +kernel
theorem dX11_codeAt_4 : decode cX11_codeAt 4 = .ok (.iload_n 1, 1) := by decide +kernel
theorem dX11_codeAt_5 : decode cX11_codeAt 5 = .ok (.bipush 6, 2) := by decide +kernel
theorem dX11_codeAt_7 : decode cX11_codeAt 7 = .ok (.if_icmp .ge 12, 3) := by decide +kernel
theorem dX11_codeAt_10 : decode cX11_codeAt 10 = .ok (.aload_n 0, 1) := by decide +kernel
theorem dX11_codeAt_11 : decode cX11_codeAt 11 = .ok (.getfield 18, 3) := by decide +kernel
theorem dX11_codeAt_14 : decode cX11_codeAt 14 = .ok (.iload_n 1, 1) := by decide +kernel
theorem dX11_codeAt_15 : decode cX11_codeAt 15 = .ok (.aaload, 1) := by decide +kernel
theorem dX11_codeAt_16 : decode cX11_codeAt 16 = .ok (.goto 7, 3) := by decide +kernel
theorem dX11_codeAt_19 : decode cX11_codeAt 19 = .ok (.aload_n 0, 1) := by decide +kernel
theorem dX11_codeAt_20 : decode cX11_codeAt 20 = .ok (.getfield 23, 3) := by decide +kernel
theorem dX11_codeAt_23 : decode cX11_codeAt 23 = .ok (.areturn, 1) := by decide +kernel
set_option maxRecDepth 20000 in
theorem ggX11_study_X11_codeAt : GoodIn wsX11_study wsX11_codeAt := goodIn_r _ [12, 13, 14, 64, 65, 66, 67, 68, 69, 70, 71, 72, 73, 74] (by decide +kernel) (by decide +kernel)
set_option maxRecDepth 20000 in
theorem gX11_study_X11_codeAt : GoodIn wsX11_study (wsV RX11 118 RX11 yX11_codeAt wsX11_codeAt) := goodIn_app (goodIn_of _ (by decide +kernel)) ggX11_study_X11_codeAt
set_option maxRecDepth 20000 in
theorem ggX11_study_X0_set : GoodIn wsX11_study wsX0_set := goodIn_r _ [19, 20, 21, 22, 23, 24, 25, 26, 27, 28, 29, 30, 31, 32, 33, 34, 35, 36, 37, 38, 39, 40, 41, 42, 43, 44, 45, 46, 47, 48, 49, 50, 51, 52, 53, 54, 55, 56, 57, 58, 59, 60, 61, 62, 63, 83, 84, 85, 86, 87, 88, 89, 90, 91, 92, 93, 94, 95, 96, 97, 98, 99, 100, 101, 102, 103, 104, 105, 106, 107, 108, 109, 110, 111, 112, 113] (by decide +kernel) (by decide +kernel)
set_option maxRecDepth 20000 in
theorem gX11_study_X0_set : GoodIn wsX11_study (wsV RX11 265 RX0 yX0_set wsX0_set) := goodIn_app (goodIn_of _ (by decide +kernel)) ggX11_study_X0_set
theorem dX11_study_0 : decode cX11_study 0 = .ok (.aload_n 0, 1) := by decide +kernel
theorem dX11_study_1 : decode cX11_study 1 = .ok (.getfield 55, 3) := by decide +kernel
theorem dX11_study_4 : decode cX11_study 4 = .ok (.aload_n 0, 1) := by decide +kernel
theorem dX11_study_5 : decode cX11_study 5 = .ok (.getfield 37, 3) := by decide +kernel
theorem dX11_study_8 : decode cX11_study 8 = .ok (.aload_n 1, 1) := by decide +kernel
theorem dX11_study_9 : decode cX11_study 9 = .ok (.getfield 300, 3) := by decide +kernel
theorem dX11_study_12 : decode cX11_study 12 = .ok (.aload_n 1, 1) := by decide +kernel
theorem dX11_study_13 : decode cX11_study 13 = .ok (.getfield 303, 3) := by decide +kernel
theorem dX11_study_16 : decode cX11_study 16 = .ok (.aload_n 1, 1) := by decide +kernel
theorem dX11_study_17 : decode cX11_study 17 = .ok (.getfield 306, 3) := by decide +kernel
theorem dX11_study_20 : decode cX11_study 20 = .ok (.aload_n 0, 1) := by decide +kernel
theorem dX11_study_21 : decode cX11_study 21 = .ok (.aload_n 1, 1) := by decide +kernel
theorem dX11_study_22 : decode cX11_study 22 = .ok (.getfield 309, 3) := by decide +kernel
theorem dX11_study_25 : decode cX11_study 25 = .ok (.invokevirtual 118, 3) := by decide +kernel
theorem dX11_study_28 : decode cX11_study 28 = .ok (.aload_n 0, 1) := by decide +kernel
theorem dX11_study_29 : decode cX11_study 29 = .ok (.aload_n 1, 1) := by decide +kernel
theorem dX11_study_30 : decode cX11_study 30 = .ok (.getfield 312, 3) := by decide +kernel
theorem dX11_study_33 : decode cX11_study 33 = .ok (.invokevirtual 118, 3) := by decide +kernel
theorem dX11_study_36 : decode cX11_study 36 = .ok (.invokevirtual 265, 3) := by decide +kernel
theorem dX11_study_39 : decode cX11_study 39 = .ok (.return_, 1) := by decide +kernel
set_option maxRecDepth 20000 in
theorem ggX11_mustMeet_X7_ending : GoodIn wsX11_mustMeet wsX7_ending := goodIn_r _ [4] (by decide +kernel) (by decide +kernel)
set_option maxRecDepth 20000 in
theorem gX11_mustMeet_X7_ending : GoodIn wsX11_mustMeet (va_wsS RX11 177 yX7_ending wsX7_ending) := goodIn_app (goodIn_of _ (by decide +kernel)) ggX11_mustMeet_X7_ending
theorem dX11_mustMeet_0 : decode cX11_mustMeet 0 = .ok (.iload_n 0, 1) := by decide +kernel
theorem dX11_mustMeet_1 : decode cX11_mustMeet 1 = .ok (.invokestatic 177, 3) := by decide +kernel
theorem dX11_mustMeet_4 : decode cX11_mustMeet 4 = .ok (.iconst 2, 1) := by decide +kernel
theorem dX11_mustMeet_5 : decode cX11_mustMeet 5 = .ok (.if_icmp .ne 7, 3) := by decide +kernel
theorem dX11_mustMeet_8 : decode cX11_mustMeet 8 = .ok (.iconst 1, 1) := by decide +kernel
theorem dX11_mustMeet_9 : decode cX11_mustMeet 9 = .ok (.goto 4, 3) := by decide +kernel
theorem dX11_mustMeet_12 : decode cX11_mustMeet 12 = .ok (.iconst 0, 1) := by decide +kernel
theorem dX11_mustMeet_13 : decode cX11_mustMeet 13 = .ok (.ireturn, 1) := by decide +kernel
