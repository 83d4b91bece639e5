theorem dX2_countOfBacks_30 : decode cX2_countOfBacks 30 = .ok (.if_icmp .ge 6, 3) := by decide +kernel
theorem dX2_countOfBacks_33 : decode cX2_countOfBacks 33 = .ok (.iinc 2 1, 3) := by decide +kernel
theorem dX2_countOfBacks_36 : decode cX2_countOfBacks 36 = .ok (.iinc 3 1, 3) := by decide +kernel
theorem dX2_countOfBacks_39 : decode cX2_countOfBacks 39 = .ok (.goto (-35), 3) := by decide +kernel
theorem dX2_countOfBacks_42 : decode cX2_countOfBacks 42 = .ok (.iload_n 2, 1) := by decide +kernel
theorem dX2_countOfBacks_43 : decode cX2_countOfBacks 43 = .ok (.ireturn, 1) := by decide +kernel
theorem dX2_backClauses_0 : decode cX2_backClauses 0 = .ok (.iconst 0, 1) := by decide +kernel
theorem dX2_backClauses_1 : decode cX2_backClauses 1 = .ok (.istore_n 2, 1) := by decide +kernel
theorem dX2_backClauses_2 : decode cX2_backClauses 2 = .ok (.iconst 0, 1) := by decide +kernel
theorem dX2_backClauses_3 : decode cX2_backClauses 3 = .ok (.istore_n 3, 1) := by decide +kernel
theorem dX2_backClauses_4 : decode cX2_backClauses 4 = .ok (.iconst 0, 1) := by decide +kernel
theorem dX2_backClauses_5 : decode cX2_backClauses 5 = .ok (.istore 4, 2) := by decide +kernel
theorem dX2_backClauses_7 : decode cX2_backClauses 7 = .ok (.iload 4, 2) := by decide +kernel
theorem dX2_backClauses_9 : decode cX2_backClauses 9 = .ok (.aload_n 0, 1) := by decide +kernel
theorem dX2_backClauses_10 : decode cX2_backClauses 10 = .ok (.getfield 46, 3) := by decide +kernel
theorem dX2_backClauses_13 : decode cX2_backClauses 13 = .ok (.if_icmp .ge 41, 3) := by decide +kernel
theorem dX2_backClauses_16 : decode cX2_backClauses 16 = .ok (.iload 4, 2) := by decide +kernel
theorem dX2_backClauses_18 : decode cX2_backClauses 18 = .ok (.bipush 14, 2) := by decide +kernel
theorem dX2_backClauses_20 : decode cX2_backClauses 20 = .ok (.if_icmp .ge 34, 3) := by decide +kernel
theorem dX2_backClauses_23 : decode cX2_backClauses 23 = .ok (.aload_n 0, 1) := by decide +kernel
theorem dX2_backClauses_24 : decode cX2_backClauses 24 = .ok (.getfield 11, 3) := by decide +kernel
theorem dX2_backClauses_27 : decode cX2_backClauses 27 = .ok (.iload 4, 2) := by decide +kernel
theorem dX2_backClauses_29 : decode cX2_backClauses 29 = .ok (.iaload, 1) := by decide +kernel
theorem dX2_backClauses_30 : decode cX2_backClauses 30 = .ok (.iconst 1, 1) := by decide +kernel
theorem dX2_backClauses_31 : decode cX2_backClauses 31 = .ok (.if_icmp .ne 17, 3) := by decide +kernel
theorem dX2_backClauses_34 : decode cX2_backClauses 34 = .ok (.iload_n 2, 1) := by decide +kernel
theorem dX2_backClauses_35 : decode cX2_backClauses 35 = .ok (.iload_n 1, 1) := by decide +kernel
theorem dX2_backClauses_36 : decode cX2_backClauses 36 = .ok (.iload_n 3, 1) := by decide +kernel
theorem dX2_backClauses_37 : decode cX2_backClauses 37 = .ok (.ishr, 1) := by decide +kernel
theorem dX2_backClauses_38 : decode cX2_backClauses 38 = .ok (.iconst 1, 1) := by decide +kernel
theorem dX2_backClauses_39 : decode cX2_backClauses 39 = .ok (.iand, 1) := by decide +kernel
theorem dX2_backClauses_40 : decode cX2_backClauses 40 = .ok (.iload 4, 2) := by decide +kernel
theorem dX2_backClauses_42 : decode cX2_backClauses 42 = .ok (.ishl, 1) := by decide +kernel
theorem dX2_backClauses_43 : decode cX2_backClauses 43 = .ok (.ior, 1) := by decide +kernel
theorem dX2_backClauses_44 : decode cX2_backClauses 44 = .ok (.istore_n 2, 1) := by decide +kernel
theorem dX2_backClauses_45 : decode cX2_backClauses 45 = .ok (.iinc 3 1, 3) := by decide +kernel
theorem dX2_backClauses_48 : decode cX2_backClauses 48 = .ok (.iinc 4 1, 3) := by decide +kernel
theorem dX2_backClauses_51 : decode cX2_backClauses 51 = .ok (.goto (-44), 3) := by decide +kernel
theorem dX2_backClauses_54 : decode cX2_backClauses 54 = .ok (.iload_n 2, 1) := by decide +kernel
theorem dX2_backClauses_55 : decode cX2_backClauses 55 = .ok (.ireturn, 1) := by decide +kernel
theorem dX2_slotOf_0 : decode cX2_slotOf 0 = .ok (.aload_n 0, 1) := by decide +kernel
theorem dX2_slotOf_1 : decode cX2_slotOf 1 = .ok (.getfield 11, 3) := by decide +kernel
theorem dX2_slotOf_4 : decode cX2_slotOf 4 = .ok (.iload_n 1, 1) := by decide +kernel
theorem dX2_slotOf_5 : decode cX2_slotOf 5 = .ok (.iaload, 1) := by decide +kernel
theorem dX2_slotOf_6 : decode cX2_slotOf 6 = .ok (.istore_n 2, 1) := by decide +kernel
theorem dX2_slotOf_7 : decode cX2_slotOf 7 = .ok (.iload_n 2, 1) := by decide +kernel
theorem dX2_slotOf_8 : decode cX2_slotOf 8 = .ok (.ifCond .eq 8, 3) := by decide +kernel
theorem dX2_slotOf_11 : decode cX2_slotOf 11 = .ok (.iload_n 2, 1) := by decide +kernel
theorem dX2_slotOf_12 : decode cX2_slotOf 12 = .ok (.iconst 1, 1) := by decide +kernel
theorem dX2_slotOf_13 : decode cX2_slotOf 13 = .ok (.if_icmp .ne 16, 3) := by decide +kernel
theorem dX2_slotOf_16 : decode cX2_slotOf 16 = .ok (.iload_n 2, 1) := by decide +kernel
theorem dX2_slotOf_17 : decode cX2_slotOf 17 = .ok (.iconst 4, 1) := by decide +kernel
theorem dX2_slotOf_18 : decode cX2_slotOf 18 = .ok (.imul, 1) := by decide +kernel
theorem dX2_slotOf_19 : decode cX2_slotOf 19 = .ok (.aload_n 0, 1) := by decide +kernel
theorem dX2_slotOf_20 : decode cX2_slotOf 20 = .ok (.getfield 15, 3) := by decide +kernel
theorem dX2_slotOf_23 : decode cX2_slotOf 23 = .ok (.iload_n 1, 1) := by decide +kernel
theorem dX2_slotOf_24 : decode cX2_slotOf 24 = .ok (.iaload, 1) := by decide +kernel
theorem dX2_slotOf_25 : decode cX2_slotOf 25 = .ok (.iadd, 1) := by decide +kernel
theorem dX2_slotOf_26 : decode cX2_slotOf 26 = .ok (.goto 5, 3) := by decide +kernel
theorem dX2_slotOf_29 : decode cX2_slotOf 29 = .ok (.bipush 8, 2) := by decide +kernel
theorem dX2_slotOf_31 : decode cX2_slotOf 31 = .ok (.ireturn, 1) := by decide +kernel
set_option maxRecDepth 20000 in
theorem ggX2_holds_X6_valueOf : GoodIn wsX2_holds wsX6_valueOf := goodIn_r _ [9, 10, 27] (by decide +kernel) (by decide +kernel)
set_option maxRecDepth 20000 in
theorem gX2_holds_X6_valueOf : GoodIn wsX2_holds (wsV RX2 57 RX6 yX6_valueOf wsX6_valueOf) := goodIn_app (goodIn_of _ (by decide +kernel)) ggX2_holds_X6_valueOf
set_option maxRecDepth 20000 in
theorem ggX2_holds_X2_joined : GoodIn wsX2_holds wsX2_joined := goodIn_r _ [14] (by decide +kernel) (by decide +kernel)
set_option maxRecDepth 20000 in
theorem gX2_holds_X2_joined : GoodIn wsX2_holds (va_wsS RX2 62 yX2_joined wsX2_joined) := goodIn_app (goodIn_of _ (by decide +kernel)) ggX2_holds_X2_joined
theorem dX2_holds_0 : decode cX2_holds 0 = .ok (.iconst 0, 1) := by decide +kernel
theorem dX2_holds_1 : decode cX2_holds 1 = .ok (.istore_n 3, 1) := by decide +kernel
theorem dX2_holds_2 : decode cX2_holds 2 = .ok (.aload_n 0, 1) := by decide +kernel
theorem dX2_holds_3 : decode cX2_holds 3 = .ok (.getfield 21, 3) := by decide +kernel
theorem dX2_holds_6 : decode cX2_holds 6 = .ok (.iload_n 1, 1) := by decide +kernel
theorem dX2_holds_7 : decode cX2_holds 7 = .ok (.iaload, 1) := by decide +kernel
theorem dX2_holds_8 : decode cX2_holds 8 = .ok (.istore 4, 2) := by decide +kernel
theorem dX2_holds_10 : decode cX2_holds 10 = .ok (.iload 4, 2) := by decide +kernel
theorem dX2_holds_12 : decode cX2_holds 12 = .ok (.aload_n 0, 1) := by decide +kernel
theorem dX2_holds_13 : decode cX2_holds 13 = .ok (.getfield 24, 3) := by decide +kernel
theorem dX2_holds_16 : decode cX2_holds 16 = .ok (.iload_n 1, 1) := by decide +kernel
theorem dX2_holds_17 : decode cX2_holds 17 = .ok (.iaload, 1) := by decide +kernel
theorem dX2_holds_18 : decode cX2_holds 18 = .ok (.if_icmp .ge 144, 3) := by decide +kernel
theorem dX2_holds_21 : decode cX2_holds 21 = .ok (.iload 4, 2) := by decide +kernel
theorem dX2_holds_23 : decode cX2_holds 23 = .ok (.sipush 256, 3) := by decide +kernel
theorem dX2_holds_26 : decode cX2_holds 26 = .ok (.if_icmp .ge 136, 3) := by decide +kernel
theorem dX2_holds_29 : decode cX2_holds 29 = .ok (.aload_n 0, 1) := by decide +kernel
theorem dX2_holds_30 : decode cX2_holds 30 = .ok (.getfield 27, 3) := by decide +kernel
theorem dX2_holds_33 : decode cX2_holds 33 = .ok (.iload 4, 2) := by decide +kernel
theorem dX2_holds_35 : decode cX2_holds 35 = .ok (.iaload, 1) := by decide +kernel
theorem dX2_holds_36 : decode cX2_holds 36 = .ok (.istore 5, 2) := by decide +kernel
theorem dX2_holds_38 : decode cX2_holds 38 = .ok (.iload 5, 2) := by decide +kernel
theorem dX2_holds_40 : decode cX2_holds 40 = .ok (.sipush 20000, 3) := by decide +kernel
theorem dX2_holds_43 : decode cX2_holds 43 = .ok (.if_icmp .ge 44, 3) := by decide +kernel
theorem dX2_holds_46 : decode cX2_holds 46 = .ok (.iload_n 3, 1) := by decide +kernel
theorem dX2_holds_47 : decode cX2_holds 47 = .ok (.bipush 64, 2) := by decide +kernel
theorem dX2_holds_49 : decode cX2_holds 49 = .ok (.if_icmp .ge 107, 3) := by decide +kernel
theorem dX2_holds_52 : decode cX2_holds 52 = .ok (.aload_n 0, 1) := by decide +kernel
theorem dX2_holds_53 : decode cX2_holds 53 = .ok (.getfield 30, 3) := by decide +kernel
theorem dX2_holds_56 : decode cX2_holds 56 = .ok (.iload_n 3, 1) := by decide +kernel
theorem dX2_holds_57 : decode cX2_holds 57 = .ok (.iload 5, 2) := by decide +kernel
theorem dX2_holds_59 : decode cX2_holds 59 = .ok (.sipush 10000, 3) := by decide +kernel
theorem dX2_holds_62 : decode cX2_holds 62 = .ok (.if_icmp .ge 8, 3) := by decide +kernel
theorem dX2_holds_65 : decode cX2_holds 65 = .ok (.iload 5, 2) := by decide +kernel
theorem dX2_holds_67 : decode cX2_holds 67 = .ok (.goto 13, 3) := by decide +kernel
theorem dX2_holds_70 : decode cX2_holds 70 = .ok (.aload_n 2, 1) := by decide +kernel
theorem dX2_holds_71 : decode cX2_holds 71 = .ok (.iload 5, 2) := by decide +kernel
theorem dX2_holds_73 : decode cX2_holds 73 = .ok (.sipush 10000, 3) := by decide +kernel
theorem dX2_holds_76 : decode cX2_holds 76 = .ok (.isub, 1) := by decide +kernel
theorem dX2_holds_77 : decode cX2_holds 77 = .ok (.invokevirtual 57, 3) := by decide +kernel
theorem dX2_holds_80 : decode cX2_holds 80 = .ok (.iastore, 1) := by decide +kernel
theorem dX2_holds_81 : decode cX2_holds 81 = .ok (.iinc 3 1, 3) := by decide +kernel
theorem dX2_holds_84 : decode cX2_holds 84 = .ok (.goto 72, 3) := by decide +kernel
theorem dX2_holds_87 : decode cX2_holds 87 = .ok (.iload 5, 2) := by decide +kernel
theorem dX2_holds_89 : decode cX2_holds 89 = .ok (.sipush 20007, 3) := by decide +kernel
theorem dX2_holds_92 : decode cX2_holds 92 = .ok (.if_icmp .ne 29, 3) := by decide +kernel
theorem dX2_holds_95 : decode cX2_holds 95 = .ok (.iload_n 3, 1) := by decide +kernel
theorem dX2_holds_96 : decode cX2_holds 96 = .ok (.iconst 1, 1) := by decide +kernel
theorem dX2_holds_97 : decode cX2_holds 97 = .ok (.if_icmp .lt 24, 3) := by decide +kernel
theorem dX2_holds_100 : decode cX2_holds 100 = .ok (.aload_n 0, 1) := by decide +kernel
theorem dX2_holds_101 : decode cX2_holds 101 = .ok (.getfield 30, 3) := by decide +kernel
theorem dX2_holds_104 : decode cX2_holds 104 = .ok (.iload_n 3, 1) := by decide +kernel
theorem dX2_holds_105 : decode cX2_holds 105 = .ok (.iconst 1, 1) := by decide +kernel
theorem dX2_holds_106 : decode cX2_holds 106 = .ok (.isub, 1) := by decide +kernel
theorem dX2_holds_107 : decode cX2_holds 107 = .ok (.iconst 1, 1) := by decide +kernel
theorem dX2_holds_108 : decode cX2_holds 108 = .ok (.aload_n 0, 1) := by decide +kernel
theorem dX2_holds_109 : decode cX2_holds 109 = .ok (.getfield 30, 3) := by decide +kernel
theorem dX2_holds_112 : decode cX2_holds 112 = .ok (.iload_n 3, 1) := by decide +kernel
theorem dX2_holds_113 : decode cX2_holds 113 = .ok (.iconst 1, 1) := by decide +kernel
theorem dX2_holds_114 : decode cX2_holds 114 = .ok (.isub, 1) := by decide +kernel
theorem dX2_holds_115 : decode cX2_holds 115 = .ok (.iaload, 1) := by decide +kernel
theorem dX2_holds_116 : decode cX2_holds 116 = .ok (.isub, 1) := by decide +kernel
theorem dX2_holds_117 : decode cX2_holds 117 = .ok (.iastore, 1) := by decide +kernel
theorem dX2_holds_118 : decode cX2_holds 118 = .ok (.goto 38, 3) := by decide +kernel
theorem dX2_holds_121 : decode cX2_holds 121 = .ok (.iload_n 3, 1) := by decide +kernel
theorem dX2_holds_122 : decode cX2_holds 122 = .ok (.iconst 2, 1) := by decide +kernel
theorem dX2_holds_123 : decode cX2_holds 123 = .ok (.if_icmp .lt 33, 3) := by decide +kernel
theorem dX2_holds_126 : decode cX2_holds 126 = .ok (.iinc 3 (-1), 3) := by decide +kernel
theorem dX2_holds_129 : decode cX2_holds 129 = .ok (.aload_n 0, 1) := by decide +kernel
theorem dX2_holds_130 : decode cX2_holds 130 = .ok (.getfield 30, 3) := by decide +kernel
theorem dX2_holds_133 : decode cX2_holds 133 = .ok (.iload_n 3, 1) := by decide +kernel
theorem dX2_holds_134 : decode cX2_holds 134 = .ok (.iconst 1, 1) := by decide +kernel
theorem dX2_holds_135 : decode cX2_holds 135 = .ok (.isub, 1) := by decide +kernel
theorem dX2_holds_136 : decode cX2_holds 136 = .ok (.iload 5, 2) := by decide +kernel
theorem dX2_holds_138 : decode cX2_holds 138 = .ok (.aload_n 0, 1) := by decide +kernel
theorem dX2_holds_139 : decode cX2_holds 139 = .ok (.getfield 30, 3) := by decide +kernel
theorem dX2_holds_142 : decode cX2_holds 142 = .ok (.iload_n 3, 1) := by decide +kernel
theorem dX2_holds_143 : decode cX2_holds 143 = .ok (.iconst 1, 1) := by decide +kernel
theorem dX2_holds_144 : decode cX2_holds 144 = .ok (.isub, 1) := by decide +kernel
theorem dX2_holds_145 : decode cX2_holds 145 = .ok (.iaload, 1) := by decide +kernel
theorem dX2_holds_146 : decode cX2_holds 146 = .ok (.aload_n 0, 1) := by decide +kernel
theorem dX2_holds_147 : decode cX2_holds 147 = .ok (.getfield 30, 3) := by decide +kernel
theorem dX2_holds_150 : decode cX2_holds 150 = .ok (.iload_n 3, 1) := by decide +kernel
theorem dX2_holds_151 : decode cX2_holds 151 = .ok (.iaload, 1) := by decide +kernel
theorem dX2_holds_152 : decode cX2_holds 152 = .ok (.invokestatic 62, 3) := by decide +kernel
theorem dX2_holds_155 : decode cX2_holds 155 = .ok (.iastore, 1) := by decide +kernel
theorem dX2_holds_156 : decode cX2_holds 156 = .ok (.iinc 4 1, 3) := by decide +kernel
theorem dX2_holds_159 : decode cX2_holds 159 = .ok (.goto (-149), 3) := by decide +kernel
theorem dX2_holds_162 : decode cX2_holds 162 = .ok (.iload_n 3, 1) := by decide +kernel
theorem dX2_holds_163 : decode cX2_holds 163 = .ok (.ifCond .eq 12, 3) := by decide +kernel
theorem dX2_holds_166 : decode cX2_holds 166 = .ok (.aload_n 0, 1) := by decide +kernel
theorem dX2_holds_167 : decode cX2_holds 167 = .ok (.getfield 30, 3) := by decide +kernel
theorem dX2_holds_170 : decode cX2_holds 170 = .ok (.iconst 0, 1) := by decide +kernel
theorem dX2_holds_171 : decode cX2_holds 171 = .ok (.iaload, 1) := by decide +kernel
theorem dX2_holds_172 : decode cX2_holds 172 = .ok (.ifCond .eq 7, 3) := by decide +kernel
theorem dX2_holds_175 : decode cX2_holds 175 = .ok (.iconst 1, 1) := by decide +kernel
theorem dX2_holds_176 : decode cX2_holds 176 = .ok (.goto 4, 3) := by decide +kernel
theorem dX2_holds_179 : decode cX2_holds 179 = .ok (.iconst 0, 1) := by decide +kernel
theorem dX2_holds_180 : decode cX2_holds 180 = .ok (.ireturn, 1) := by decide +kernel
theorem dX2_joined_0 : decode cX2_joined 0 = .ok (.iload_n 0, 1) := by decide +kernel
theorem dX2_joined_1 : decode cX2_joined 1 = .ok (.tableswitch 126 20000 20009 #[55, 59, 63, 74, 85, 96, 107, 126, 118, 122], 55) := by decide +kernel
theorem dX2_joined_56 : decode cX2_joined 56 = .ok (.iload_n 1, 1) := by decide +kernel
theorem dX2_joined_57 : decode cX2_joined 57 = .ok (.iload_n 2, 1) := by decide +kernel
theorem dX2_joined_58 : decode cX2_joined 58 = .ok (.iadd, 1) := by decide +kernel
theorem dX2_joined_59 : decode cX2_joined 59 = .ok (.ireturn, 1) := by decide +kernel
theorem dX2_joined_60 : decode cX2_joined 60 = .ok (.iload_n 1, 1) := by decide +kernel
theorem dX2_joined_61 : decode cX2_joined 61 = .ok (.iload_n 2, 1) := by decide +kernel
theorem dX2_joined_62 : decode cX2_joined 62 = .ok (.isub, 1) := by decide +kernel
theorem dX2_joined_63 : decode cX2_joined 63 = .ok (.ireturn, 1) := by decide +kernel
theorem dX2_joined_64 : decode cX2_joined 64 = .ok (.iload_n 1, 1) := by decide +kernel
theorem dX2_joined_65 : decode cX2_joined 65 = .ok (.iload_n 2, 1) := by decide +kernel
theorem dX2_joined_66 : decode cX2_joined 66 = .ok (.if_icmp .ge 7, 3) := by decide +kernel
theorem dX2_joined_69 : decode cX2_joined 69 = .ok (.iconst 1, 1) := by decide +kernel
theorem dX2_joined_70 : decode cX2_joined 70 = .ok (.goto 4, 3) := by decide +kernel
theorem dX2_joined_73 : decode cX2_joined 73 = .ok (.iconst 0, 1) := by decide +kernel
theorem dX2_joined_74 : decode cX2_joined 74 = .ok (.ireturn, 1) := by decide +kernel
theorem dX2_joined_75 : decode cX2_joined 75 = .ok (.iload_n 1, 1) := by decide +kernel
theorem dX2_joined_76 : decode cX2_joined 76 = .ok (.iload_n 2, 1) := by decide +kernel
theorem dX2_joined_77 : decode cX2_joined 77 = .ok (.if_icmp .gt 7, 3) := by decide +kernel
theorem dX2_joined_80 : decode cX2_joined 80 = .ok (.iconst 1, 1) := by decide +kernel
theorem dX2_joined_81 : decode cX2_joined 81 = .ok (.goto 4, 3) := by decide +kernel
theorem dX2_joined_84 : decode cX2_joined 84 = .ok (.iconst 0, 1) := by decide +kernel
theorem dX2_joined_85 : decode cX2_joined 85 = .ok (.ireturn, 1) := by decide +kernel
theorem dX2_joined_86 : decode cX2_joined 86 = .ok (.iload_n 1, 1) := by decide +kernel
theorem dX2_joined_87 : decode cX2_joined 87 = .ok (.iload_n 2, 1) := by decide +kernel
theorem dX2_joined_88 : decode cX2_joined 88 = .ok (.if_icmp .ne 7, 3) := by decide +kernel
theorem dX2_joined_91 : decode cX2_joined 91 = .ok (.iconst 1, 1) := by decide +kernel
theorem dX2_joined_92 : decode cX2_joined 92 = .ok (.goto 4, 3) := by decide +kernel
theorem dX2_joined_95 : decode cX2_joined 95 = .ok (.iconst 0, 1) := by decide +kernel
theorem dX2_joined_96 : decode cX2_joined 96 = .ok (.ireturn, 1) := by decide +kernel
theorem dX2_joined_97 : decode cX2_joined 97 = .ok (.iload_n 1, 1) := by decide +kernel
theorem dX2_joined_98 : decode cX2_joined 98 = .ok (.iload_n 2, 1) := by decide +kernel
theorem dX2_joined_99 : decode cX2_joined 99 = .ok (.if_icmp .lt 7, 3) := by decide +kernel
theorem dX2_joined_102 : decode cX2_joined 102 = .ok (.iconst 1, 1) := by decide +kernel
theorem dX2_joined_103 : decode cX2_joined 103 = .ok (.goto 4, 3) := by decide +kernel
theorem dX2_joined_106 : decode cX2_joined 106 = .ok (.iconst 0, 1) := by decide +kernel
theorem dX2_joined_107 : decode cX2_joined 107 = .ok (.ireturn, 1) := by decide +kernel
theorem dX2_joined_108 : decode cX2_joined 108 = .ok (.iload_n 1, 1) := by decide +kernel
theorem dX2_joined_109 : decode cX2_joined 109 = .ok (.iload_n 2, 1) := by decide +kernel
theorem dX2_joined_110 : decode cX2_joined 110 = .ok (.if_icmp .le 7, 3) := by decide +kernel
theorem dX2_joined_113 : decode cX2_joined 113 = .ok (.iconst 1, 1) := by decide +kernel
theorem dX2_joined_114 : decode cX2_joined 114 = .ok (.goto 4, 3) := by decide +kernel
theorem dX2_joined_117 : decode cX2_joined 117 = .ok (.iconst 0, 1) := by decide +kernel
theorem dX2_joined_118 : decode cX2_joined 118 = .ok (.ireturn, 1) := by decide +kernel
theorem dX2_joined_119 : decode cX2_joined 119 = .ok (.iload_n 1, 1) := by decide +kernel
theorem dX2_joined_120 : decode cX2_joined 120 = .ok (.iload_n 2, 1) := by decide +kernel
theorem dX2_joined_121 : decode cX2_joined 121 = .ok (.iand, 1) := by decide +kernel
theorem dX2_joined_122 : decode cX2_joined 122 = .ok (.ireturn, 1) := by decide +kernel
theorem dX2_joined_123 : decode cX2_joined 123 = .ok (.iload_n 1, 1) := by decide +kernel
theorem dX2_joined_124 : decode cX2_joined 124 = .ok (.iload_n 2, 1) := by decide +kernel
theorem dX2_joined_125 : decode cX2_joined 125 = .ok (.ior, 1) := by decide +kernel
theorem dX2_joined_126 : decode cX2_joined 126 = .ok (.ireturn, 1) := by decide +kernel
theorem dX2_joined_127 : decode cX2_joined 127 = .ok (.iconst 0, 1) := by decide +kernel
theorem dX2_joined_128 : decode cX2_joined 128 = .ok (.ireturn, 1) := by decide +kernel
theorem dX3_init_0 : decode cX3_init 0 = .ok (.aload_n 0, 1) := by decide +kernel
theorem dX3_init_1 : decode cX3_init 1 = .ok (.invokespecial 3, 3) := by decide +kernel
theorem dX3_init_4 : decode cX3_init 4 = .ok (.aload_n 0, 1) := by decide +kernel
theorem dX3_init_5 : decode cX3_init 5 = .ok (.sipush 4096, 3) := by decide +kernel
theorem dX3_init_8 : decode cX3_init 8 = .ok (.newarray .int, 2) := by decide +kernel
theorem dX3_init_10 : decode cX3_init 10 = .ok (.putfield 9, 3) := by decide +kernel
theorem dX3_init_13 : decode cX3_init 13 = .ok (.return_, 1) := by decide +kernel
theorem dX3_begin_0 : decode cX3_begin 0 = .ok (.aload_n 0, 1) := by decide +kernel
theorem dX3_begin_1 : decode cX3_begin 1 = .ok (.dup, 1) := by decide +kernel
theorem dX3_begin_2 : decode cX3_begin 2 = .ok (.getfield 15, 3) := by decide +kernel
theorem dX3_begin_5 : decode cX3_begin 5 = .ok (.iconst 1, 1) := by decide +kernel
theorem dX3_begin_6 : decode cX3_begin 6 = .ok (.iadd, 1) := by decide +kernel
theorem dX3_begin_7 : decode cX3_begin 7 = .ok (.putfield 15, 3) := by decide +kernel
theorem dX3_begin_10 : decode cX3_begin 10 = .ok (.return_, 1) := by decide +kernel
set_option maxRecDepth 20000 in
theorem ggX3_outcomeFrom_X3_settle : GoodIn wsX3_outcomeFrom wsX3_settle := goodIn_r _ [5, 6, 7, 8, 9, 10, 11, 12, 13, 14, 15, 16, 17, 18, 19, 20, 21, 22, 23, 24, 25, 26, 27, 28, 29, 30, 31, 32, 33, 34, 35, 36, 37, 38, 39, 40, 41, 42, 43, 44, 45, 46, 47, 48, 49, 50, 51, 52, 53, 54, 55, 56, 57, 58, 59, 60, 61, 62, 63, 64, 65, 66, 67, 68, 69, 70, 71, 72, 73, 74, 75, 76, 77, 78, 79, 80, 81, 82, 83, 84, 85, 86, 87, 88, 89, 90, 91, 92, 93, 94, 95, 96, 97, 98, 99, 100, 101, 102, 103, 104, 105, 106, 107, 108, 109, 110, 111, 112, 113, 114, 115, 116, 117, 118, 119, 120, 121, 122, 123, 124, 125, 126, 127, 128, 129, 130, 131, 132, 1, 2, 3, 4, 133, 134, 135, 136, 137, 138, 139, 140, 141, 142, 143, 144, 145, 146, 147, 148, 149, 150, 151, 152, 153, 154, 155, 156, 157, 158, 159] (by decide +kernel) (by decide +kernel)
set_option maxRecDepth 20000 in
theorem gX3_outcomeFrom_X3_settle : GoodIn wsX3_outcomeFrom (wsV RX3 19 RX3 yX3_settle wsX3_settle) := goodIn_app (goodIn_of _ (by decide +kernel)) ggX3_outcomeFrom_X3_settle
theorem dX3_outcomeFrom_0 : decode cX3_outcomeFrom 0 = .ok (.aload_n 0, 1) := by decide +kernel
theorem dX3_outcomeFrom_1 : decode cX3_outcomeFrom 1 = .ok (.aload_n 1, 1) := by decide +kernel
theorem dX3_outcomeFrom_2 : decode cX3_outcomeFrom 2 = .ok (.iload_n 2, 1) := by decide +kernel
theorem dX3_outcomeFrom_3 : decode cX3_outcomeFrom 3 = .ok (.iconst 0, 1) := by decide +kernel
theorem dX3_outcomeFrom_4 : decode cX3_outcomeFrom 4 = .ok (.invokevirtual 19, 3) := by decide +kernel
theorem dX3_outcomeFrom_7 : decode cX3_outcomeFrom 7 = .ok (.bipush 31, 2) := by decide +kernel
theorem dX3_outcomeFrom_9 : decode cX3_outcomeFrom 9 = .ok (.iand, 1) := by decide +kernel
theorem dX3_outcomeFrom_10 : decode cX3_outcomeFrom 10 = .ok (.ireturn, 1) := by decide +kernel
set_option maxRecDepth 20000 in
theorem ggX3_moveFrom_X3_settle : GoodIn wsX3_moveFrom wsX3_settle := goodIn_r _ [5, 6, 7, 8, 9, 10, 11, 12, 13, 14, 15, 16, 17, 18, 19, 20, 21, 22, 23, 24, 25, 26, 27, 28, 29, 30, 31, 32, 33, 34, 35, 36, 37, 38, 39, 40, 41, 42, 43, 44, 45, 46, 47, 48, 49, 50, 51, 52, 53, 54, 55, 56, 57, 58, 59, 60, 61, 62, 63, 64, 65, 66, 67, 68, 69, 70, 71, 72, 73, 74, 75, 76, 77, 78, 79, 80, 81, 82, 83, 84, 85, 86, 87, 88, 89, 90, 91, 92, 93, 94, 95, 96, 97, 98, 99, 100, 101, 102, 103, 104, 105, 106, 107, 108, 109, 110, 111, 112, 113, 114, 115, 116, 117, 118, 119, 120, 121, 122, 123, 124, 125, 126, 127, 128, 129, 130, 131, 132, 1, 2, 3, 4, 133, 134, 135, 136, 137, 138, 139, 140, 141, 142, 143, 144, 145, 146, 147, 148, 149, 150, 151, 152, 153, 154, 155, 156, 157, 158, 159] (by decide +kernel) (by decide +kernel)
set_option maxRecDepth 20000 in
theorem gX3_moveFrom_X3_settle : GoodIn wsX3_moveFrom (wsV RX3 19 RX3 yX3_settle wsX3_settle) := goodIn_app (goodIn_of _ (by decide +kernel)) ggX3_moveFrom_X3_settle
theorem dX3_moveFrom_0 : decode cX3_moveFrom 0 = .ok (.aload_n 0, 1) := by decide +kernel
theorem dX3_moveFrom_1 : decode cX3_moveFrom 1 = .ok (.aload_n 1, 1) := by decide +kernel
theorem dX3_moveFrom_2 : decode cX3_moveFrom 2 = .ok (.iload_n 2, 1) := by decide +kernel
theorem dX3_moveFrom_3 : decode cX3_moveFrom 3 = .ok (.iconst 0, 1) := by decide +kernel
theorem dX3_moveFrom_4 : decode cX3_moveFrom 4 = .ok (.invokevirtual 19, 3) := by decide +kernel
theorem dX3_moveFrom_7 : decode cX3_moveFrom 7 = .ok (.iconst 5, 1) := by decide +kernel
theorem dX3_moveFrom_8 : decode cX3_moveFrom 8 = .ok (.ishr, 1) := by decide +kernel
theorem dX3_moveFrom_9 : decode cX3_moveFrom 9 = .ok (.ireturn, 1) := by decide +kernel
set_option maxRecDepth 20000 in
theorem ggX3_settle_X7_ending : GoodIn wsX3_settle wsX7_ending := goodIn_r _ [6] (by decide +kernel) (by decide +kernel)
set_option maxRecDepth 20000 in
theorem gX3_settle_X7_ending : GoodIn wsX3_settle (va_wsS RX3 23 yX7_ending wsX7_ending) := goodIn_app (goodIn_of _ (by decide +kernel)) ggX3_settle_X7_ending
set_option maxRecDepth 20000 in
theorem ggX3_settle_X7_outcome : GoodIn wsX3_settle wsX7_outcome := goodIn_r _ [9, 10, 4, 5, 6, 11, 12, 13] (by decide +kernel) (by decide +kernel)
set_option maxRecDepth 20000 in
theorem gX3_settle_X7_outcome : GoodIn wsX3_settle (va_wsS RX3 29 yX7_outcome wsX7_outcome) := goodIn_app (goodIn_of _ (by decide +kernel)) ggX3_settle_X7_outcome
set_option maxRecDepth 20000 in
theorem ggX3_settle_X7_spot : GoodIn wsX3_settle wsX7_spot := goodIn_r _ [16, 17, 18, 5, 19, 20, 21, 22] (by decide +kernel) (by decide +kernel)
set_option maxRecDepth 20000 in
theorem gX3_settle_X7_spot : GoodIn wsX3_settle (va_wsS RX3 32 yX7_spot wsX7_spot) := goodIn_app (goodIn_of _ (by decide +kernel)) ggX3_settle_X7_spot
set_option maxRecDepth 20000 in
theorem ggX3_settle_X7_turn : GoodIn wsX3_settle wsX7_turn := goodIn_r _ [25] (by decide +kernel) (by decide +kernel)
set_option maxRecDepth 20000 in
theorem gX3_settle_X7_turn : GoodIn wsX3_settle (va_wsS RX3 35 yX7_turn wsX7_turn) := goodIn_app (goodIn_of _ (by decide +kernel)) ggX3_settle_X7_turn
set_option maxRecDepth 20000 in
theorem ggX3_settle_X0_allows : GoodIn wsX3_settle wsX0_allows := goodIn_r _ [30, 31, 32, 4, 5, 6, 33, 21, 22, 34, 24, 25, 35, 36, 37, 38, 39, 40, 29, 41, 42, 43, 137, 138, 139, 140, 141, 142, 143, 144, 145, 146, 147, 148, 149, 150, 151, 152, 153, 154, 155, 156, 157] (by decide +kernel) (by decide +kernel)
set_option maxRecDepth 20000 in
theorem gX3_settle_X0_allows : GoodIn wsX3_settle (wsV RX3 38 RX0 yX0_allows wsX0_allows) := goodIn_app (goodIn_of _ (by decide +kernel)) ggX3_settle_X0_allows
set_option maxRecDepth 20000 in
theorem ggX3_settle_X0_after : GoodIn wsX3_settle wsX0_after := goodIn_r _ [47, 34, 24, 5, 25, 33, 21, 22, 48, 49, 50, 51, 52, 53, 29, 54, 55, 56, 57, 58, 59, 60, 61, 15, 16, 17, 18, 19, 20, 38, 39, 40, 41, 42, 43, 35, 36, 37, 62, 63, 64, 65, 66, 67, 68, 69, 70, 71, 72, 73, 74, 75, 76, 77, 78, 79, 80, 81, 82, 83, 84, 85, 86, 87, 88, 89, 90, 91, 92, 93, 94, 95, 96, 97, 98, 99, 100, 101, 102, 103, 104, 105, 106, 107, 108, 109, 110, 111, 112, 113, 114, 115, 116, 117, 118, 119, 120, 121, 122, 123, 124, 125, 126, 127, 149, 150, 151, 152, 153, 154, 155, 156, 157, 158, 137, 138, 139, 140, 141, 142, 143, 144, 145, 146, 147, 148] (by decide +kernel) (by decide +kernel)
set_option maxRecDepth 20000 in
theorem gX3_settle_X0_after : GoodIn wsX3_settle (wsV RX3 44 RX0 yX0_after wsX0_after) := goodIn_app (goodIn_of _ (by decide +kernel)) ggX3_settle_X0_after
set_option maxRecDepth 20000 in
theorem ggX3_settle_X3_settle : GoodIn wsX3_settle wsX3_settle := goodIn_r _ [0, 1, 2, 3, 4, 5, 6, 7, 8, 9, 10, 11, 12, 13, 14, 15, 16, 17, 18, 19, 20, 21, 22, 23, 24, 25, 26, 27, 28, 29, 30, 31, 32, 33, 34, 35, 36, 37, 38, 39, 40, 41, 42, 43, 44, 45, 46, 47, 48, 49, 50, 51, 52, 53, 54, 55, 56, 57, 58, 59, 60, 61, 62, 63, 64, 65, 66, 67, 68, 69, 70, 71, 72, 73, 74, 75, 76, 77, 78, 79, 80, 81, 82, 83, 84, 85, 86, 87, 88, 89, 90, 91, 92, 93, 94, 95, 96, 97, 98, 99, 100, 101, 102, 103, 104, 105, 106, 107, 108, 109, 110, 111, 112, 113, 114, 115, 116, 117, 118, 119, 120, 121, 122, 123, 124, 125, 126, 127, 128, 129, 130, 131, 132, 133, 134, 135, 136, 137, 138, 139, 140, 141, 142, 143, 144, 145, 146, 147, 148, 149, 150, 151, 152, 153, 154, 155, 156, 157, 158] (by decide +kernel) (by decide +kernel)
set_option maxRecDepth 20000 in
theorem gX3_settle_X3_settle : GoodIn wsX3_settle (wsV RX3 19 RX3 yX3_settle wsX3_settle) := goodIn_app (goodIn_of _ (by decide +kernel)) ggX3_settle_X3_settle
set_option maxRecDepth 20000 in
theorem ggX3_settle_X3_worthOf : GoodIn wsX3_settle wsX3_worthOf := goodIn_r _ [134] (by decide +kernel) (by decide +kernel)
set_option maxRecDepth 20000 in
theorem gX3_settle_X3_worthOf : GoodIn wsX3_settle (va_wsS RX3 48 yX3_worthOf wsX3_worthOf) := goodIn_app (goodIn_of _ (by decide +kernel)) ggX3_settle_X3_worthOf
theorem dX3_settle_0 : decode cX3_settle 0 = .ok (.iload_n 2, 1) := by decide +kernel
theorem dX3_settle_1 : decode cX3_settle 1 = .ok (.invokestatic 23, 3) := by decide +kernel
theorem dX3_settle_4 : decode cX3_settle 4 = .ok (.ifCond .ne 9, 3) := by decide +kernel
theorem dX3_settle_7 : decode cX3_settle 7 = .ok (.iload_n 3, 1) := by decide +kernel
theorem dX3_settle_8 : decode cX3_settle 8 = .ok (.bipush 8, 2) := by decide +kernel
theorem dX3_settle_10 : decode cX3_settle 10 = .ok (.if_icmp .le 8, 3) := by decide +kernel
theorem dX3_settle_13 : decode cX3_settle 13 = .ok (.iload_n 2, 1) := by decide +kernel
theorem dX3_settle_14 : decode cX3_settle 14 = .ok (.invokestatic 29, 3) := by decide +kernel
theorem dX3_settle_17 : decode cX3_settle 17 = .ok (.ireturn, 1) := by decide +kernel
theorem dX3_settle_18 : decode cX3_settle 18 = .ok (.iload_n 2, 1) := by decide +kernel
theorem dX3_settle_19 : decode cX3_settle 19 = .ok (.invokestatic 32, 3) := by decide +kernel
theorem dX3_settle_22 : decode cX3_settle 22 = .ok (.istore 4, 2) := by decide +kernel
theorem dX3_settle_24 : decode cX3_settle 24 = .ok (.aload_n 0, 1) := by decide +kernel
theorem dX3_settle_25 : decode cX3_settle 25 = .ok (.getfield 9, 3) := by decide +kernel
theorem dX3_settle_28 : decode cX3_settle 28 = .ok (.iload 4, 2) := by decide +kernel
theorem dX3_settle_30 : decode cX3_settle 30 = .ok (.iaload, 1) := by decide +kernel
theorem dX3_settle_31 : decode cX3_settle 31 = .ok (.bipush 9, 2) := by decide +kernel
theorem dX3_settle_33 : decode cX3_settle 33 = .ok (.ishr, 1) := by decide +kernel
theorem dX3_settle_34 : decode cX3_settle 34 = .ok (.aload_n 0, 1) := by decide +kernel
theorem dX3_settle_35 : decode cX3_settle 35 = .ok (.getfield 15, 3) := by decide +kernel
theorem dX3_settle_38 : decode cX3_settle 38 = .ok (.if_icmp .ne 15, 3) := by decide +kernel
theorem dX3_settle_41 : decode cX3_settle 41 = .ok (.aload_n 0, 1) := by decide +kernel
theorem dX3_settle_42 : decode cX3_settle 42 = .ok (.getfield 9, 3) := by decide +kernel
theorem dX3_settle_45 : decode cX3_settle 45 = .ok (.iload 4, 2) := by decide +kernel
theorem dX3_settle_47 : decode cX3_settle 47 = .ok (.iaload, 1) := by decide +kernel
theorem dX3_settle_48 : decode cX3_settle 48 = .ok (.sipush 511, 3) := by decide +kernel
theorem dX3_settle_51 : decode cX3_settle 51 = .ok (.iand, 1) := by decide +kernel
theorem dX3_settle_52 : decode cX3_settle 52 = .ok (.ireturn, 1) := by decide +kernel
theorem dX3_settle_53 : decode cX3_settle 53 = .ok (.iload_n 2, 1) := by decide +kernel
theorem dX3_settle_54 : decode cX3_settle 54 = .ok (.invokestatic 35, 3) := by decide +kernel
theorem dX3_settle_57 : decode cX3_settle 57 = .ok (.istore 5, 2) := by decide +kernel
theorem dX3_settle_59 : decode cX3_settle 59 = .ok (.iconst 0, 1) := by decide +kernel
theorem dX3_settle_60 : decode cX3_settle 60 = .ok (.istore 6, 2) := by decide +kernel
theorem dX3_settle_62 : decode cX3_settle 62 = .ok (.bipush 8, 2) := by decide +kernel
theorem dX3_settle_64 : decode cX3_settle 64 = .ok (.istore 7, 2) := by decide +kernel
theorem dX3_settle_66 : decode cX3_settle 66 = .ok (.iconst 0, 1) := by decide +kernel
theorem dX3_settle_67 : decode cX3_settle 67 = .ok (.istore 8, 2) := by decide +kernel
theorem dX3_settle_69 : decode cX3_settle 69 = .ok (.iload 8, 2) := by decide +kernel
theorem dX3_settle_71 : decode cX3_settle 71 = .ok (.bipush 11, 2) := by decide +kernel
theorem dX3_settle_73 : decode cX3_settle 73 = .ok (.if_icmp .ge 74, 3) := by decide +kernel
theorem dX3_settle_76 : decode cX3_settle 76 = .ok (.iload 7, 2) := by decide +kernel
theorem dX3_settle_78 : decode cX3_settle 78 = .ok (.ifCond .le 69, 3) := by decide +kernel
theorem dX3_settle_81 : decode cX3_settle 81 = .ok (.aload_n 1, 1) := by decide +kernel
theorem dX3_settle_82 : decode cX3_settle 82 = .ok (.iload_n 2, 1) := by decide +kernel
theorem dX3_settle_83 : decode cX3_settle 83 = .ok (.iload 8, 2) := by decide +kernel
theorem dX3_settle_85 : decode cX3_settle 85 = .ok (.invokevirtual 38, 3) := by decide +kernel
theorem dX3_settle_88 : decode cX3_settle 88 = .ok (.ifCond .eq 53, 3) := by decide +kernel
theorem dX3_settle_91 : decode cX3_settle 91 = .ok (.aload_n 0, 1) := by decide +kernel
theorem dX3_settle_92 : decode cX3_settle 92 = .ok (.aload_n 1, 1) := by decide +kernel
theorem dX3_settle_93 : decode cX3_settle 93 = .ok (.aload_n 1, 1) := by decide +kernel
theorem dX3_settle_94 : decode cX3_settle 94 = .ok (.iload_n 2, 1) := by decide +kernel
theorem dX3_settle_95 : decode cX3_settle 95 = .ok (.iload 8, 2) := by decide +kernel
theorem dX3_settle_97 : decode cX3_settle 97 = .ok (.iconst 1, 1) := by decide +kernel
theorem dX3_settle_98 : decode cX3_settle 98 = .ok (.invokevirtual 44, 3) := by decide +kernel
theorem dX3_settle_101 : decode cX3_settle 101 = .ok (.iload_n 3, 1) := by decide +kernel
theorem dX3_settle_102 : decode cX3_settle 102 = .ok (.iconst 1, 1) := by decide +kernel
theorem dX3_settle_103 : decode cX3_settle 103 = .ok (.iadd, 1) := by decide +kernel
theorem dX3_settle_104 : decode cX3_settle 104 = .ok (.invokevirtual 19, 3) := by decide +kernel
theorem dX3_settle_107 : decode cX3_settle 107 = .ok (.bipush 31, 2) := by decide +kernel
theorem dX3_settle_109 : decode cX3_settle 109 = .ok (.iand, 1) := by decide +kernel
theorem dX3_settle_110 : decode cX3_settle 110 = .ok (.istore 9, 2) := by decide +kernel
theorem dX3_settle_112 : decode cX3_settle 112 = .ok (.iload 9, 2) := by decide +kernel
theorem dX3_settle_114 : decode cX3_settle 114 = .ok (.iload 5, 2) := by decide +kernel
theorem dX3_settle_116 : decode cX3_settle 116 = .ok (.invokestatic 48, 3) := by decide +kernel
theorem dX3_settle_119 : decode cX3_settle 119 = .ok (.istore 10, 2) := by decide +kernel
theorem dX3_settle_121 : decode cX3_settle 121 = .ok (.iload 10, 2) := by decide +kernel
theorem dX3_settle_123 : decode cX3_settle 123 = .ok (.iload 7, 2) := by decide +kernel
theorem dX3_settle_125 : decode cX3_settle 125 = .ok (.if_icmp .ge 16, 3) := by decide +kernel
theorem dX3_settle_128 : decode cX3_settle 128 = .ok (.iload 10, 2) := by decide +kernel
theorem dX3_settle_130 : decode cX3_settle 130 = .ok (.istore 7, 2) := by decide +kernel
theorem dX3_settle_132 : decode cX3_settle 132 = .ok (.iload 8, 2) := by decide +kernel
theorem dX3_settle_134 : decode cX3_settle 134 = .ok (.iconst 5, 1) := by decide +kernel
theorem dX3_settle_135 : decode cX3_settle 135 = .ok (.ishl, 1) := by decide +kernel
theorem dX3_settle_136 : decode cX3_settle 136 = .ok (.iload 9, 2) := by decide +kernel
theorem dX3_settle_138 : decode cX3_settle 138 = .ok (.ior, 1) := by decide +kernel
theorem dX3_settle_139 : decode cX3_settle 139 = .ok (.istore 6, 2) := by decide +kernel
theorem dX3_settle_141 : decode cX3_settle 141 = .ok (.iinc 8 1, 3) := by decide +kernel
theorem dX3_settle_144 : decode cX3_settle 144 = .ok (.goto (-75), 3) := by decide +kernel
theorem dX3_settle_147 : decode cX3_settle 147 = .ok (.aload_n 0, 1) := by decide +kernel
theorem dX3_settle_148 : decode cX3_settle 148 = .ok (.getfield 9, 3) := by decide +kernel
theorem dX3_settle_151 : decode cX3_settle 151 = .ok (.iload 4, 2) := by decide +kernel
theorem dX3_settle_153 : decode cX3_settle 153 = .ok (.aload_n 0, 1) := by decide +kernel
theorem dX3_settle_154 : decode cX3_settle 154 = .ok (.getfield 15, 3) := by decide +kernel
theorem dX3_settle_157 : decode cX3_settle 157 = .ok (.bipush 9, 2) := by decide +kernel
theorem dX3_settle_159 : decode cX3_settle 159 = .ok (.ishl, 1) := by decide +kernel
theorem dX3_settle_160 : decode cX3_settle 160 = .ok (.iload 6, 2) := by decide +kernel
theorem dX3_settle_162 : decode cX3_settle 162 = .ok (.ior, 1) := by decide +kernel
theorem dX3_settle_163 : decode cX3_settle 163 = .ok (.iastore, 1) := by decide +kernel
theorem dX3_settle_164 : decode cX3_settle 164 = .ok (.iload 6, 2) := by decide +kernel
theorem dX3_settle_166 : decode cX3_settle 166 = .ok (.ireturn, 1) := by decide +kernel
theorem dX3_worthOf_0 : decode cX3_worthOf 0 = .ok (.iload_n 0, 1) := by decide +kernel
theorem dX3_worthOf_1 : decode cX3_worthOf 1 = .ok (.iload_n 1, 1) := by decide +kernel
theorem dX3_worthOf_2 : decode cX3_worthOf 2 = .ok (.ishr, 1) := by decide +kernel
theorem dX3_worthOf_3 : decode cX3_worthOf 3 = .ok (.iconst 1, 1) := by decide +kernel
theorem dX3_worthOf_4 : decode cX3_worthOf 4 = .ok (.iand, 1) := by decide +kernel
theorem dX3_worthOf_5 : decode cX3_worthOf 5 = .ok (.istore_n 2, 1) := by decide +kernel
theorem dX3_worthOf_6 : decode cX3_worthOf 6 = .ok (.iload_n 0, 1) := by decide +kernel
theorem dX3_worthOf_7 : decode cX3_worthOf 7 = .ok (.bipush 8, 2) := by decide +kernel
theorem dX3_worthOf_9 : decode cX3_worthOf 9 = .ok (.if_icmp .ne 7, 3) := by decide +kernel
theorem dX3_worthOf_12 : decode cX3_worthOf 12 = .ok (.iconst 1, 1) := by decide +kernel
theorem dX3_worthOf_13 : decode cX3_worthOf 13 = .ok (.goto 4, 3) := by decide +kernel
theorem dX3_worthOf_16 : decode cX3_worthOf 16 = .ok (.iconst 0, 1) := by decide +kernel
theorem dX3_worthOf_17 : decode cX3_worthOf 17 = .ok (.istore_n 3, 1) := by decide +kernel
theorem dX3_worthOf_18 : decode cX3_worthOf 18 = .ok (.iload_n 0, 1) := by decide +kernel
theorem dX3_worthOf_19 : decode cX3_worthOf 19 = .ok (.iconst 1, 1) := by decide +kernel
theorem dX3_worthOf_20 : decode cX3_worthOf 20 = .ok (.iload_n 1, 1) := by decide +kernel
theorem dX3_worthOf_21 : decode cX3_worthOf 21 = .ok (.isub, 1) := by decide +kernel
theorem dX3_worthOf_22 : decode cX3_worthOf 22 = .ok (.ishr, 1) := by decide +kernel
theorem dX3_worthOf_23 : decode cX3_worthOf 23 = .ok (.iconst 1, 1) := by decide +kernel
theorem dX3_worthOf_24 : decode cX3_worthOf 24 = .ok (.iand, 1) := by decide +kernel
theorem dX3_worthOf_25 : decode cX3_worthOf 25 = .ok (.istore 4, 2) := by decide +kernel
theorem dX3_worthOf_27 : decode cX3_worthOf 27 = .ok (.iconst 4, 1) := by decide +kernel
theorem dX3_worthOf_28 : decode cX3_worthOf 28 = .ok (.iload_n 2, 1) := by decide +kernel
theorem dX3_worthOf_29 : decode cX3_worthOf 29 = .ok (.imul, 1) := by decide +kernel
theorem dX3_worthOf_30 : decode cX3_worthOf 30 = .ok (.iconst 2, 1) := by decide +kernel
theorem dX3_worthOf_31 : decode cX3_worthOf 31 = .ok (.iload_n 3, 1) := by decide +kernel
theorem dX3_worthOf_32 : decode cX3_worthOf 32 = .ok (.imul, 1) := by decide +kernel
theorem dX3_worthOf_33 : decode cX3_worthOf 33 = .ok (.iadd, 1) := by decide +kernel
theorem dX3_worthOf_34 : decode cX3_worthOf 34 = .ok (.iload 4, 2) := by decide +kernel
theorem dX3_worthOf_36 : decode cX3_worthOf 36 = .ok (.iadd, 1) := by decide +kernel
theorem dX3_worthOf_37 : decode cX3_worthOf 37 = .ok (.ireturn, 1) := by decide +kernel
theorem dX4_init_0 : decode cX4_init 0 = .ok (.aload_n 0, 1) := by decide +kernel
theorem dX4_init_1 : decode cX4_init 1 = .ok (.invokespecial 3, 3) := by decide +kernel
theorem dX4_init_4 : decode cX4_init 4 = .ok (.aload_n 0, 1) := by decide +kernel
theorem dX4_init_5 : decode cX4_init 5 = .ok (.bipush 9, 2) := by decide +kernel
theorem dX4_init_7 : decode cX4_init 7 = .ok (.newarray .int, 2) := by decide +kernel
theorem dX4_init_9 : decode cX4_init 9 = .ok (.putfield 9, 3) := by decide +kernel
theorem dX4_init_12 : decode cX4_init 12 = .ok (.aload_n 0, 1) := by decide +kernel
theorem dX4_init_13 : decode cX4_init 13 = .ok (.bipush 9, 2) := by decide +kernel
theorem dX4_init_15 : decode cX4_init 15 = .ok (.newarray .int, 2) := by decide +kernel
theorem dX4_init_17 : decode cX4_init 17 = .ok (.putfield 15, 3) := by decide +kernel
theorem dX4_init_20 : decode cX4_init 20 = .ok (.return_, 1) := by decide +kernel
theorem dX4_add_0 : decode cX4_add 0 = .ok (.aload_n 0, 1) := by decide +kernel
theorem dX4_add_1 : decode cX4_add 1 = .ok (.getfield 18, 3) := by decide +kernel
theorem dX4_add_4 : decode cX4_add 4 = .ok (.ifCond .lt 42, 3) := by decide +kernel
theorem dX4_add_7 : decode cX4_add 7 = .ok (.aload_n 0, 1) := by decide +kernel
theorem dX4_add_8 : decode cX4_add 8 = .ok (.getfield 18, 3) := by decide +kernel
theorem dX4_add_11 : decode cX4_add 11 = .ok (.bipush 9, 2) := by decide +kernel
theorem dX4_add_13 : decode cX4_add 13 = .ok (.if_icmp .ge 33, 3) := by decide +kernel
theorem dX4_add_16 : decode cX4_add 16 = .ok (.aload_n 0, 1) := by decide +kernel
theorem dX4_add_17 : decode cX4_add 17 = .ok (.getfield 9, 3) := by decide +kernel
theorem dX4_add_20 : decode cX4_add 20 = .ok (.aload_n 0, 1) := by decide +kernel
theorem dX4_add_21 : decode cX4_add 21 = .ok (.getfield 18, 3) := by decide +kernel
theorem dX4_add_24 : decode cX4_add 24 = .ok (.iload_n 1, 1) := by decide +kernel
theorem dX4_add_25 : decode cX4_add 25 = .ok (.iastore, 1) := by decide +kernel
theorem dX4_add_26 : decode cX4_add 26 = .ok (.aload_n 0, 1) := by decide +kernel
theorem dX4_add_27 : decode cX4_add 27 = .ok (.getfield 15, 3) := by decide +kernel
theorem dX4_add_30 : decode cX4_add 30 = .ok (.aload_n 0, 1) := by decide +kernel
theorem dX4_add_31 : decode cX4_add 31 = .ok (.getfield 18, 3) := by decide +kernel
theorem dX4_add_34 : decode cX4_add 34 = .ok (.iload_n 2, 1) := by decide +kernel
theorem dX4_add_35 : decode cX4_add 35 = .ok (.iastore, 1) := by decide +kernel
theorem dX4_add_36 : decode cX4_add 36 = .ok (.aload_n 0, 1) := by decide +kernel
theorem dX4_add_37 : decode cX4_add 37 = .ok (.dup, 1) := by decide +kernel
theorem dX4_add_38 : decode cX4_add 38 = .ok (.getfield 18, 3) := by decide +kernel
theorem dX4_add_41 : decode cX4_add 41 = .ok (.iconst 1, 1) := by decide +kernel
theorem dX4_add_42 : decode cX4_add 42 = .ok (.iadd, 1) := by decide +kernel
theorem dX4_add_43 : decode cX4_add 43 = .ok (.putfield 18, 3) := by decide +kernel
theorem dX4_add_46 : decode cX4_add 46 = .ok (.return_, 1) := by decide +kernel
theorem dX4_moveAt_0 : decode cX4_moveAt 0 = .ok (.iload_n 1, 1) := by decide +kernel
theorem dX4_moveAt_1 : decode cX4_moveAt 1 = .ok (.ifCond .lt 26, 3) := by decide +kernel
theorem dX4_moveAt_4 : decode cX4_moveAt 4 = .ok (.iload_n 1, 1) := by decide +kernel
theorem dX4_moveAt_5 : decode cX4_moveAt 5 = .ok (.aload_n 0, 1) := by decide +kernel
theorem dX4_moveAt_6 : decode cX4_moveAt 6 = .ok (.getfield 18, 3) := by decide +kernel
theorem dX4_moveAt_9 : decode cX4_moveAt 9 = .ok (.if_icmp .ge 18, 3) := by decide +kernel
theorem dX4_moveAt_12 : decode cX4_moveAt 12 = .ok (.iload_n 1, 1) := by decide +kernel
theorem dX4_moveAt_13 : decode cX4_moveAt 13 = .ok (.bipush 9, 2) := by decide +kernel
theorem dX4_moveAt_15 : decode cX4_moveAt 15 = .ok (.if_icmp .ge 12, 3) := by decide +kernel
theorem dX4_moveAt_18 : decode cX4_moveAt 18 = .ok (.aload_n 0, 1) := by decide +kernel
theorem dX4_moveAt_19 : decode cX4_moveAt 19 = .ok (.getfield 9, 3) := by decide +kernel
theorem dX4_moveAt_22 : decode cX4_moveAt 22 = .ok (.iload_n 1, 1) := by decide +kernel
theorem dX4_moveAt_23 : decode cX4_moveAt 23 = .ok (.iaload, 1) := by decide +kernel
theorem dX4_moveAt_24 : decode cX4_moveAt 24 = .ok (.goto 4, 3) := by decide +kernel
theorem dX4_moveAt_27 : decode cX4_moveAt 27 = .ok (.iconst (-1), 1) := by decide +kernel
theorem dX4_moveAt_28 : decode cX4_moveAt 28 = .ok (.ireturn, 1) := by decide +kernel
theorem dX4_stateAt_0 : decode cX4_stateAt 0 = .ok (.iload_n 1, 1) := by decide +kernel
theorem dX4_stateAt_1 : decode cX4_stateAt 1 = .ok (.ifCond .lt 26, 3) := by decide +kernel
theorem dX4_stateAt_4 : decode cX4_stateAt 4 = .ok (.iload_n 1, 1) := by decide +kernel
theorem dX4_stateAt_5 : decode cX4_stateAt 5 = .ok (.aload_n 0, 1) := by decide +kernel
theorem dX4_stateAt_6 : decode cX4_stateAt 6 = .ok (.getfield 18, 3) := by decide +kernel
theorem dX4_stateAt_9 : decode cX4_stateAt 9 = .ok (.if_icmp .ge 18, 3) := by decide +kernel
theorem dX4_stateAt_12 : decode cX4_stateAt 12 = .ok (.iload_n 1, 1) := by decide +kernel
theorem dX4_stateAt_13 : decode cX4_stateAt 13 = .ok (.bipush 9, 2) := by decide +kernel
theorem dX4_stateAt_15 : decode cX4_stateAt 15 = .ok (.if_icmp .ge 12, 3) := by decide +kernel
theorem dX4_stateAt_18 : decode cX4_stateAt 18 = .ok (.aload_n 0, 1) := by decide +kernel
theorem dX4_stateAt_19 : decode cX4_stateAt 19 = .ok (.getfield 15, 3) := by decide +kernel
theorem dX4_stateAt_22 : decode cX4_stateAt 22 = .ok (.iload_n 1, 1) := by decide +kernel
theorem dX4_stateAt_23 : decode cX4_stateAt 23 = .ok (.iaload, 1) := by decide +kernel
theorem dX4_stateAt_24 : decode cX4_stateAt 24 = .ok (.goto 4, 3) := by decide +kernel
theorem dX4_stateAt_27 : decode cX4_stateAt 27 = .ok (.iconst 0, 1) := by decide +kernel
theorem dX4_stateAt_28 : decode cX4_stateAt 28 = .ok (.ireturn, 1) := by decide +kernel
set_option maxRecDepth 20000 in
theorem ggX4_now_X4_stateAt : GoodIn wsX4_now wsX4_stateAt := goodIn_r _ [6, 1, 7, 8, 9, 10, 11, 12, 13, 14, 15] (by decide +kernel) (by decide +kernel)
set_option maxRecDepth 20000 in
theorem gX4_now_X4_stateAt : GoodIn wsX4_now (wsV RX4 22 RX4 yX4_stateAt wsX4_stateAt) := goodIn_app (goodIn_of _ (by decide +kernel)) ggX4_now_X4_stateAt
theorem dX4_now_0 : decode cX4_now 0 = .ok (.aload_n 0, 1) := by decide +kernel
theorem dX4_now_1 : decode cX4_now 1 = .ok (.aload_n 0, 1) := by decide +kernel
theorem dX4_now_2 : decode cX4_now 2 = .ok (.getfield 18, 3) := by decide +kernel
theorem dX4_now_5 : decode cX4_now 5 = .ok (.iconst 1, 1) := by decide +kernel
theorem dX4_now_6 : decode cX4_now 6 = .ok (.isub, 1) := by decide +kernel
theorem dX4_now_7 : decode cX4_now 7 = .ok (.invokevirtual 22, 3) := by decide +kernel
theorem dX4_now_10 : decode cX4_now 10 = .ok (.ireturn, 1) := by decide +kernel
set_option maxRecDepth 20000 in
theorem ggX4_goesOn_X4_now : GoodIn wsX4_goesOn wsX4_now := goodIn_r _ [5, 6, 7, 8, 9, 4, 10, 11, 16, 17, 18, 19, 20, 21, 22, 23] (by decide +kernel) (by decide +kernel)
set_option maxRecDepth 20000 in
theorem gX4_goesOn_X4_now : GoodIn wsX4_goesOn (wsV RX4 26 RX4 yX4_now wsX4_now) := goodIn_app (goodIn_of _ (by decide +kernel)) ggX4_goesOn_X4_now
set_option maxRecDepth 20000 in
theorem ggX4_goesOn_X7_ending : GoodIn wsX4_goesOn wsX7_ending := goodIn_r _ [15] (by decide +kernel) (by decide +kernel)
set_option maxRecDepth 20000 in
theorem gX4_goesOn_X7_ending : GoodIn wsX4_goesOn (va_wsS RX4 30 yX7_ending wsX7_ending) := goodIn_app (goodIn_of _ (by decide +kernel)) ggX4_goesOn_X7_ending
theorem dX4_goesOn_0 : decode cX4_goesOn 0 = .ok (.aload_n 0, 1) := by decide +kernel
theorem dX4_goesOn_1 : decode cX4_goesOn 1 = .ok (.invokevirtual 26, 3) := by decide +kernel
theorem dX4_goesOn_4 : decode cX4_goesOn 4 = .ok (.invokestatic 30, 3) := by decide +kernel
theorem dX4_goesOn_7 : decode cX4_goesOn 7 = .ok (.ifCond .ne 7, 3) := by decide +kernel
theorem dX4_goesOn_10 : decode cX4_goesOn 10 = .ok (.iconst 1, 1) := by decide +kernel
theorem dX4_goesOn_11 : decode cX4_goesOn 11 = .ok (.goto 4, 3) := by decide +kernel
theorem dX4_goesOn_14 : decode cX4_goesOn 14 = .ok (.iconst 0, 1) := by decide +kernel
theorem dX4_goesOn_15 : decode cX4_goesOn 15 = .ok (.ireturn, 1) := by decide +kernel
theorem dX4_sideOf_0 : decode cX4_sideOf 0 = .ok (.iload_n 1, 1) := by decide +kernel
theorem dX4_sideOf_1 : decode cX4_sideOf 1 = .ok (.aload_n 0, 1) := by decide +kernel
theorem dX4_sideOf_2 : decode cX4_sideOf 2 = .ok (.getfield 35, 3) := by decide +kernel
theorem dX4_sideOf_5 : decode cX4_sideOf 5 = .ok (.if_icmp .ne 7, 3) := by decide +kernel
theorem dX4_sideOf_8 : decode cX4_sideOf 8 = .ok (.iconst 0, 1) := by decide +kernel
theorem dX4_sideOf_9 : decode cX4_sideOf 9 = .ok (.goto 16, 3) := by decide +kernel
theorem dX4_sideOf_12 : decode cX4_sideOf 12 = .ok (.iload_n 1, 1) := by decide +kernel
theorem dX4_sideOf_13 : decode cX4_sideOf 13 = .ok (.aload_n 0, 1) := by decide +kernel
theorem dX4_sideOf_14 : decode cX4_sideOf 14 = .ok (.getfield 38, 3) := by decide +kernel
theorem dX4_sideOf_17 : decode cX4_sideOf 17 = .ok (.if_icmp .ne 7, 3) := by decide +kernel
theorem dX4_sideOf_20 : decode cX4_sideOf 20 = .ok (.iconst 1, 1) := by decide +kernel
theorem dX4_sideOf_21 : decode cX4_sideOf 21 = .ok (.goto 4, 3) := by decide +kernel
theorem dX4_sideOf_24 : decode cX4_sideOf 24 = .ok (.iconst (-1), 1) := by decide +kernel
theorem dX4_sideOf_25 : decode cX4_sideOf 25 = .ok (.ireturn, 1) := by decide +kernel
theorem dX4_personOn_0 : decode cX4_personOn 0 = .ok (.iload_n 1, 1) := by decide +kernel
theorem dX4_personOn_1 : decode cX4_personOn 1 = .ok (.ifCond .ne 10, 3) := by decide +kernel
theorem dX4_personOn_4 : decode cX4_personOn 4 = .ok (.aload_n 0, 1) := by decide +kernel
theorem dX4_personOn_5 : decode cX4_personOn 5 = .ok (.getfield 35, 3) := by decide +kernel
theorem dX4_personOn_8 : decode cX4_personOn 8 = .ok (.goto 7, 3) := by decide +kernel
theorem dX4_personOn_11 : decode cX4_personOn 11 = .ok (.aload_n 0, 1) := by decide +kernel
theorem dX4_personOn_12 : decode cX4_personOn 12 = .ok (.getfield 38, 3) := by decide +kernel
theorem dX4_personOn_15 : decode cX4_personOn 15 = .ok (.ireturn, 1) := by decide +kernel
theorem dX4_spoken_0 : decode cX4_spoken 0 = .ok (.iconst 0, 1) := by decide +kernel
theorem dX4_spoken_1 : decode cX4_spoken 1 = .ok (.istore_n 1, 1) := by decide +kernel
theorem dX4_spoken_2 : decode cX4_spoken 2 = .ok (.iconst 0, 1) := by decide +kernel
theorem dX4_spoken_3 : decode cX4_spoken 3 = .ok (.istore_n 2, 1) := by decide +kernel
theorem dX4_spoken_4 : decode cX4_spoken 4 = .ok (.iload_n 2, 1) := by decide +kernel
theorem dX4_spoken_5 : decode cX4_spoken 5 = .ok (.aload_n 0, 1) := by decide +kernel
theorem dX4_spoken_6 : decode cX4_spoken 6 = .ok (.getfield 18, 3) := by decide +kernel
theorem dX4_spoken_9 : decode cX4_spoken 9 = .ok (.if_icmp .ge 32, 3) := by decide +kernel
theorem dX4_spoken_12 : decode cX4_spoken 12 = .ok (.iload_n 2, 1) := by decide +kernel
theorem dX4_spoken_13 : decode cX4_spoken 13 = .ok (.bipush 9, 2) := by decide +kernel
theorem dX4_spoken_15 : decode cX4_spoken 15 = .ok (.if_icmp .ge 26, 3) := by decide +kernel
theorem dX4_spoken_18 : decode cX4_spoken 18 = .ok (.aload_n 0, 1) := by decide +kernel
theorem dX4_spoken_19 : decode cX4_spoken 19 = .ok (.getfield 9, 3) := by decide +kernel
theorem dX4_spoken_22 : decode cX4_spoken 22 = .ok (.iload_n 2, 1) := by decide +kernel
theorem dX4_spoken_23 : decode cX4_spoken 23 = .ok (.iaload, 1) := by decide +kernel
theorem dX4_spoken_24 : decode cX4_spoken 24 = .ok (.bipush 8, 2) := by decide +kernel
theorem dX4_spoken_26 : decode cX4_spoken 26 = .ok (.if_icmp .ge 9, 3) := by decide +kernel
theorem dX4_spoken_29 : decode cX4_spoken 29 = .ok (.iload_n 1, 1) := by decide +kernel
theorem dX4_spoken_30 : decode cX4_spoken 30 = .ok (.iconst 1, 1) := by decide +kernel
theorem dX4_spoken_31 : decode cX4_spoken 31 = .ok (.iload_n 2, 1) := by decide +kernel
theorem dX4_spoken_32 : decode cX4_spoken 32 = .ok (.ishl, 1) := by decide +kernel
theorem dX4_spoken_33 : decode cX4_spoken 33 = .ok (.ior, 1) := by decide +kernel
theorem dX4_spoken_34 : decode cX4_spoken 34 = .ok (.istore_n 1, 1) := by decide +kernel
theorem dX4_spoken_35 : decode cX4_spoken 35 = .ok (.iinc 2 1, 3) := by decide +kernel
theorem dX4_spoken_38 : decode cX4_spoken 38 = .ok (.goto (-34), 3) := by decide +kernel
theorem dX4_spoken_41 : decode cX4_spoken 41 = .ok (.iload_n 1, 1) := by decide +kernel
theorem dX4_spoken_42 : decode cX4_spoken 42 = .ok (.ireturn, 1) := by decide +kernel
theorem dX4_copy_0 : decode cX4_copy 0 = .ok (.aload_n 0, 1) := by decide +kernel
theorem dX4_copy_1 : decode cX4_copy 1 = .ok (.aload_n 1, 1) := by decide +kernel
theorem dX4_copy_2 : decode cX4_copy 2 = .ok (.getfield 35, 3) := by decide +kernel
theorem dX4_copy_5 : decode cX4_copy 5 = .ok (.putfield 35, 3) := by decide +kernel
theorem dX4_copy_8 : decode cX4_copy 8 = .ok (.aload_n 0, 1) := by decide +kernel
theorem dX4_copy_9 : decode cX4_copy 9 = .ok (.aload_n 1, 1) := by decide +kernel
theorem dX4_copy_10 : decode cX4_copy 10 = .ok (.getfield 38, 3) := by decide +kernel
theorem dX4_copy_13 : decode cX4_copy 13 = .ok (.putfield 38, 3) := by decide +kernel
theorem dX4_copy_16 : decode cX4_copy 16 = .ok (.aload_n 0, 1) := by decide +kernel
theorem dX4_copy_17 : decode cX4_copy 17 = .ok (.aload_n 1, 1) := by decide +kernel
theorem dX4_copy_18 : decode cX4_copy 18 = .ok (.getfield 41, 3) := by decide +kernel
theorem dX4_copy_21 : decode cX4_copy 21 = .ok (.putfield 41, 3) := by decide +kernel
theorem dX4_copy_24 : decode cX4_copy 24 = .ok (.aload_n 0, 1) := by decide +kernel
theorem dX4_copy_25 : decode cX4_copy 25 = .ok (.aload_n 1, 1) := by decide +kernel
theorem dX4_copy_26 : decode cX4_copy 26 = .ok (.getfield 44, 3) := by decide +kernel
theorem dX4_copy_29 : decode cX4_copy 29 = .ok (.putfield 44, 3) := by decide +kernel
theorem dX4_copy_32 : decode cX4_copy 32 = .ok (.aload_n 0, 1) := by decide +kernel
theorem dX4_copy_33 : decode cX4_copy 33 = .ok (.aload_n 1, 1) := by decide +kernel
theorem dX4_copy_34 : decode cX4_copy 34 = .ok (.getfield 47, 3) := by decide +kernel
theorem dX4_copy_37 : decode cX4_copy 37 = .ok (.putfield 47, 3) := by decide +kernel
theorem dX4_copy_40 : decode cX4_copy 40 = .ok (.aload_n 0, 1) := by decide +kernel
theorem dX4_copy_41 : decode cX4_copy 41 = .ok (.aload_n 1, 1) := by decide +kernel
theorem dX4_copy_42 : decode cX4_copy 42 = .ok (.getfield 18, 3) := by decide +kernel
theorem dX4_copy_45 : decode cX4_copy 45 = .ok (.putfield 18, 3) := by decide +kernel
theorem dX4_copy_48 : decode cX4_copy 48 = .ok (.iconst 0, 1) := by decide +kernel
theorem dX4_copy_49 : decode cX4_copy 49 = .ok (.istore_n 2, 1) := by decide +kernel
theorem dX4_copy_50 : decode cX4_copy 50 = .ok (.iload_n 2, 1) := by decide +kernel
theorem dX4_copy_51 : decode cX4_copy 51 = .ok (.bipush 9, 2) := by decide +kernel
theorem dX4_copy_53 : decode cX4_copy 53 = .ok (.if_icmp .ge 33, 3) := by decide +kernel
theorem dX4_copy_56 : decode cX4_copy 56 = .ok (.aload_n 0, 1) := by decide +kernel
theorem dX4_copy_57 : decode cX4_copy 57 = .ok (.getfield 9, 3) := by decide +kernel
theorem dX4_copy_60 : decode cX4_copy 60 = .ok (.iload_n 2, 1) := by decide +kernel
theorem dX4_copy_61 : decode cX4_copy 61 = .ok (.aload_n 1, 1) := by decide +kernel
theorem dX4_copy_62 : decode cX4_copy 62 = .ok (.getfield 9, 3) := by decide +kernel
theorem dX4_copy_65 : decode cX4_copy 65 = .ok (.iload_n 2, 1) := by decide +kernel
theorem dX4_copy_66 : decode cX4_copy 66 = .ok (.iaload, 1) := by decide +kernel
theorem dX4_copy_67 : decode cX4_copy 67 = .ok (.iastore, 1) := by decide +kernel
theorem dX4_copy_68 : decode cX4_copy 68 = .ok (.aload_n 0, 1) := by decide +kernel
theorem dX4_copy_69 : decode cX4_copy 69 = .ok (.getfield 15, 3) := by decide +kernel
theorem dX4_copy_72 : decode cX4_copy 72 = .ok (.iload_n 2, 1) := by decide +kernel
theorem dX4_copy_73 : decode cX4_copy 73 = .ok (.aload_n 1, 1) := by decide +kernel
theorem dX4_copy_74 : decode cX4_copy 74 = .ok (.getfield 15, 3) := by decide +kernel
theorem dX4_copy_77 : decode cX4_copy 77 = .ok (.iload_n 2, 1) := by decide +kernel
theorem dX4_copy_78 : decode cX4_copy 78 = .ok (.iaload, 1) := by decide +kernel
theorem dX4_copy_79 : decode cX4_copy 79 = .ok (.iastore, 1) := by decide +kernel
theorem dX4_copy_80 : decode cX4_copy 80 = .ok (.iinc 2 1, 3) := by decide +kernel
theorem dX4_copy_83 : decode cX4_copy 83 = .ok (.goto (-33), 3) := by decide +kernel
theorem dX4_copy_86 : decode cX4_copy 86 = .ok (.return_, 1) := by decide +kernel
