set_option maxRecDepth 20000 in
theorem ggX12_thinks_X12_isQuarrel : GoodIn wsX12_thinks wsX12_isQuarrel := goodIn_r _ [11, 12, 71, 72, 73, 74, 75, 76, 77, 78, 79, 80, 81, 82, 83, 84, 85, 86, 87, 88, 89, 90, 91, 92, 93, 94, 95, 96, 97, 98, 99, 100, 101, 102, 103, 104, 105, 106, 107, 108, 109, 110, 111, 112, 113, 114, 115, 116] (by decide +kernel) (by decide +kernel)
set_option maxRecDepth 20000 in
theorem gX12_thinks_X12_isQuarrel : GoodIn wsX12_thinks (wsV RX12 408 RX12 yX12_isQuarrel wsX12_isQuarrel) := goodIn_app (goodIn_of _ (by decide +kernel)) ggX12_thinks_X12_isQuarrel
set_option maxRecDepth 20000 in
theorem ggX12_thinks_X12_in : GoodIn wsX12_thinks wsX12_in := goodIn_r _ [15] (by decide +kernel) (by decide +kernel)
set_option maxRecDepth 20000 in
theorem gX12_thinks_X12_in : GoodIn wsX12_thinks (va_wsS RX12 97 yX12_in wsX12_in) := goodIn_app (goodIn_of _ (by decide +kernel)) ggX12_thinks_X12_in
set_option maxRecDepth 20000 in
theorem ggX12_thinks_X12_party : GoodIn wsX12_thinks wsX12_party := goodIn_r _ [19, 6, 20, 21, 22, 10, 23, 24, 1, 25, 26, 4, 71, 72, 73, 74, 75, 76, 77, 78, 79, 80, 81, 82, 83, 84, 85, 86, 87, 88, 89, 90, 91, 92, 93, 94, 95, 96, 97, 98, 99, 100, 101, 102, 103, 104, 105, 106, 107, 108, 109, 110, 111, 112, 113, 114, 115, 116] (by decide +kernel) (by decide +kernel)
set_option maxRecDepth 20000 in
theorem gX12_thinks_X12_party : GoodIn wsX12_thinks (wsV RX12 396 RX12 yX12_party wsX12_party) := goodIn_app (goodIn_of _ (by decide +kernel)) ggX12_thinks_X12_party
set_option maxRecDepth 20000 in
theorem ggX12_thinks_X12_spoken : GoodIn wsX12_thinks wsX12_spoken := goodIn_r _ [30, 3, 24, 25, 2, 4, 5, 31, 32, 33, 10, 34, 35, 36, 37, 71, 72, 73, 74, 75, 76, 77, 78, 79, 80, 81, 82, 83, 84, 85, 86, 87, 88, 89, 90, 91, 92, 93, 94, 95, 96, 97, 98, 99, 100, 101, 102, 103, 104, 105, 106, 107, 108, 109, 110, 111, 112, 113, 114, 115, 116] (by decide +kernel) (by decide +kernel)
set_option maxRecDepth 20000 in
theorem gX12_thinks_X12_spoken : GoodIn wsX12_thinks (wsV RX12 353 RX12 yX12_spoken wsX12_spoken) := goodIn_app (goodIn_of _ (by decide +kernel)) ggX12_thinks_X12_spoken
set_option maxRecDepth 20000 in
theorem ggX12_thinks_X12_degree : GoodIn wsX12_thinks wsX12_degree := goodIn_r _ [41, 42, 43, 44, 10, 45, 46, 47, 48, 49, 50, 51, 52, 53, 54, 35, 55, 56, 57, 58, 59, 60, 61, 62, 63, 64, 65, 66, 71, 72, 73, 74, 75, 76, 77, 78, 79, 80, 81, 82, 83, 84, 85, 86, 87, 88, 89, 90, 91, 92, 93, 94, 95, 96, 97, 98, 99, 100, 101, 102, 103, 104, 105, 106, 107, 108, 109, 110, 111, 112, 113, 114, 115, 116] (by decide +kernel) (by decide +kernel)
set_option maxRecDepth 20000 in
theorem gX12_thinks_X12_degree : GoodIn wsX12_thinks (wsV RX12 322 RX12 yX12_degree wsX12_degree) := goodIn_app (goodIn_of _ (by decide +kernel)) ggX12_thinks_X12_degree
set_option maxRecDepth 20000 in
theorem ggX12_thinks_X12_takes : GoodIn wsX12_thinks wsX12_takes := goodIn_r _ [70, 42, 43, 44, 10, 45, 46, 47, 48, 49, 50, 51, 52, 53, 54, 35, 55, 56, 57, 58, 59, 60, 61, 62, 63, 64, 65, 66, 71, 72, 73, 74, 75, 76, 77, 78, 79, 80, 81, 82, 83, 84, 85, 86, 87, 88, 89, 90, 91, 92, 93, 94, 95, 96, 97, 98, 99, 100, 101, 102, 103, 104, 105, 106, 107, 108, 109, 110, 111, 112, 113, 114, 115, 116] (by decide +kernel) (by decide +kernel)
set_option maxRecDepth 20000 in
theorem gX12_thinks_X12_takes : GoodIn wsX12_thinks (wsV RX12 326 RX12 yX12_takes wsX12_takes) := goodIn_app (goodIn_of _ (by decide +kernel)) ggX12_thinks_X12_takes
theorem dX12_thinks_0 : decode cX12_thinks 0 = .ok (.aload_n 0, 1) := by decide +kernel
theorem dX12_thinks_1 : decode cX12_thinks 1 = .ok (.iload_n 1, 1) := by decide +kernel
theorem dX12_thinks_2 : decode cX12_thinks 2 = .ok (.invokevirtual 408, 3) := by decide +kernel
theorem dX12_thinks_5 : decode cX12_thinks 5 = .ok (.ifCond .eq 23, 3) := by decide +kernel
theorem dX12_thinks_8 : decode cX12_thinks 8 = .ok (.iload_n 2, 1) := by decide +kernel
theorem dX12_thinks_9 : decode cX12_thinks 9 = .ok (.i2l, 1) := by decide +kernel
theorem dX12_thinks_10 : decode cX12_thinks 10 = .ok (.lconst 0, 1) := by decide +kernel
theorem dX12_thinks_11 : decode cX12_thinks 11 = .ok (.lconst 1, 1) := by decide +kernel
theorem dX12_thinks_12 : decode cX12_thinks 12 = .ok (.invokestatic 97, 3) := by decide +kernel
theorem dX12_thinks_15 : decode cX12_thinks 15 = .ok (.ifCond .eq 13, 3) := by decide +kernel
theorem dX12_thinks_18 : decode cX12_thinks 18 = .ok (.iload_n 3, 1) := by decide +kernel
theorem dX12_thinks_19 : decode cX12_thinks 19 = .ok (.i2l, 1) := by decide +kernel
theorem dX12_thinks_20 : decode cX12_thinks 20 = .ok (.lconst 0, 1) := by decide +kernel
theorem dX12_thinks_21 : decode cX12_thinks 21 = .ok (.lconst 1, 1) := by decide +kernel
theorem dX12_thinks_22 : decode cX12_thinks 22 = .ok (.invokestatic 97, 3) := by decide +kernel
theorem dX12_thinks_25 : decode cX12_thinks 25 = .ok (.ifCond .ne 5, 3) := by decide +kernel
theorem dX12_thinks_28 : decode cX12_thinks 28 = .ok (.iconst (-1), 1) := by decide +kernel
theorem dX12_thinks_29 : decode cX12_thinks 29 = .ok (.ireturn, 1) := by decide +kernel
theorem dX12_thinks_30 : decode cX12_thinks 30 = .ok (.aload_n 0, 1) := by decide +kernel
theorem dX12_thinks_31 : decode cX12_thinks 31 = .ok (.iload_n 1, 1) := by decide +kernel
theorem dX12_thinks_32 : decode cX12_thinks 32 = .ok (.invokevirtual 396, 3) := by decide +kernel
theorem dX12_thinks_35 : decode cX12_thinks 35 = .ok (.aload_n 0, 1) := by decide +kernel
theorem dX12_thinks_36 : decode cX12_thinks 36 = .ok (.getfield 56, 3) := by decide +kernel
theorem dX12_thinks_39 : decode cX12_thinks 39 = .ok (.iload_n 2, 1) := by decide +kernel
theorem dX12_thinks_40 : decode cX12_thinks 40 = .ok (.iaload, 1) := by decide +kernel
theorem dX12_thinks_41 : decode cX12_thinks 41 = .ok (.istore 4, 2) := by decide +kernel
theorem dX12_thinks_43 : decode cX12_thinks 43 = .ok (.aload_n 0, 1) := by decide +kernel
theorem dX12_thinks_44 : decode cX12_thinks 44 = .ok (.getfield 59, 3) := by decide +kernel
theorem dX12_thinks_47 : decode cX12_thinks 47 = .ok (.iconst 0, 1) := by decide +kernel
theorem dX12_thinks_48 : decode cX12_thinks 48 = .ok (.iconst 0, 1) := by decide +kernel
theorem dX12_thinks_49 : decode cX12_thinks 49 = .ok (.iastore, 1) := by decide +kernel
theorem dX12_thinks_50 : decode cX12_thinks 50 = .ok (.aload_n 0, 1) := by decide +kernel
theorem dX12_thinks_51 : decode cX12_thinks 51 = .ok (.getfield 59, 3) := by decide +kernel
theorem dX12_thinks_54 : decode cX12_thinks 54 = .ok (.iconst 1, 1) := by decide +kernel
theorem dX12_thinks_55 : decode cX12_thinks 55 = .ok (.iconst 0, 1) := by decide +kernel
theorem dX12_thinks_56 : decode cX12_thinks 56 = .ok (.iastore, 1) := by decide +kernel
theorem dX12_thinks_57 : decode cX12_thinks 57 = .ok (.aload_n 0, 1) := by decide +kernel
theorem dX12_thinks_58 : decode cX12_thinks 58 = .ok (.iconst 0, 1) := by decide +kernel
theorem dX12_thinks_59 : decode cX12_thinks 59 = .ok (.putfield 338, 3) := by decide +kernel
theorem dX12_thinks_62 : decode cX12_thinks 62 = .ok (.aload_n 0, 1) := by decide +kernel
theorem dX12_thinks_63 : decode cX12_thinks 63 = .ok (.aload_n 0, 1) := by decide +kernel
theorem dX12_thinks_64 : decode cX12_thinks 64 = .ok (.getfield 335, 3) := by decide +kernel
theorem dX12_thinks_67 : decode cX12_thinks 67 = .ok (.putfield 341, 3) := by decide +kernel
theorem dX12_thinks_70 : decode cX12_thinks 70 = .ok (.iconst 0, 1) := by decide +kernel
theorem dX12_thinks_71 : decode cX12_thinks 71 = .ok (.istore 5, 2) := by decide +kernel
theorem dX12_thinks_73 : decode cX12_thinks 73 = .ok (.iload 5, 2) := by decide +kernel
theorem dX12_thinks_75 : decode cX12_thinks 75 = .ok (.aload_n 0, 1) := by decide +kernel
theorem dX12_thinks_76 : decode cX12_thinks 76 = .ok (.getfield 82, 3) := by decide +kernel
theorem dX12_thinks_79 : decode cX12_thinks 79 = .ok (.bipush 64, 2) := by decide +kernel
theorem dX12_thinks_81 : decode cX12_thinks 81 = .ok (.iload_n 1, 1) := by decide +kernel
theorem dX12_thinks_82 : decode cX12_thinks 82 = .ok (.imul, 1) := by decide +kernel
theorem dX12_thinks_83 : decode cX12_thinks 83 = .ok (.iconst 5, 1) := by decide +kernel
theorem dX12_thinks_84 : decode cX12_thinks 84 = .ok (.iadd, 1) := by decide +kernel
theorem dX12_thinks_85 : decode cX12_thinks 85 = .ok (.iaload, 1) := by decide +kernel
theorem dX12_thinks_86 : decode cX12_thinks 86 = .ok (.if_icmp .ge 142, 3) := by decide +kernel
theorem dX12_thinks_89 : decode cX12_thinks 89 = .ok (.aload_n 0, 1) := by decide +kernel
theorem dX12_thinks_90 : decode cX12_thinks 90 = .ok (.getfield 82, 3) := by decide +kernel
theorem dX12_thinks_93 : decode cX12_thinks 93 = .ok (.bipush 64, 2) := by decide +kernel
theorem dX12_thinks_95 : decode cX12_thinks 95 = .ok (.iload_n 1, 1) := by decide +kernel
theorem dX12_thinks_96 : decode cX12_thinks 96 = .ok (.imul, 1) := by decide +kernel
theorem dX12_thinks_97 : decode cX12_thinks 97 = .ok (.bipush 8, 2) := by decide +kernel
theorem dX12_thinks_99 : decode cX12_thinks 99 = .ok (.iadd, 1) := by decide +kernel
theorem dX12_thinks_100 : decode cX12_thinks 100 = .ok (.iload 5, 2) := by decide +kernel
theorem dX12_thinks_102 : decode cX12_thinks 102 = .ok (.iadd, 1) := by decide +kernel
theorem dX12_thinks_103 : decode cX12_thinks 103 = .ok (.iaload, 1) := by decide +kernel
theorem dX12_thinks_104 : decode cX12_thinks 104 = .ok (.istore 6, 2) := by decide +kernel
theorem dX12_thinks_106 : decode cX12_thinks 106 = .ok (.iconst 1, 1) := by decide +kernel
theorem dX12_thinks_107 : decode cX12_thinks 107 = .ok (.aload_n 0, 1) := by decide +kernel
theorem dX12_thinks_108 : decode cX12_thinks 108 = .ok (.getfield 338, 3) := by decide +kernel
theorem dX12_thinks_111 : decode cX12_thinks 111 = .ok (.isub, 1) := by decide +kernel
theorem dX12_thinks_112 : decode cX12_thinks 112 = .ok (.istore 7, 2) := by decide +kernel
theorem dX12_thinks_114 : decode cX12_thinks 114 = .ok (.aload_n 0, 1) := by decide +kernel
theorem dX12_thinks_115 : decode cX12_thinks 115 = .ok (.invokevirtual 353, 3) := by decide +kernel
theorem dX12_thinks_118 : decode cX12_thinks 118 = .ok (.aload_n 0, 1) := by decide +kernel
theorem dX12_thinks_119 : decode cX12_thinks 119 = .ok (.getfield 59, 3) := by decide +kernel
theorem dX12_thinks_122 : decode cX12_thinks 122 = .ok (.iload 7, 2) := by decide +kernel
theorem dX12_thinks_124 : decode cX12_thinks 124 = .ok (.iaload, 1) := by decide +kernel
theorem dX12_thinks_125 : decode cX12_thinks 125 = .ok (.iload 6, 2) := by decide +kernel
theorem dX12_thinks_127 : decode cX12_thinks 127 = .ok (.iconst 4, 1) := by decide +kernel
theorem dX12_thinks_128 : decode cX12_thinks 128 = .ok (.if_icmp .ge 14, 3) := by decide +kernel
theorem dX12_thinks_131 : decode cX12_thinks 131 = .ok (.aload_n 0, 1) := by decide +kernel
theorem dX12_thinks_132 : decode cX12_thinks 132 = .ok (.iload 4, 2) := by decide +kernel
theorem dX12_thinks_134 : decode cX12_thinks 134 = .ok (.iload 6, 2) := by decide +kernel
theorem dX12_thinks_136 : decode cX12_thinks 136 = .ok (.invokevirtual 322, 3) := by decide +kernel
theorem dX12_thinks_139 : decode cX12_thinks 139 = .ok (.goto 25, 3) := by decide +kernel
theorem dX12_thinks_142 : decode cX12_thinks 142 = .ok (.iload 6, 2) := by decide +kernel
theorem dX12_thinks_144 : decode cX12_thinks 144 = .ok (.bipush 8, 2) := by decide +kernel
theorem dX12_thinks_146 : decode cX12_thinks 146 = .ok (.if_icmp .ge 17, 3) := by decide +kernel
theorem dX12_thinks_149 : decode cX12_thinks 149 = .ok (.aload_n 0, 1) := by decide +kernel
theorem dX12_thinks_150 : decode cX12_thinks 150 = .ok (.iload 4, 2) := by decide +kernel
theorem dX12_thinks_152 : decode cX12_thinks 152 = .ok (.iload 6, 2) := by decide +kernel
theorem dX12_thinks_154 : decode cX12_thinks 154 = .ok (.iconst 4, 1) := by decide +kernel
theorem dX12_thinks_155 : decode cX12_thinks 155 = .ok (.isub, 1) := by decide +kernel
theorem dX12_thinks_156 : decode cX12_thinks 156 = .ok (.invokevirtual 326, 3) := by decide +kernel
theorem dX12_thinks_159 : decode cX12_thinks 159 = .ok (.ineg, 1) := by decide +kernel
theorem dX12_thinks_160 : decode cX12_thinks 160 = .ok (.goto 4, 3) := by decide +kernel
theorem dX12_thinks_163 : decode cX12_thinks 163 = .ok (.iconst 0, 1) := by decide +kernel
theorem dX12_thinks_164 : decode cX12_thinks 164 = .ok (.iadd, 1) := by decide +kernel
theorem dX12_thinks_165 : decode cX12_thinks 165 = .ok (.istore 8, 2) := by decide +kernel
theorem dX12_thinks_167 : decode cX12_thinks 167 = .ok (.aload_n 0, 1) := by decide +kernel
theorem dX12_thinks_168 : decode cX12_thinks 168 = .ok (.getfield 59, 3) := by decide +kernel
theorem dX12_thinks_171 : decode cX12_thinks 171 = .ok (.iload 7, 2) := by decide +kernel
theorem dX12_thinks_173 : decode cX12_thinks 173 = .ok (.iload 8, 2) := by decide +kernel
theorem dX12_thinks_175 : decode cX12_thinks 175 = .ok (.ifCond .ge 7, 3) := by decide +kernel
theorem dX12_thinks_178 : decode cX12_thinks 178 = .ok (.iconst 0, 1) := by decide +kernel
theorem dX12_thinks_179 : decode cX12_thinks 179 = .ok (.goto 17, 3) := by decide +kernel
theorem dX12_thinks_182 : decode cX12_thinks 182 = .ok (.iload 8, 2) := by decide +kernel
theorem dX12_thinks_184 : decode cX12_thinks 184 = .ok (.bipush 15, 2) := by decide +kernel
theorem dX12_thinks_186 : decode cX12_thinks 186 = .ok (.if_icmp .le 8, 3) := by decide +kernel
theorem dX12_thinks_189 : decode cX12_thinks 189 = .ok (.bipush 15, 2) := by decide +kernel
theorem dX12_thinks_191 : decode cX12_thinks 191 = .ok (.goto 5, 3) := by decide +kernel
theorem dX12_thinks_194 : decode cX12_thinks 194 = .ok (.iload 8, 2) := by decide +kernel
theorem dX12_thinks_196 : decode cX12_thinks 196 = .ok (.iastore, 1) := by decide +kernel
theorem dX12_thinks_197 : decode cX12_thinks 197 = .ok (.aload_n 0, 1) := by decide +kernel
theorem dX12_thinks_198 : decode cX12_thinks 198 = .ok (.iload 7, 2) := by decide +kernel
theorem dX12_thinks_200 : decode cX12_thinks 200 = .ok (.putfield 338, 3) := by decide +kernel
theorem dX12_thinks_203 : decode cX12_thinks 203 = .ok (.aload_n 0, 1) := by decide +kernel
theorem dX12_thinks_204 : decode cX12_thinks 204 = .ok (.dup, 1) := by decide +kernel
theorem dX12_thinks_205 : decode cX12_thinks 205 = .ok (.getfield 341, 3) := by decide +kernel
theorem dX12_thinks_208 : decode cX12_thinks 208 = .ok (.iload 5, 2) := by decide +kernel
theorem dX12_thinks_210 : decode cX12_thinks 210 = .ok (.ifCond .le 7, 3) := by decide +kernel
theorem dX12_thinks_213 : decode cX12_thinks 213 = .ok (.iconst 1, 1) := by decide +kernel
theorem dX12_thinks_214 : decode cX12_thinks 214 = .ok (.goto 4, 3) := by decide +kernel
theorem dX12_thinks_217 : decode cX12_thinks 217 = .ok (.iconst 0, 1) := by decide +kernel
theorem dX12_thinks_218 : decode cX12_thinks 218 = .ok (.isub, 1) := by decide +kernel
theorem dX12_thinks_219 : decode cX12_thinks 219 = .ok (.putfield 341, 3) := by decide +kernel
theorem dX12_thinks_222 : decode cX12_thinks 222 = .ok (.iinc 5 1, 3) := by decide +kernel
theorem dX12_thinks_225 : decode cX12_thinks 225 = .ok (.goto (-152), 3) := by decide +kernel
theorem dX12_thinks_228 : decode cX12_thinks 228 = .ok (.aload_n 0, 1) := by decide +kernel
theorem dX12_thinks_229 : decode cX12_thinks 229 = .ok (.getfield 59, 3) := by decide +kernel
theorem dX12_thinks_232 : decode cX12_thinks 232 = .ok (.iload_n 3, 1) := by decide +kernel
theorem dX12_thinks_233 : decode cX12_thinks 233 = .ok (.iaload, 1) := by decide +kernel
theorem dX12_thinks_234 : decode cX12_thinks 234 = .ok (.ireturn, 1) := by decide +kernel
set_option maxRecDepth 20000 in
theorem ggX12_firstOf_X12_isOn : GoodIn wsX12_firstOf wsX12_isOn := goodIn_r _ [8, 2, 9, 10, 11, 12, 13, 14, 15, 16, 17, 18, 19, 20, 21, 22, 23, 24, 25, 26, 27, 28, 29, 30, 31, 32, 33, 34, 35, 36, 37, 38, 39, 40, 41, 42, 43, 44, 45, 46, 47, 48, 49, 50, 51, 52, 53, 54] (by decide +kernel) (by decide +kernel)
set_option maxRecDepth 20000 in
theorem gX12_firstOf_X12_isOn : GoodIn wsX12_firstOf (wsV RX12 432 RX12 yX12_isOn wsX12_isOn) := goodIn_app (goodIn_of _ (by decide +kernel)) ggX12_firstOf_X12_isOn
theorem dX12_firstOf_0 : decode cX12_firstOf 0 = .ok (.iconst (-1), 1) := by decide +kernel
theorem dX12_firstOf_1 : decode cX12_firstOf 1 = .ok (.istore_n 2, 1) := by decide +kernel
theorem dX12_firstOf_2 : decode cX12_firstOf 2 = .ok (.iconst 0, 1) := by decide +kernel
theorem dX12_firstOf_3 : decode cX12_firstOf 3 = .ok (.istore_n 3, 1) := by decide +kernel
theorem dX12_firstOf_4 : decode cX12_firstOf 4 = .ok (.iconst 0, 1) := by decide +kernel
theorem dX12_firstOf_5 : decode cX12_firstOf 5 = .ok (.istore 4, 2) := by decide +kernel
theorem dX12_firstOf_7 : decode cX12_firstOf 7 = .ok (.iload 4, 2) := by decide +kernel
theorem dX12_firstOf_9 : decode cX12_firstOf 9 = .ok (.aload_n 0, 1) := by decide +kernel
theorem dX12_firstOf_10 : decode cX12_firstOf 10 = .ok (.getfield 389, 3) := by decide +kernel
theorem dX12_firstOf_13 : decode cX12_firstOf 13 = .ok (.if_icmp .ge 154, 3) := by decide +kernel
theorem dX12_firstOf_16 : decode cX12_firstOf 16 = .ok (.aload_n 0, 1) := by decide +kernel
theorem dX12_firstOf_17 : decode cX12_firstOf 17 = .ok (.iload 4, 2) := by decide +kernel
theorem dX12_firstOf_19 : decode cX12_firstOf 19 = .ok (.invokevirtual 432, 3) := by decide +kernel
theorem dX12_firstOf_22 : decode cX12_firstOf 22 = .ok (.ifCond .eq 139, 3) := by decide +kernel
theorem dX12_firstOf_25 : decode cX12_firstOf 25 = .ok (.aload_n 0, 1) := by decide +kernel
theorem dX12_firstOf_26 : decode cX12_firstOf 26 = .ok (.getfield 82, 3) := by decide +kernel
theorem dX12_firstOf_29 : decode cX12_firstOf 29 = .ok (.bipush 64, 2) := by decide +kernel
theorem dX12_firstOf_31 : decode cX12_firstOf 31 = .ok (.iload 4, 2) := by decide +kernel
theorem dX12_firstOf_33 : decode cX12_firstOf 33 = .ok (.imul, 1) := by decide +kernel
theorem dX12_firstOf_34 : decode cX12_firstOf 34 = .ok (.iaload, 1) := by decide +kernel
theorem dX12_firstOf_35 : decode cX12_firstOf 35 = .ok (.iload_n 1, 1) := by decide +kernel
theorem dX12_firstOf_36 : decode cX12_firstOf 36 = .ok (.if_icmp .eq 22, 3) := by decide +kernel
theorem dX12_firstOf_39 : decode cX12_firstOf 39 = .ok (.aload_n 0, 1) := by decide +kernel
theorem dX12_firstOf_40 : decode cX12_firstOf 40 = .ok (.getfield 82, 3) := by decide +kernel
theorem dX12_firstOf_43 : decode cX12_firstOf 43 = .ok (.bipush 64, 2) := by decide +kernel
theorem dX12_firstOf_45 : decode cX12_firstOf 45 = .ok (.iload 4, 2) := by decide +kernel
theorem dX12_firstOf_47 : decode cX12_firstOf 47 = .ok (.imul, 1) := by decide +kernel
theorem dX12_firstOf_48 : decode cX12_firstOf 48 = .ok (.iconst 1, 1) := by decide +kernel
theorem dX12_firstOf_49 : decode cX12_firstOf 49 = .ok (.iadd, 1) := by decide +kernel
theorem dX12_firstOf_50 : decode cX12_firstOf 50 = .ok (.iaload, 1) := by decide +kernel
theorem dX12_firstOf_51 : decode cX12_firstOf 51 = .ok (.iload_n 1, 1) := by decide +kernel
theorem dX12_firstOf_52 : decode cX12_firstOf 52 = .ok (.if_icmp .eq 6, 3) := by decide +kernel
theorem dX12_firstOf_55 : decode cX12_firstOf 55 = .ok (.goto 106, 3) := by decide +kernel
theorem dX12_firstOf_58 : decode cX12_firstOf 58 = .ok (.aload_n 0, 1) := by decide +kernel
theorem dX12_firstOf_59 : decode cX12_firstOf 59 = .ok (.getfield 82, 3) := by decide +kernel
theorem dX12_firstOf_62 : decode cX12_firstOf 62 = .ok (.bipush 64, 2) := by decide +kernel
theorem dX12_firstOf_64 : decode cX12_firstOf 64 = .ok (.iload 4, 2) := by decide +kernel
theorem dX12_firstOf_66 : decode cX12_firstOf 66 = .ok (.imul, 1) := by decide +kernel
theorem dX12_firstOf_67 : decode cX12_firstOf 67 = .ok (.iaload, 1) := by decide +kernel
theorem dX12_firstOf_68 : decode cX12_firstOf 68 = .ok (.iload_n 1, 1) := by decide +kernel
theorem dX12_firstOf_69 : decode cX12_firstOf 69 = .ok (.if_icmp .ne 7, 3) := by decide +kernel
theorem dX12_firstOf_72 : decode cX12_firstOf 72 = .ok (.iconst 0, 1) := by decide +kernel
theorem dX12_firstOf_73 : decode cX12_firstOf 73 = .ok (.goto 4, 3) := by decide +kernel
theorem dX12_firstOf_76 : decode cX12_firstOf 76 = .ok (.iconst 1, 1) := by decide +kernel
theorem dX12_firstOf_77 : decode cX12_firstOf 77 = .ok (.istore 5, 2) := by decide +kernel
theorem dX12_firstOf_79 : decode cX12_firstOf 79 = .ok (.bipush 10, 2) := by decide +kernel
theorem dX12_firstOf_81 : decode cX12_firstOf 81 = .ok (.aload_n 0, 1) := by decide +kernel
theorem dX12_firstOf_82 : decode cX12_firstOf 82 = .ok (.getfield 82, 3) := by decide +kernel
theorem dX12_firstOf_85 : decode cX12_firstOf 85 = .ok (.bipush 64, 2) := by decide +kernel
theorem dX12_firstOf_87 : decode cX12_firstOf 87 = .ok (.iload 4, 2) := by decide +kernel
theorem dX12_firstOf_89 : decode cX12_firstOf 89 = .ok (.imul, 1) := by decide +kernel
theorem dX12_firstOf_90 : decode cX12_firstOf 90 = .ok (.bipush 17, 2) := by decide +kernel
theorem dX12_firstOf_92 : decode cX12_firstOf 92 = .ok (.iadd, 1) := by decide +kernel
theorem dX12_firstOf_93 : decode cX12_firstOf 93 = .ok (.iconst 5, 1) := by decide +kernel
theorem dX12_firstOf_94 : decode cX12_firstOf 94 = .ok (.aload_n 0, 1) := by decide +kernel
theorem dX12_firstOf_95 : decode cX12_firstOf 95 = .ok (.getfield 82, 3) := by decide +kernel
theorem dX12_firstOf_98 : decode cX12_firstOf 98 = .ok (.bipush 64, 2) := by decide +kernel
theorem dX12_firstOf_100 : decode cX12_firstOf 100 = .ok (.iload 4, 2) := by decide +kernel
theorem dX12_firstOf_102 : decode cX12_firstOf 102 = .ok (.imul, 1) := by decide +kernel
theorem dX12_firstOf_103 : decode cX12_firstOf 103 = .ok (.iconst 5, 1) := by decide +kernel
theorem dX12_firstOf_104 : decode cX12_firstOf 104 = .ok (.iadd, 1) := by decide +kernel
theorem dX12_firstOf_105 : decode cX12_firstOf 105 = .ok (.iaload, 1) := by decide +kernel
theorem dX12_firstOf_106 : decode cX12_firstOf 106 = .ok (.iconst 1, 1) := by decide +kernel
theorem dX12_firstOf_107 : decode cX12_firstOf 107 = .ok (.isub, 1) := by decide +kernel
theorem dX12_firstOf_108 : decode cX12_firstOf 108 = .ok (.imul, 1) := by decide +kernel
theorem dX12_firstOf_109 : decode cX12_firstOf 109 = .ok (.iadd, 1) := by decide +kernel
theorem dX12_firstOf_110 : decode cX12_firstOf 110 = .ok (.iload 5, 2) := by decide +kernel
theorem dX12_firstOf_112 : decode cX12_firstOf 112 = .ok (.iadd, 1) := by decide +kernel
theorem dX12_firstOf_113 : decode cX12_firstOf 113 = .ok (.iaload, 1) := by decide +kernel
theorem dX12_firstOf_114 : decode cX12_firstOf 114 = .ok (.imul, 1) := by decide +kernel
theorem dX12_firstOf_115 : decode cX12_firstOf 115 = .ok (.aload_n 0, 1) := by decide +kernel
theorem dX12_firstOf_116 : decode cX12_firstOf 116 = .ok (.getfield 7, 3) := by decide +kernel
theorem dX12_firstOf_119 : decode cX12_firstOf 119 = .ok (.iconst 4, 1) := by decide +kernel
theorem dX12_firstOf_120 : decode cX12_firstOf 120 = .ok (.aload_n 0, 1) := by decide +kernel
theorem dX12_firstOf_121 : decode cX12_firstOf 121 = .ok (.getfield 82, 3) := by decide +kernel
theorem dX12_firstOf_124 : decode cX12_firstOf 124 = .ok (.bipush 64, 2) := by decide +kernel
theorem dX12_firstOf_126 : decode cX12_firstOf 126 = .ok (.iload 4, 2) := by decide +kernel
theorem dX12_firstOf_128 : decode cX12_firstOf 128 = .ok (.imul, 1) := by decide +kernel
theorem dX12_firstOf_129 : decode cX12_firstOf 129 = .ok (.iconst 1, 1) := by decide +kernel
theorem dX12_firstOf_130 : decode cX12_firstOf 130 = .ok (.iadd, 1) := by decide +kernel
theorem dX12_firstOf_131 : decode cX12_firstOf 131 = .ok (.iload 5, 2) := by decide +kernel
theorem dX12_firstOf_133 : decode cX12_firstOf 133 = .ok (.isub, 1) := by decide +kernel
theorem dX12_firstOf_134 : decode cX12_firstOf 134 = .ok (.iaload, 1) := by decide +kernel
theorem dX12_firstOf_135 : decode cX12_firstOf 135 = .ok (.imul, 1) := by decide +kernel
theorem dX12_firstOf_136 : decode cX12_firstOf 136 = .ok (.iconst 1, 1) := by decide +kernel
theorem dX12_firstOf_137 : decode cX12_firstOf 137 = .ok (.iadd, 1) := by decide +kernel
theorem dX12_firstOf_138 : decode cX12_firstOf 138 = .ok (.iaload, 1) := by decide +kernel
theorem dX12_firstOf_139 : decode cX12_firstOf 139 = .ok (.iadd, 1) := by decide +kernel
theorem dX12_firstOf_140 : decode cX12_firstOf 140 = .ok (.istore 6, 2) := by decide +kernel
theorem dX12_firstOf_142 : decode cX12_firstOf 142 = .ok (.iload_n 2, 1) := by decide +kernel
theorem dX12_firstOf_143 : decode cX12_firstOf 143 = .ok (.ifCond .lt 12, 3) := by decide +kernel
theorem dX12_firstOf_146 : decode cX12_firstOf 146 = .ok (.iload 6, 2) := by decide +kernel
theorem dX12_firstOf_148 : decode cX12_firstOf 148 = .ok (.iload_n 3, 1) := by decide +kernel
theorem dX12_firstOf_149 : decode cX12_firstOf 149 = .ok (.if_icmp .gt 6, 3) := by decide +kernel
theorem dX12_firstOf_152 : decode cX12_firstOf 152 = .ok (.goto 9, 3) := by decide +kernel
theorem dX12_firstOf_155 : decode cX12_firstOf 155 = .ok (.iload 4, 2) := by decide +kernel
theorem dX12_firstOf_157 : decode cX12_firstOf 157 = .ok (.istore_n 2, 1) := by decide +kernel
theorem dX12_firstOf_158 : decode cX12_firstOf 158 = .ok (.iload 6, 2) := by decide +kernel
theorem dX12_firstOf_160 : decode cX12_firstOf 160 = .ok (.istore_n 3, 1) := by decide +kernel
theorem dX12_firstOf_161 : decode cX12_firstOf 161 = .ok (.iinc 4 1, 3) := by decide +kernel
theorem dX12_firstOf_164 : decode cX12_firstOf 164 = .ok (.goto (-157), 3) := by decide +kernel
theorem dX12_firstOf_167 : decode cX12_firstOf 167 = .ok (.iload_n 2, 1) := by decide +kernel
theorem dX12_firstOf_168 : decode cX12_firstOf 168 = .ok (.ireturn, 1) := by decide +kernel
set_option maxRecDepth 20000 in
theorem ggX12_waitsFor_X12_isOn : GoodIn wsX12_waitsFor wsX12_isOn := goodIn_r _ [6, 1, 13, 14, 15, 16, 17, 18, 19, 20, 21, 22, 23, 24, 25, 26, 27, 28, 29, 30, 31, 32, 33, 34, 35, 36, 37, 38, 39, 40, 41, 42, 43, 44, 45, 46, 47, 48, 49, 50, 51, 52, 53, 54, 55, 56, 57, 58] (by decide +kernel) (by decide +kernel)
set_option maxRecDepth 20000 in
theorem gX12_waitsFor_X12_isOn : GoodIn wsX12_waitsFor (wsV RX12 432 RX12 yX12_isOn wsX12_isOn) := goodIn_app (goodIn_of _ (by decide +kernel)) ggX12_waitsFor_X12_isOn
set_option maxRecDepth 20000 in
theorem ggX12_waitsFor_X12_firstOf : GoodIn wsX12_waitsFor wsX12_firstOf := goodIn_r _ [10, 11, 1, 12, 2, 3, 4, 5, 6, 13, 14, 15, 16, 17, 18, 19, 20, 21, 22, 23, 24, 25, 26, 27, 28, 29, 30, 31, 32, 33, 34, 35, 36, 37, 38, 39, 40, 41, 42, 43, 44, 45, 46, 47, 48, 49, 50, 51, 52, 53, 54, 55, 56, 57, 58] (by decide +kernel) (by decide +kernel)
set_option maxRecDepth 20000 in
theorem gX12_waitsFor_X12_firstOf : GoodIn wsX12_waitsFor (wsV RX12 435 RX12 yX12_firstOf wsX12_firstOf) := goodIn_app (goodIn_of _ (by decide +kernel)) ggX12_waitsFor_X12_firstOf
theorem dX12_waitsFor_0 : decode cX12_waitsFor 0 = .ok (.aload_n 0, 1) := by decide +kernel
theorem dX12_waitsFor_1 : decode cX12_waitsFor 1 = .ok (.iload_n 1, 1) := by decide +kernel
theorem dX12_waitsFor_2 : decode cX12_waitsFor 2 = .ok (.invokevirtual 432, 3) := by decide +kernel
theorem dX12_waitsFor_5 : decode cX12_waitsFor 5 = .ok (.ifCond .eq 39, 3) := by decide +kernel
theorem dX12_waitsFor_8 : decode cX12_waitsFor 8 = .ok (.iconst 1, 1) := by decide +kernel
theorem dX12_waitsFor_9 : decode cX12_waitsFor 9 = .ok (.aload_n 0, 1) := by decide +kernel
theorem dX12_waitsFor_10 : decode cX12_waitsFor 10 = .ok (.aload_n 0, 1) := by decide +kernel
theorem dX12_waitsFor_11 : decode cX12_waitsFor 11 = .ok (.getfield 82, 3) := by decide +kernel
theorem dX12_waitsFor_14 : decode cX12_waitsFor 14 = .ok (.bipush 64, 2) := by decide +kernel
theorem dX12_waitsFor_16 : decode cX12_waitsFor 16 = .ok (.iload_n 1, 1) := by decide +kernel
theorem dX12_waitsFor_17 : decode cX12_waitsFor 17 = .ok (.imul, 1) := by decide +kernel
theorem dX12_waitsFor_18 : decode cX12_waitsFor 18 = .ok (.iaload, 1) := by decide +kernel
theorem dX12_waitsFor_19 : decode cX12_waitsFor 19 = .ok (.invokevirtual 435, 3) := by decide +kernel
theorem dX12_waitsFor_22 : decode cX12_waitsFor 22 = .ok (.ishl, 1) := by decide +kernel
theorem dX12_waitsFor_23 : decode cX12_waitsFor 23 = .ok (.iconst 1, 1) := by decide +kernel
theorem dX12_waitsFor_24 : decode cX12_waitsFor 24 = .ok (.aload_n 0, 1) := by decide +kernel
theorem dX12_waitsFor_25 : decode cX12_waitsFor 25 = .ok (.aload_n 0, 1) := by decide +kernel
theorem dX12_waitsFor_26 : decode cX12_waitsFor 26 = .ok (.getfield 82, 3) := by decide +kernel
theorem dX12_waitsFor_29 : decode cX12_waitsFor 29 = .ok (.bipush 64, 2) := by decide +kernel
theorem dX12_waitsFor_31 : decode cX12_waitsFor 31 = .ok (.iload_n 1, 1) := by decide +kernel
theorem dX12_waitsFor_32 : decode cX12_waitsFor 32 = .ok (.imul, 1) := by decide +kernel
theorem dX12_waitsFor_33 : decode cX12_waitsFor 33 = .ok (.iconst 1, 1) := by decide +kernel
theorem dX12_waitsFor_34 : decode cX12_waitsFor 34 = .ok (.iadd, 1) := by decide +kernel
theorem dX12_waitsFor_35 : decode cX12_waitsFor 35 = .ok (.iaload, 1) := by decide +kernel
theorem dX12_waitsFor_36 : decode cX12_waitsFor 36 = .ok (.invokevirtual 435, 3) := by decide +kernel
theorem dX12_waitsFor_39 : decode cX12_waitsFor 39 = .ok (.ishl, 1) := by decide +kernel
theorem dX12_waitsFor_40 : decode cX12_waitsFor 40 = .ok (.ior, 1) := by decide +kernel
theorem dX12_waitsFor_41 : decode cX12_waitsFor 41 = .ok (.goto 4, 3) := by decide +kernel
theorem dX12_waitsFor_44 : decode cX12_waitsFor 44 = .ok (.iconst 0, 1) := by decide +kernel
theorem dX12_waitsFor_45 : decode cX12_waitsFor 45 = .ok (.istore_n 2, 1) := by decide +kernel
theorem dX12_waitsFor_46 : decode cX12_waitsFor 46 = .ok (.iload_n 2, 1) := by decide +kernel
theorem dX12_waitsFor_47 : decode cX12_waitsFor 47 = .ok (.iconst 1, 1) := by decide +kernel
theorem dX12_waitsFor_48 : decode cX12_waitsFor 48 = .ok (.iload_n 1, 1) := by decide +kernel
theorem dX12_waitsFor_49 : decode cX12_waitsFor 49 = .ok (.ishl, 1) := by decide +kernel
theorem dX12_waitsFor_50 : decode cX12_waitsFor 50 = .ok (.iconst (-1), 1) := by decide +kernel
theorem dX12_waitsFor_51 : decode cX12_waitsFor 51 = .ok (.ixor, 1) := by decide +kernel
theorem dX12_waitsFor_52 : decode cX12_waitsFor 52 = .ok (.iand, 1) := by decide +kernel
theorem dX12_waitsFor_53 : decode cX12_waitsFor 53 = .ok (.ireturn, 1) := by decide +kernel
set_option maxRecDepth 20000 in
theorem ggX12_waits_X12_isQuarrel : GoodIn wsX12_waits wsX12_isQuarrel := goodIn_r _ [5, 6, 21, 22, 23, 24, 25, 26, 27, 28, 29, 30, 31, 32, 33, 34, 35, 36, 37, 38, 39, 40, 41, 42, 43, 44, 45, 46, 47, 48, 49, 50, 51, 52, 53, 54, 55, 56, 57, 58, 59, 60, 61, 62, 63, 64, 65, 66] (by decide +kernel) (by decide +kernel)
set_option maxRecDepth 20000 in
theorem gX12_waits_X12_isQuarrel : GoodIn wsX12_waits (wsV RX12 408 RX12 yX12_isQuarrel wsX12_isQuarrel) := goodIn_app (goodIn_of _ (by decide +kernel)) ggX12_waits_X12_isQuarrel
set_option maxRecDepth 20000 in
theorem ggX12_waits_X12_waitsFor : GoodIn wsX12_waits wsX12_waitsFor := goodIn_r _ [10, 11, 12, 13, 14, 4, 15, 16, 17, 18, 19, 6, 20, 21, 22, 23, 24, 25, 26, 27, 28, 29, 30, 31, 32, 33, 34, 35, 36, 37, 38, 39, 40, 41, 42, 43, 44, 45, 46, 47, 48, 49, 50, 51, 52, 53, 54, 55, 56, 57, 58, 59, 60, 61, 62, 63, 64, 65, 66] (by decide +kernel) (by decide +kernel)
set_option maxRecDepth 20000 in
theorem gX12_waits_X12_waitsFor : GoodIn wsX12_waits (wsV RX12 438 RX12 yX12_waitsFor wsX12_waitsFor) := goodIn_app (goodIn_of _ (by decide +kernel)) ggX12_waits_X12_waitsFor
theorem dX12_waits_0 : decode cX12_waits 0 = .ok (.aload_n 0, 1) := by decide +kernel
theorem dX12_waits_1 : decode cX12_waits 1 = .ok (.iload_n 1, 1) := by decide +kernel
theorem dX12_waits_2 : decode cX12_waits 2 = .ok (.invokevirtual 408, 3) := by decide +kernel
theorem dX12_waits_5 : decode cX12_waits 5 = .ok (.ifCond .eq 11, 3) := by decide +kernel
theorem dX12_waits_8 : decode cX12_waits 8 = .ok (.aload_n 0, 1) := by decide +kernel
theorem dX12_waits_9 : decode cX12_waits 9 = .ok (.iload_n 1, 1) := by decide +kernel
theorem dX12_waits_10 : decode cX12_waits 10 = .ok (.invokevirtual 438, 3) := by decide +kernel
theorem dX12_waits_13 : decode cX12_waits 13 = .ok (.goto 4, 3) := by decide +kernel
theorem dX12_waits_16 : decode cX12_waits 16 = .ok (.iconst (-1), 1) := by decide +kernel
theorem dX12_waits_17 : decode cX12_waits 17 = .ok (.ireturn, 1) := by decide +kernel
set_option maxRecDepth 20000 in
theorem ggX12_ring_X12_isQuarrel : GoodIn wsX12_ring wsX12_isQuarrel := goodIn_r _ [6, 1, 21, 22, 23, 24, 25, 26, 27, 28, 29, 30, 31, 32, 33, 34, 35, 36, 37, 38, 39, 40, 41, 42, 43, 44, 45, 46, 47, 48, 49, 50, 51, 52, 53, 54, 55, 56, 57, 58, 59, 60, 61, 62, 63, 64, 65, 66] (by decide +kernel) (by decide +kernel)
set_option maxRecDepth 20000 in
theorem gX12_ring_X12_isQuarrel : GoodIn wsX12_ring (wsV RX12 408 RX12 yX12_isQuarrel wsX12_isQuarrel) := goodIn_app (goodIn_of _ (by decide +kernel)) ggX12_ring_X12_isQuarrel
set_option maxRecDepth 20000 in
theorem ggX12_ring_X12_waitsFor : GoodIn wsX12_ring wsX12_waitsFor := goodIn_r _ [10, 11, 12, 13, 14, 5, 15, 16, 17, 18, 19, 1, 20, 21, 22, 23, 24, 25, 26, 27, 28, 29, 30, 31, 32, 33, 34, 35, 36, 37, 38, 39, 40, 41, 42, 43, 44, 45, 46, 47, 48, 49, 50, 51, 52, 53, 54, 55, 56, 57, 58, 59, 60, 61, 62, 63, 64, 65, 66] (by decide +kernel) (by decide +kernel)
set_option maxRecDepth 20000 in
theorem gX12_ring_X12_waitsFor : GoodIn wsX12_ring (wsV RX12 438 RX12 yX12_waitsFor wsX12_waitsFor) := goodIn_app (goodIn_of _ (by decide +kernel)) ggX12_ring_X12_waitsFor
theorem dX12_ring_0 : decode cX12_ring 0 = .ok (.aload_n 0, 1) := by decide +kernel
theorem dX12_ring_1 : decode cX12_ring 1 = .ok (.iload_n 1, 1) := by decide +kernel
theorem dX12_ring_2 : decode cX12_ring 2 = .ok (.invokevirtual 408, 3) := by decide +kernel
theorem dX12_ring_5 : decode cX12_ring 5 = .ok (.ifCond .ne 5, 3) := by decide +kernel
theorem dX12_ring_8 : decode cX12_ring 8 = .ok (.iconst (-1), 1) := by decide +kernel
theorem dX12_ring_9 : decode cX12_ring 9 = .ok (.ireturn, 1) := by decide +kernel
theorem dX12_ring_10 : decode cX12_ring 10 = .ok (.aload_n 0, 1) := by decide +kernel
theorem dX12_ring_11 : decode cX12_ring 11 = .ok (.iload_n 1, 1) := by decide +kernel
theorem dX12_ring_12 : decode cX12_ring 12 = .ok (.invokevirtual 438, 3) := by decide +kernel
theorem dX12_ring_15 : decode cX12_ring 15 = .ok (.istore_n 2, 1) := by decide +kernel
theorem dX12_ring_16 : decode cX12_ring 16 = .ok (.iconst 0, 1) := by decide +kernel
theorem dX12_ring_17 : decode cX12_ring 17 = .ok (.istore_n 3, 1) := by decide +kernel
theorem dX12_ring_18 : decode cX12_ring 18 = .ok (.iload_n 3, 1) := by decide +kernel
theorem dX12_ring_19 : decode cX12_ring 19 = .ok (.bipush 24, 2) := by decide +kernel
theorem dX12_ring_21 : decode cX12_ring 21 = .ok (.if_icmp .ge 50, 3) := by decide +kernel
theorem dX12_ring_24 : decode cX12_ring 24 = .ok (.iconst 0, 1) := by decide +kernel
theorem dX12_ring_25 : decode cX12_ring 25 = .ok (.istore 4, 2) := by decide +kernel
theorem dX12_ring_27 : decode cX12_ring 27 = .ok (.iload 4, 2) := by decide +kernel
theorem dX12_ring_29 : decode cX12_ring 29 = .ok (.aload_n 0, 1) := by decide +kernel
theorem dX12_ring_30 : decode cX12_ring 30 = .ok (.getfield 389, 3) := by decide +kernel
theorem dX12_ring_33 : decode cX12_ring 33 = .ok (.if_icmp .ge 32, 3) := by decide +kernel
theorem dX12_ring_36 : decode cX12_ring 36 = .ok (.iload_n 2, 1) := by decide +kernel
theorem dX12_ring_37 : decode cX12_ring 37 = .ok (.iload_n 2, 1) := by decide +kernel
theorem dX12_ring_38 : decode cX12_ring 38 = .ok (.iload 4, 2) := by decide +kernel
theorem dX12_ring_40 : decode cX12_ring 40 = .ok (.ishr, 1) := by decide +kernel
theorem dX12_ring_41 : decode cX12_ring 41 = .ok (.iconst 1, 1) := by decide +kernel
theorem dX12_ring_42 : decode cX12_ring 42 = .ok (.iand, 1) := by decide +kernel
theorem dX12_ring_43 : decode cX12_ring 43 = .ok (.iconst 1, 1) := by decide +kernel
theorem dX12_ring_44 : decode cX12_ring 44 = .ok (.if_icmp .ne 12, 3) := by decide +kernel
theorem dX12_ring_47 : decode cX12_ring 47 = .ok (.aload_n 0, 1) := by decide +kernel
theorem dX12_ring_48 : decode cX12_ring 48 = .ok (.iload 4, 2) := by decide +kernel
theorem dX12_ring_50 : decode cX12_ring 50 = .ok (.invokevirtual 438, 3) := by decide +kernel
theorem dX12_ring_53 : decode cX12_ring 53 = .ok (.goto 4, 3) := by decide +kernel
theorem dX12_ring_56 : decode cX12_ring 56 = .ok (.iconst 0, 1) := by decide +kernel
theorem dX12_ring_57 : decode cX12_ring 57 = .ok (.ior, 1) := by decide +kernel
theorem dX12_ring_58 : decode cX12_ring 58 = .ok (.istore_n 2, 1) := by decide +kernel
theorem dX12_ring_59 : decode cX12_ring 59 = .ok (.iinc 4 1, 3) := by decide +kernel
theorem dX12_ring_62 : decode cX12_ring 62 = .ok (.goto (-35), 3) := by decide +kernel
theorem dX12_ring_65 : decode cX12_ring 65 = .ok (.iinc 3 1, 3) := by decide +kernel
theorem dX12_ring_68 : decode cX12_ring 68 = .ok (.goto (-50), 3) := by decide +kernel
theorem dX12_ring_71 : decode cX12_ring 71 = .ok (.iload_n 2, 1) := by decide +kernel
theorem dX12_ring_72 : decode cX12_ring 72 = .ok (.iload_n 1, 1) := by decide +kernel
theorem dX12_ring_73 : decode cX12_ring 73 = .ok (.ishr, 1) := by decide +kernel
theorem dX12_ring_74 : decode cX12_ring 74 = .ok (.iconst 1, 1) := by decide +kernel
theorem dX12_ring_75 : decode cX12_ring 75 = .ok (.iand, 1) := by decide +kernel
theorem dX12_ring_76 : decode cX12_ring 76 = .ok (.ireturn, 1) := by decide +kernel
set_option maxRecDepth 20000 in
theorem ggX12_first_X12_isPerson : GoodIn wsX12_first wsX12_isPerson := goodIn_r _ [5, 6, 18, 19, 20, 21, 22, 23, 24, 25, 26, 27, 28, 29, 30, 31, 32, 33, 34, 35, 36, 37, 38, 39, 40, 41, 42, 43, 44, 45, 46, 47, 48, 49, 50, 51, 52, 53, 54, 55, 56, 57, 58, 59, 60, 61, 62, 63] (by decide +kernel) (by decide +kernel)
set_option maxRecDepth 20000 in
theorem gX12_first_X12_isPerson : GoodIn wsX12_first (wsV RX12 103 RX12 yX12_isPerson wsX12_isPerson) := goodIn_app (goodIn_of _ (by decide +kernel)) ggX12_first_X12_isPerson
set_option maxRecDepth 20000 in
theorem ggX12_first_X12_firstOf : GoodIn wsX12_first wsX12_firstOf := goodIn_r _ [10, 11, 12, 13, 14, 15, 16, 4, 17, 18, 19, 20, 21, 22, 23, 24, 25, 26, 27, 28, 29, 30, 31, 32, 33, 34, 35, 36, 37, 38, 39, 40, 41, 42, 43, 44, 45, 46, 47, 48, 49, 50, 51, 52, 53, 54, 55, 56, 57, 58, 59, 60, 61, 62, 63] (by decide +kernel) (by decide +kernel)
set_option maxRecDepth 20000 in
theorem gX12_first_X12_firstOf : GoodIn wsX12_first (wsV RX12 435 RX12 yX12_firstOf wsX12_firstOf) := goodIn_app (goodIn_of _ (by decide +kernel)) ggX12_first_X12_firstOf
theorem dX12_first_0 : decode cX12_first 0 = .ok (.aload_n 0, 1) := by decide +kernel
theorem dX12_first_1 : decode cX12_first 1 = .ok (.iload_n 1, 1) := by decide +kernel
theorem dX12_first_2 : decode cX12_first 2 = .ok (.invokevirtual 103, 3) := by decide +kernel
theorem dX12_first_5 : decode cX12_first 5 = .ok (.ifCond .ne 5, 3) := by decide +kernel
theorem dX12_first_8 : decode cX12_first 8 = .ok (.iconst (-1), 1) := by decide +kernel
theorem dX12_first_9 : decode cX12_first 9 = .ok (.ireturn, 1) := by decide +kernel
theorem dX12_first_10 : decode cX12_first 10 = .ok (.aload_n 0, 1) := by decide +kernel
theorem dX12_first_11 : decode cX12_first 11 = .ok (.iload_n 1, 1) := by decide +kernel
theorem dX12_first_12 : decode cX12_first 12 = .ok (.invokevirtual 435, 3) := by decide +kernel
theorem dX12_first_15 : decode cX12_first 15 = .ok (.istore_n 2, 1) := by decide +kernel
theorem dX12_first_16 : decode cX12_first 16 = .ok (.iload_n 2, 1) := by decide +kernel
theorem dX12_first_17 : decode cX12_first 17 = .ok (.ifCond .ge 8, 3) := by decide +kernel
theorem dX12_first_20 : decode cX12_first 20 = .ok (.bipush (-2), 2) := by decide +kernel
theorem dX12_first_22 : decode cX12_first 22 = .ok (.goto 4, 3) := by decide +kernel
theorem dX12_first_25 : decode cX12_first 25 = .ok (.iload_n 2, 1) := by decide +kernel
theorem dX12_first_26 : decode cX12_first 26 = .ok (.ireturn, 1) := by decide +kernel
set_option maxRecDepth 20000 in
theorem ggX12_endsInField_X12_meets : GoodIn wsX12_endsInField wsX12_meets := goodIn_r _ [5, 6, 7, 8, 9, 10, 124, 125, 126, 127, 128, 129, 130, 131, 132, 133, 134, 135, 136, 137, 138, 139, 140, 141, 142, 143, 144, 145, 146, 147, 148, 149, 150, 151, 152, 153, 154, 155, 156, 157, 158, 159, 160, 161, 162, 163, 164, 165, 166, 167, 168, 169] (by decide +kernel) (by decide +kernel)
set_option maxRecDepth 20000 in
theorem gX12_endsInField_X12_meets : GoodIn wsX12_endsInField (wsV RX12 392 RX12 yX12_meets wsX12_meets) := goodIn_app (goodIn_of _ (by decide +kernel)) ggX12_endsInField_X12_meets
set_option maxRecDepth 20000 in
theorem ggX12_endsInField_X12_slightsFirst : GoodIn wsX12_endsInField wsX12_slightsFirst := goodIn_r _ [14, 15, 16, 17, 10, 18, 19, 20, 7, 21, 22, 23, 4, 24, 6, 8, 25, 26, 27, 28, 29, 30, 31, 32, 33, 34, 35, 36, 37, 38, 39, 40, 41, 42, 43, 44, 45, 46, 47, 48, 49, 50, 51, 52, 53, 54, 55, 56, 57, 58, 59, 60, 61, 62, 63, 64, 124, 125, 126, 127, 128, 129, 130, 131, 132, 133, 134, 135, 136, 137, 138, 139, 140, 141, 142, 143, 144, 145, 146, 147, 148, 149, 150, 151, 152, 153, 154, 155, 156, 157, 158, 159, 160, 161, 162, 163, 164, 165, 166, 167, 168, 169] (by decide +kernel) (by decide +kernel)
set_option maxRecDepth 20000 in
theorem gX12_endsInField_X12_slightsFirst : GoodIn wsX12_endsInField (wsV RX12 402 RX12 yX12_slightsFirst wsX12_slightsFirst) := goodIn_app (goodIn_of _ (by decide +kernel)) ggX12_endsInField_X12_slightsFirst
set_option maxRecDepth 20000 in
theorem ggX12_endsInField_X12_plays : GoodIn wsX12_endsInField wsX12_plays := goodIn_r _ [68, 19, 69, 70, 71, 72, 73, 4, 74, 20, 75, 76, 77, 78, 18, 16, 17, 15, 79, 80, 81, 82, 83, 84, 85, 86, 87, 88, 89, 90, 91, 92, 93, 94, 95, 96, 97, 98, 99, 100, 101, 102, 103, 104, 7, 105, 106, 107, 108, 109, 110, 111, 112, 21, 22, 23, 24, 6, 8, 10, 25, 26, 27, 28, 29, 30, 31, 113, 114, 115, 116, 36, 37, 38, 39, 40, 41, 42, 43, 44, 45, 46, 47, 48, 49, 50, 51, 52, 53, 54, 55, 56, 57, 58, 59, 60, 32, 33, 34, 35, 117, 118, 119, 120, 61, 62, 63, 64, 121, 122, 123, 124, 125, 126, 127, 128, 129, 130, 131, 132, 133, 134, 135, 136, 137, 138, 139, 140, 141, 142, 143, 144, 145, 146, 147, 148, 149, 150, 151, 152, 153, 154, 155, 156, 157, 158, 159, 160, 161, 162, 163, 164, 165, 166, 167, 168, 169] (by decide +kernel) (by decide +kernel)
set_option maxRecDepth 20000 in
theorem gX12_endsInField_X12_plays : GoodIn wsX12_endsInField (wsV RX12 426 RX12 yX12_plays wsX12_plays) := goodIn_app (goodIn_of _ (by decide +kernel)) ggX12_endsInField_X12_plays
theorem dX12_endsInField_0 : decode cX12_endsInField 0 = .ok (.aload_n 0, 1) := by decide +kernel
theorem dX12_endsInField_1 : decode cX12_endsInField 1 = .ok (.iload_n 2, 1) := by decide +kernel
theorem dX12_endsInField_2 : decode cX12_endsInField 2 = .ok (.iload_n 3, 1) := by decide +kernel
theorem dX12_endsInField_3 : decode cX12_endsInField 3 = .ok (.iload 4, 2) := by decide +kernel
theorem dX12_endsInField_5 : decode cX12_endsInField 5 = .ok (.iload_n 1, 1) := by decide +kernel
theorem dX12_endsInField_6 : decode cX12_endsInField 6 = .ok (.iload_n 1, 1) := by decide +kernel
theorem dX12_endsInField_7 : decode cX12_endsInField 7 = .ok (.invokevirtual 392, 3) := by decide +kernel
theorem dX12_endsInField_10 : decode cX12_endsInField 10 = .ok (.aload_n 0, 1) := by decide +kernel
theorem dX12_endsInField_11 : decode cX12_endsInField 11 = .ok (.iload 5, 2) := by decide +kernel
theorem dX12_endsInField_13 : decode cX12_endsInField 13 = .ok (.iconst 1, 1) := by decide +kernel
theorem dX12_endsInField_14 : decode cX12_endsInField 14 = .ok (.invokevirtual 402, 3) := by decide +kernel
theorem dX12_endsInField_17 : decode cX12_endsInField 17 = .ok (.aload_n 0, 1) := by decide +kernel
theorem dX12_endsInField_18 : decode cX12_endsInField 18 = .ok (.invokevirtual 426, 3) := by decide +kernel
theorem dX12_endsInField_21 : decode cX12_endsInField 21 = .ok (.iconst 4, 1) := by decide +kernel
theorem dX12_endsInField_22 : decode cX12_endsInField 22 = .ok (.idiv, 1) := by decide +kernel
theorem dX12_endsInField_23 : decode cX12_endsInField 23 = .ok (.iconst 2, 1) := by decide +kernel
theorem dX12_endsInField_24 : decode cX12_endsInField 24 = .ok (.if_icmp .ne 7, 3) := by decide +kernel
theorem dX12_endsInField_27 : decode cX12_endsInField 27 = .ok (.iconst 1, 1) := by decide +kernel
theorem dX12_endsInField_28 : decode cX12_endsInField 28 = .ok (.goto 4, 3) := by decide +kernel
theorem dX12_endsInField_31 : decode cX12_endsInField 31 = .ok (.iconst 0, 1) := by decide +kernel
theorem dX12_endsInField_32 : decode cX12_endsInField 32 = .ok (.ireturn, 1) := by decide +kernel
set_option maxRecDepth 20000 in
theorem ggX12_harsh_X12_isCode : GoodIn wsX12_harsh wsX12_isCode := goodIn_r _ [6, 7, 143, 144, 145, 146, 147, 148, 149, 150, 151, 152, 153, 154, 155, 156, 157, 158, 159, 160, 161, 162, 163, 164, 165, 166, 167, 168, 169, 170, 171, 172, 173, 174, 175, 176, 177, 178, 179, 180, 181, 182, 183, 184, 185, 186, 187, 188] (by decide +kernel) (by decide +kernel)
set_option maxRecDepth 20000 in
theorem gX12_harsh_X12_isCode : GoodIn wsX12_harsh (wsV RX12 286 RX12 yX12_isCode wsX12_isCode) := goodIn_app (goodIn_of _ (by decide +kernel)) ggX12_harsh_X12_isCode
set_option maxRecDepth 20000 in
theorem ggX12_harsh_X12_areTwo : GoodIn wsX12_harsh wsX12_areTwo := goodIn_r _ [11, 12, 13, 14, 5, 15, 16, 143, 144, 145, 146, 147, 148, 149, 150, 151, 152, 153, 154, 155, 156, 157, 158, 159, 160, 161, 162, 163, 164, 165, 166, 167, 168, 169, 170, 171, 172, 173, 174, 175, 176, 177, 178, 179, 180, 181, 182, 183, 184, 185, 186, 187, 188] (by decide +kernel) (by decide +kernel)
set_option maxRecDepth 20000 in
theorem gX12_harsh_X12_areTwo : GoodIn wsX12_harsh (wsV RX12 107 RX12 yX12_areTwo wsX12_areTwo) := goodIn_app (goodIn_of _ (by decide +kernel)) ggX12_harsh_X12_areTwo
set_option maxRecDepth 20000 in
theorem ggX12_harsh_X12_in : GoodIn wsX12_harsh wsX12_in := goodIn_r _ [19] (by decide +kernel) (by decide +kernel)
set_option maxRecDepth 20000 in
theorem gX12_harsh_X12_in : GoodIn wsX12_harsh (va_wsS RX12 97 yX12_in wsX12_in) := goodIn_app (goodIn_of _ (by decide +kernel)) ggX12_harsh_X12_in
set_option maxRecDepth 20000 in
theorem ggX12_harsh_X12_endsInField : GoodIn wsX12_harsh wsX12_endsInField := goodIn_r _ [23, 24, 25, 26, 5, 27, 28, 29, 30, 31, 32, 33, 34, 35, 36, 37, 38, 39, 40, 41, 42, 43, 44, 45, 46, 47, 48, 49, 50, 51, 52, 53, 54, 55, 56, 57, 58, 59, 60, 61, 62, 63, 64, 65, 66, 67, 68, 69, 70, 71, 72, 73, 74, 75, 76, 77, 78, 79, 80, 81, 82, 83, 84, 85, 86, 87, 88, 89, 90, 91, 92, 93, 94, 95, 96, 97, 98, 99, 100, 101, 102, 103, 104, 105, 106, 107, 108, 109, 110, 111, 112, 113, 114, 115, 116, 117, 118, 119, 120, 121, 122, 123, 124, 125, 126, 17, 18, 19, 127, 128, 129, 130, 131, 132, 133, 134, 135, 136, 137, 138, 139, 140, 141, 142, 143, 144, 145, 146, 147, 148, 149, 150, 151, 152, 153, 154, 155, 156, 157, 158, 159, 160, 161, 162, 163, 164, 165, 166, 167, 168, 169, 170, 171, 172, 173, 174, 175, 176, 177, 178, 179, 180, 181, 182, 183, 184, 185, 186, 187, 188] (by decide +kernel) (by decide +kernel)
set_option maxRecDepth 20000 in
theorem gX12_harsh_X12_endsInField : GoodIn wsX12_harsh (wsV RX12 441 RX12 yX12_endsInField wsX12_endsInField) := goodIn_app (goodIn_of _ (by decide +kernel)) ggX12_harsh_X12_endsInField
theorem dX12_harsh_0 : decode cX12_harsh 0 = .ok (.aload_n 0, 1) := by decide +kernel
theorem dX12_harsh_1 : decode cX12_harsh 1 = .ok (.iload_n 1, 1) := by decide +kernel
theorem dX12_harsh_2 : decode cX12_harsh 2 = .ok (.invokevirtual 286, 3) := by decide +kernel
theorem dX12_harsh_5 : decode cX12_harsh 5 = .ok (.ifCond .eq 25, 3) := by decide +kernel
theorem dX12_harsh_8 : decode cX12_harsh 8 = .ok (.aload_n 0, 1) := by decide +kernel
theorem dX12_harsh_9 : decode cX12_harsh 9 = .ok (.iload_n 2, 1) := by decide +kernel
theorem dX12_harsh_10 : decode cX12_harsh 10 = .ok (.iload_n 3, 1) := by decide +kernel
theorem dX12_harsh_11 : decode cX12_harsh 11 = .ok (.invokevirtual 107, 3) := by decide +kernel
theorem dX12_harsh_14 : decode cX12_harsh 14 = .ok (.ifCond .eq 16, 3) := by decide +kernel
theorem dX12_harsh_17 : decode cX12_harsh 17 = .ok (.iload 4, 2) := by decide +kernel
theorem dX12_harsh_19 : decode cX12_harsh 19 = .ok (.i2l, 1) := by decide +kernel
theorem dX12_harsh_20 : decode cX12_harsh 20 = .ok (.lconst 0, 1) := by decide +kernel
theorem dX12_harsh_21 : decode cX12_harsh 21 = .ok (.ldc2_w 101, 3) := by decide +kernel
theorem dX12_harsh_24 : decode cX12_harsh 24 = .ok (.invokestatic 97, 3) := by decide +kernel
theorem dX12_harsh_27 : decode cX12_harsh 27 = .ok (.ifCond .ne 5, 3) := by decide +kernel
theorem dX12_harsh_30 : decode cX12_harsh 30 = .ok (.iconst (-1), 1) := by decide +kernel
theorem dX12_harsh_31 : decode cX12_harsh 31 = .ok (.ireturn, 1) := by decide +kernel
theorem dX12_harsh_32 : decode cX12_harsh 32 = .ok (.iconst 0, 1) := by decide +kernel
theorem dX12_harsh_33 : decode cX12_harsh 33 = .ok (.istore 5, 2) := by decide +kernel
theorem dX12_harsh_35 : decode cX12_harsh 35 = .ok (.iconst 0, 1) := by decide +kernel
theorem dX12_harsh_36 : decode cX12_harsh 36 = .ok (.istore 6, 2) := by decide +kernel
theorem dX12_harsh_38 : decode cX12_harsh 38 = .ok (.iload 6, 2) := by decide +kernel
theorem dX12_harsh_40 : decode cX12_harsh 40 = .ok (.iconst 4, 1) := by decide +kernel
theorem dX12_harsh_41 : decode cX12_harsh 41 = .ok (.if_icmp .ge 36, 3) := by decide +kernel
theorem dX12_harsh_44 : decode cX12_harsh 44 = .ok (.iload 5, 2) := by decide +kernel
theorem dX12_harsh_46 : decode cX12_harsh 46 = .ok (.aload_n 0, 1) := by decide +kernel
theorem dX12_harsh_47 : decode cX12_harsh 47 = .ok (.iload_n 1, 1) := by decide +kernel
theorem dX12_harsh_48 : decode cX12_harsh 48 = .ok (.iload_n 2, 1) := by decide +kernel
theorem dX12_harsh_49 : decode cX12_harsh 49 = .ok (.iload_n 3, 1) := by decide +kernel
theorem dX12_harsh_50 : decode cX12_harsh 50 = .ok (.iload 4, 2) := by decide +kernel
theorem dX12_harsh_52 : decode cX12_harsh 52 = .ok (.iload 6, 2) := by decide +kernel
theorem dX12_harsh_54 : decode cX12_harsh 54 = .ok (.invokevirtual 441, 3) := by decide +kernel
theorem dX12_harsh_57 : decode cX12_harsh 57 = .ok (.ifCond .eq 10, 3) := by decide +kernel
theorem dX12_harsh_60 : decode cX12_harsh 60 = .ok (.iconst 1, 1) := by decide +kernel
theorem dX12_harsh_61 : decode cX12_harsh 61 = .ok (.iload 6, 2) := by decide +kernel
theorem dX12_harsh_63 : decode cX12_harsh 63 = .ok (.ishl, 1) := by decide +kernel
theorem dX12_harsh_64 : decode cX12_harsh 64 = .ok (.goto 4, 3) := by decide +kernel
theorem dX12_harsh_67 : decode cX12_harsh 67 = .ok (.iconst 0, 1) := by decide +kernel
theorem dX12_harsh_68 : decode cX12_harsh 68 = .ok (.ior, 1) := by decide +kernel
theorem dX12_harsh_69 : decode cX12_harsh 69 = .ok (.istore 5, 2) := by decide +kernel
theorem dX12_harsh_71 : decode cX12_harsh 71 = .ok (.iinc 6 1, 3) := by decide +kernel
theorem dX12_harsh_74 : decode cX12_harsh 74 = .ok (.goto (-36), 3) := by decide +kernel
theorem dX12_harsh_77 : decode cX12_harsh 77 = .ok (.iload 5, 2) := by decide +kernel
theorem dX12_harsh_79 : decode cX12_harsh 79 = .ok (.ireturn, 1) := by decide +kernel
theorem dX12_bits_0 : decode cX12_bits 0 = .ok (.iconst 0, 1) := by decide +kernel
theorem dX12_bits_1 : decode cX12_bits 1 = .ok (.istore_n 1, 1) := by decide +kernel
theorem dX12_bits_2 : decode cX12_bits 2 = .ok (.iload_n 0, 1) := by decide +kernel
theorem dX12_bits_3 : decode cX12_bits 3 = .ok (.istore_n 2, 1) := by decide +kernel
theorem dX12_bits_4 : decode cX12_bits 4 = .ok (.iload_n 2, 1) := by decide +kernel
theorem dX12_bits_5 : decode cX12_bits 5 = .ok (.ifCond .eq 15, 3) := by decide +kernel
theorem dX12_bits_8 : decode cX12_bits 8 = .ok (.iinc 1 1, 3) := by decide +kernel
theorem dX12_bits_11 : decode cX12_bits 11 = .ok (.iload_n 2, 1) := by decide +kernel
theorem dX12_bits_12 : decode cX12_bits 12 = .ok (.iload_n 2, 1) := by decide +kernel
theorem dX12_bits_13 : decode cX12_bits 13 = .ok (.iconst 1, 1) := by decide +kernel
theorem dX12_bits_14 : decode cX12_bits 14 = .ok (.isub, 1) := by decide +kernel
theorem dX12_bits_15 : decode cX12_bits 15 = .ok (.iand, 1) := by decide +kernel
theorem dX12_bits_16 : decode cX12_bits 16 = .ok (.istore_n 2, 1) := by decide +kernel
theorem dX12_bits_17 : decode cX12_bits 17 = .ok (.goto (-13), 3) := by decide +kernel
theorem dX12_bits_20 : decode cX12_bits 20 = .ok (.iload_n 1, 1) := by decide +kernel
theorem dX12_bits_21 : decode cX12_bits 21 = .ok (.ireturn, 1) := by decide +kernel
set_option maxRecDepth 20000 in
theorem ggX12_mend_X12_isCode : GoodIn wsX12_mend wsX12_isCode := goodIn_r _ [10, 11, 147, 148, 149, 150, 151, 152, 153, 154, 155, 156, 157, 158, 159, 160, 161, 162, 163, 164, 165, 166, 167, 168, 169, 170, 171, 172, 173, 174, 175, 176, 177, 178, 179, 180, 181, 182, 183, 184, 185, 186, 187, 188, 189, 190, 191, 192] (by decide +kernel) (by decide +kernel)
set_option maxRecDepth 20000 in
theorem gX12_mend_X12_isCode : GoodIn wsX12_mend (wsV RX12 286 RX12 yX12_isCode wsX12_isCode) := goodIn_app (goodIn_of _ (by decide +kernel)) ggX12_mend_X12_isCode
set_option maxRecDepth 20000 in
theorem ggX12_mend_X12_areTwo : GoodIn wsX12_mend wsX12_areTwo := goodIn_r _ [15, 16, 17, 18, 9, 19, 20, 147, 148, 149, 150, 151, 152, 153, 154, 155, 156, 157, 158, 159, 160, 161, 162, 163, 164, 165, 166, 167, 168, 169, 170, 171, 172, 173, 174, 175, 176, 177, 178, 179, 180, 181, 182, 183, 184, 185, 186, 187, 188, 189, 190, 191, 192] (by decide +kernel) (by decide +kernel)
set_option maxRecDepth 20000 in
theorem gX12_mend_X12_areTwo : GoodIn wsX12_mend (wsV RX12 107 RX12 yX12_areTwo wsX12_areTwo) := goodIn_app (goodIn_of _ (by decide +kernel)) ggX12_mend_X12_areTwo
set_option maxRecDepth 20000 in
theorem ggX12_mend_X12_in : GoodIn wsX12_mend wsX12_in := goodIn_r _ [23] (by decide +kernel) (by decide +kernel)
set_option maxRecDepth 20000 in
theorem gX12_mend_X12_in : GoodIn wsX12_mend (va_wsS RX12 97 yX12_in wsX12_in) := goodIn_app (goodIn_of _ (by decide +kernel)) ggX12_mend_X12_in
set_option maxRecDepth 20000 in
theorem ggX12_mend_X12_bits : GoodIn wsX12_mend wsX12_bits := goodIn_r _ [26] (by decide +kernel) (by decide +kernel)
set_option maxRecDepth 20000 in
theorem gX12_mend_X12_bits : GoodIn wsX12_mend (va_wsS RX12 445 yX12_bits wsX12_bits) := goodIn_app (goodIn_of _ (by decide +kernel)) ggX12_mend_X12_bits
set_option maxRecDepth 20000 in
theorem ggX12_mend_X12_endsInField : GoodIn wsX12_mend wsX12_endsInField := goodIn_r _ [30, 31, 32, 33, 9, 34, 35, 36, 37, 38, 39, 40, 41, 42, 43, 44, 45, 46, 47, 48, 49, 50, 51, 52, 53, 54, 55, 56, 57, 58, 59, 60, 61, 62, 63, 64, 65, 66, 67, 68, 3, 4, 5, 69, 70, 71, 72, 73, 74, 75, 76, 77, 78, 79, 80, 81, 82, 83, 84, 85, 86, 87, 88, 89, 90, 91, 92, 93, 94, 95, 96, 97, 98, 99, 100, 101, 102, 103, 104, 105, 106, 107, 108, 109, 110, 111, 112, 113, 114, 115, 116, 117, 118, 119, 120, 121, 122, 123, 124, 125, 126, 127, 128, 129, 130, 21, 22, 23, 131, 132, 133, 134, 135, 136, 137, 138, 139, 140, 141, 142, 143, 144, 145, 146, 147, 148, 149, 150, 151, 152, 153, 154, 155, 156, 157, 158, 159, 160, 161, 162, 163, 164, 165, 166, 167, 168, 169, 170, 171, 172, 173, 174, 175, 176, 177, 178, 179, 180, 181, 182, 183, 184, 185, 186, 187, 188, 189, 190, 191, 192] (by decide +kernel) (by decide +kernel)
set_option maxRecDepth 20000 in
theorem gX12_mend_X12_endsInField : GoodIn wsX12_mend (wsV RX12 441 RX12 yX12_endsInField wsX12_endsInField) := goodIn_app (goodIn_of _ (by decide +kernel)) ggX12_mend_X12_endsInField
theorem dX12_mend_0 : decode cX12_mend 0 = .ok (.aload_n 0, 1) := by decide +kernel
theorem dX12_mend_1 : decode cX12_mend 1 = .ok (.iload_n 1, 1) := by decide +kernel
theorem dX12_mend_2 : decode cX12_mend 2 = .ok (.invokevirtual 286, 3) := by decide +kernel
theorem dX12_mend_5 : decode cX12_mend 5 = .ok (.ifCond .eq 38, 3) := by decide +kernel
theorem dX12_mend_8 : decode cX12_mend 8 = .ok (.aload_n 0, 1) := by decide +kernel
theorem dX12_mend_9 : decode cX12_mend 9 = .ok (.iload_n 2, 1) := by decide +kernel
theorem dX12_mend_10 : decode cX12_mend 10 = .ok (.iload_n 3, 1) := by decide +kernel
theorem dX12_mend_11 : decode cX12_mend 11 = .ok (.invokevirtual 107, 3) := by decide +kernel
theorem dX12_mend_14 : decode cX12_mend 14 = .ok (.ifCond .eq 29, 3) := by decide +kernel
theorem dX12_mend_17 : decode cX12_mend 17 = .ok (.iload 4, 2) := by decide +kernel
theorem dX12_mend_19 : decode cX12_mend 19 = .ok (.i2l, 1) := by decide +kernel
theorem dX12_mend_20 : decode cX12_mend 20 = .ok (.lconst 0, 1) := by decide +kernel
theorem dX12_mend_21 : decode cX12_mend 21 = .ok (.ldc2_w 101, 3) := by decide +kernel
theorem dX12_mend_24 : decode cX12_mend 24 = .ok (.invokestatic 97, 3) := by decide +kernel
theorem dX12_mend_27 : decode cX12_mend 27 = .ok (.ifCond .eq 16, 3) := by decide +kernel
theorem dX12_mend_30 : decode cX12_mend 30 = .ok (.iload 5, 2) := by decide +kernel
theorem dX12_mend_32 : decode cX12_mend 32 = .ok (.i2l, 1) := by decide +kernel
theorem dX12_mend_33 : decode cX12_mend 33 = .ok (.lconst 0, 1) := by decide +kernel
theorem dX12_mend_34 : decode cX12_mend 34 = .ok (.ldc2_w 289, 3) := by decide +kernel
theorem dX12_mend_37 : decode cX12_mend 37 = .ok (.invokestatic 97, 3) := by decide +kernel
theorem dX12_mend_40 : decode cX12_mend 40 = .ok (.ifCond .ne 5, 3) := by decide +kernel
theorem dX12_mend_43 : decode cX12_mend 43 = .ok (.iconst (-1), 1) := by decide +kernel
theorem dX12_mend_44 : decode cX12_mend 44 = .ok (.ireturn, 1) := by decide +kernel
theorem dX12_mend_45 : decode cX12_mend 45 = .ok (.iconst 0, 1) := by decide +kernel
theorem dX12_mend_46 : decode cX12_mend 46 = .ok (.istore 6, 2) := by decide +kernel
theorem dX12_mend_48 : decode cX12_mend 48 = .ok (.iconst 0, 1) := by decide +kernel
theorem dX12_mend_49 : decode cX12_mend 49 = .ok (.istore 7, 2) := by decide +kernel
theorem dX12_mend_51 : decode cX12_mend 51 = .ok (.iload 7, 2) := by decide +kernel
theorem dX12_mend_53 : decode cX12_mend 53 = .ok (.aload_n 0, 1) := by decide +kernel
theorem dX12_mend_54 : decode cX12_mend 54 = .ok (.getfield 29, 3) := by decide +kernel
theorem dX12_mend_57 : decode cX12_mend 57 = .ok (.iload_n 1, 1) := by decide +kernel
theorem dX12_mend_58 : decode cX12_mend 58 = .ok (.iaload, 1) := by decide +kernel
theorem dX12_mend_59 : decode cX12_mend 59 = .ok (.if_icmp .ge 44, 3) := by decide +kernel
theorem dX12_mend_62 : decode cX12_mend 62 = .ok (.iload 6, 2) := by decide +kernel
theorem dX12_mend_64 : decode cX12_mend 64 = .ok (.aload_n 0, 1) := by decide +kernel
theorem dX12_mend_65 : decode cX12_mend 65 = .ok (.getfield 26, 3) := by decide +kernel
theorem dX12_mend_68 : decode cX12_mend 68 = .ok (.bipush 70, 2) := by decide +kernel
theorem dX12_mend_70 : decode cX12_mend 70 = .ok (.iload_n 1, 1) := by decide +kernel
theorem dX12_mend_71 : decode cX12_mend 71 = .ok (.imul, 1) := by decide +kernel
theorem dX12_mend_72 : decode cX12_mend 72 = .ok (.iconst 5, 1) := by decide +kernel
theorem dX12_mend_73 : decode cX12_mend 73 = .ok (.iload 7, 2) := by decide +kernel
theorem dX12_mend_75 : decode cX12_mend 75 = .ok (.imul, 1) := by decide +kernel
theorem dX12_mend_76 : decode cX12_mend 76 = .ok (.iadd, 1) := by decide +kernel
theorem dX12_mend_77 : decode cX12_mend 77 = .ok (.iaload, 1) := by decide +kernel
theorem dX12_mend_78 : decode cX12_mend 78 = .ok (.iconst 1, 1) := by decide +kernel
theorem dX12_mend_79 : decode cX12_mend 79 = .ok (.if_icmp .ne 14, 3) := by decide +kernel
theorem dX12_mend_82 : decode cX12_mend 82 = .ok (.iload 6, 2) := by decide +kernel
theorem dX12_mend_84 : decode cX12_mend 84 = .ok (.bipush 6, 2) := by decide +kernel
theorem dX12_mend_86 : decode cX12_mend 86 = .ok (.if_icmp .ge 7, 3) := by decide +kernel
theorem dX12_mend_89 : decode cX12_mend 89 = .ok (.iconst 1, 1) := by decide +kernel
theorem dX12_mend_90 : decode cX12_mend 90 = .ok (.goto 4, 3) := by decide +kernel
theorem dX12_mend_93 : decode cX12_mend 93 = .ok (.iconst 0, 1) := by decide +kernel
theorem dX12_mend_94 : decode cX12_mend 94 = .ok (.iadd, 1) := by decide +kernel
theorem dX12_mend_95 : decode cX12_mend 95 = .ok (.istore 6, 2) := by decide +kernel
theorem dX12_mend_97 : decode cX12_mend 97 = .ok (.iinc 7 1, 3) := by decide +kernel
theorem dX12_mend_100 : decode cX12_mend 100 = .ok (.goto (-49), 3) := by decide +kernel
theorem dX12_mend_103 : decode cX12_mend 103 = .ok (.bipush (-2), 2) := by decide +kernel
theorem dX12_mend_105 : decode cX12_mend 105 = .ok (.istore 7, 2) := by decide +kernel
theorem dX12_mend_107 : decode cX12_mend 107 = .ok (.iconst 0, 1) := by decide +kernel
theorem dX12_mend_108 : decode cX12_mend 108 = .ok (.istore 8, 2) := by decide +kernel
theorem dX12_mend_110 : decode cX12_mend 110 = .ok (.iload 8, 2) := by decide +kernel
theorem dX12_mend_112 : decode cX12_mend 112 = .ok (.iconst 1, 1) := by decide +kernel
theorem dX12_mend_113 : decode cX12_mend 113 = .ok (.iload 6, 2) := by decide +kernel
theorem dX12_mend_115 : decode cX12_mend 115 = .ok (.ishl, 1) := by decide +kernel
theorem dX12_mend_116 : decode cX12_mend 116 = .ok (.if_icmp .ge 54, 3) := by decide +kernel
theorem dX12_mend_119 : decode cX12_mend 119 = .ok (.iload 7, 2) := by decide +kernel
theorem dX12_mend_121 : decode cX12_mend 121 = .ok (.ifCond .lt 19, 3) := by decide +kernel
theorem dX12_mend_124 : decode cX12_mend 124 = .ok (.iload 8, 2) := by decide +kernel
theorem dX12_mend_126 : decode cX12_mend 126 = .ok (.invokestatic 445, 3) := by decide +kernel
theorem dX12_mend_129 : decode cX12_mend 129 = .ok (.iload 7, 2) := by decide +kernel
theorem dX12_mend_131 : decode cX12_mend 131 = .ok (.invokestatic 445, 3) := by decide +kernel
theorem dX12_mend_134 : decode cX12_mend 134 = .ok (.if_icmp .lt 6, 3) := by decide +kernel
theorem dX12_mend_137 : decode cX12_mend 137 = .ok (.goto 27, 3) := by decide +kernel
theorem dX12_mend_140 : decode cX12_mend 140 = .ok (.aload_n 0, 1) := by decide +kernel
theorem dX12_mend_141 : decode cX12_mend 141 = .ok (.iload 8, 2) := by decide +kernel
theorem dX12_mend_143 : decode cX12_mend 143 = .ok (.putfield 304, 3) := by decide +kernel
theorem dX12_mend_146 : decode cX12_mend 146 = .ok (.aload_n 0, 1) := by decide +kernel
theorem dX12_mend_147 : decode cX12_mend 147 = .ok (.iload_n 1, 1) := by decide +kernel
theorem dX12_mend_148 : decode cX12_mend 148 = .ok (.iload_n 2, 1) := by decide +kernel
theorem dX12_mend_149 : decode cX12_mend 149 = .ok (.iload_n 3, 1) := by decide +kernel
theorem dX12_mend_150 : decode cX12_mend 150 = .ok (.iload 4, 2) := by decide +kernel
theorem dX12_mend_152 : decode cX12_mend 152 = .ok (.iload 5, 2) := by decide +kernel
theorem dX12_mend_154 : decode cX12_mend 154 = .ok (.invokevirtual 441, 3) := by decide +kernel
theorem dX12_mend_157 : decode cX12_mend 157 = .ok (.ifCond .ne 7, 3) := by decide +kernel
theorem dX12_mend_160 : decode cX12_mend 160 = .ok (.iload 8, 2) := by decide +kernel
theorem dX12_mend_162 : decode cX12_mend 162 = .ok (.istore 7, 2) := by decide +kernel
theorem dX12_mend_164 : decode cX12_mend 164 = .ok (.iinc 8 1, 3) := by decide +kernel
theorem dX12_mend_167 : decode cX12_mend 167 = .ok (.goto (-57), 3) := by decide +kernel
theorem dX12_mend_170 : decode cX12_mend 170 = .ok (.aload_n 0, 1) := by decide +kernel
theorem dX12_mend_171 : decode cX12_mend 171 = .ok (.iconst 0, 1) := by decide +kernel
theorem dX12_mend_172 : decode cX12_mend 172 = .ok (.putfield 304, 3) := by decide +kernel
theorem dX12_mend_175 : decode cX12_mend 175 = .ok (.iload 7, 2) := by decide +kernel
theorem dX12_mend_177 : decode cX12_mend 177 = .ok (.ireturn, 1) := by decide +kernel
set_option maxRecDepth 20000 in
theorem ggX12_image_X12_in : GoodIn wsX12_image wsX12_in := goodIn_r _ [12] (by decide +kernel) (by decide +kernel)
set_option maxRecDepth 20000 in
theorem gX12_image_X12_in : GoodIn wsX12_image (va_wsS RX12 97 yX12_in wsX12_in) := goodIn_app (goodIn_of _ (by decide +kernel)) ggX12_image_X12_in
theorem dX12_image_0 : decode cX12_image 0 = .ok (.iload_n 1, 1) := by decide +kernel
theorem dX12_image_1 : decode cX12_image 1 = .ok (.i2l, 1) := by decide +kernel
theorem dX12_image_2 : decode cX12_image 2 = .ok (.lconst 0, 1) := by decide +kernel
theorem dX12_image_3 : decode cX12_image 3 = .ok (.ldc2_w 289, 3) := by decide +kernel
theorem dX12_image_6 : decode cX12_image 6 = .ok (.invokestatic 97, 3) := by decide +kernel
theorem dX12_image_9 : decode cX12_image 9 = .ok (.ifCond .ne 5, 3) := by decide +kernel
theorem dX12_image_12 : decode cX12_image 12 = .ok (.iconst (-1), 1) := by decide +kernel
theorem dX12_image_13 : decode cX12_image 13 = .ok (.ireturn, 1) := by decide +kernel
theorem dX12_image_14 : decode cX12_image 14 = .ok (.aload_n 0, 1) := by decide +kernel
theorem dX12_image_15 : decode cX12_image 15 = .ok (.getfield 88, 3) := by decide +kernel
theorem dX12_image_18 : decode cX12_image 18 = .ok (.iload_n 1, 1) := by decide +kernel
theorem dX12_image_19 : decode cX12_image 19 = .ok (.iconst 1, 1) := by decide +kernel
theorem dX12_image_20 : decode cX12_image 20 = .ok (.bastore, 1) := by decide +kernel
theorem dX12_image_21 : decode cX12_image 21 = .ok (.sipush 1730, 3) := by decide +kernel
theorem dX12_image_24 : decode cX12_image 24 = .ok (.iload_n 1, 1) := by decide +kernel
theorem dX12_image_25 : decode cX12_image 25 = .ok (.imul, 1) := by decide +kernel
theorem dX12_image_26 : decode cX12_image 26 = .ok (.istore_n 2, 1) := by decide +kernel
theorem dX12_image_27 : decode cX12_image 27 = .ok (.aload_n 0, 1) := by decide +kernel
theorem dX12_image_28 : decode cX12_image 28 = .ok (.getfield 85, 3) := by decide +kernel
theorem dX12_image_31 : decode cX12_image 31 = .ok (.iload_n 2, 1) := by decide +kernel
theorem dX12_image_32 : decode cX12_image 32 = .ok (.aload_n 0, 1) := by decide +kernel
theorem dX12_image_33 : decode cX12_image 33 = .ok (.getfield 91, 3) := by decide +kernel
theorem dX12_image_36 : decode cX12_image 36 = .ok (.iastore, 1) := by decide +kernel
theorem dX12_image_37 : decode cX12_image 37 = .ok (.aload_n 0, 1) := by decide +kernel
theorem dX12_image_38 : decode cX12_image 38 = .ok (.getfield 85, 3) := by decide +kernel
theorem dX12_image_41 : decode cX12_image 41 = .ok (.iload_n 2, 1) := by decide +kernel
theorem dX12_image_42 : decode cX12_image 42 = .ok (.iconst 1, 1) := by decide +kernel
theorem dX12_image_43 : decode cX12_image 43 = .ok (.iadd, 1) := by decide +kernel
theorem dX12_image_44 : decode cX12_image 44 = .ok (.aload_n 0, 1) := by decide +kernel
theorem dX12_image_45 : decode cX12_image 45 = .ok (.getfield 389, 3) := by decide +kernel
theorem dX12_image_48 : decode cX12_image 48 = .ok (.iastore, 1) := by decide +kernel
theorem dX12_image_49 : decode cX12_image 49 = .ok (.iconst 0, 1) := by decide +kernel
theorem dX12_image_50 : decode cX12_image 50 = .ok (.istore_n 3, 1) := by decide +kernel
theorem dX12_image_51 : decode cX12_image 51 = .ok (.iload_n 3, 1) := by decide +kernel
theorem dX12_image_52 : decode cX12_image 52 = .ok (.bipush 48, 2) := by decide +kernel
theorem dX12_image_54 : decode cX12_image 54 = .ok (.if_icmp .ge 25, 3) := by decide +kernel
theorem dX12_image_57 : decode cX12_image 57 = .ok (.aload_n 0, 1) := by decide +kernel
theorem dX12_image_58 : decode cX12_image 58 = .ok (.getfield 85, 3) := by decide +kernel
theorem dX12_image_61 : decode cX12_image 61 = .ok (.iload_n 2, 1) := by decide +kernel
theorem dX12_image_62 : decode cX12_image 62 = .ok (.iconst 2, 1) := by decide +kernel
theorem dX12_image_63 : decode cX12_image 63 = .ok (.iadd, 1) := by decide +kernel
theorem dX12_image_64 : decode cX12_image 64 = .ok (.iload_n 3, 1) := by decide +kernel
theorem dX12_image_65 : decode cX12_image 65 = .ok (.iadd, 1) := by decide +kernel
theorem dX12_image_66 : decode cX12_image 66 = .ok (.aload_n 0, 1) := by decide +kernel
theorem dX12_image_67 : decode cX12_image 67 = .ok (.getfield 7, 3) := by decide +kernel
theorem dX12_image_70 : decode cX12_image 70 = .ok (.iload_n 3, 1) := by decide +kernel
theorem dX12_image_71 : decode cX12_image 71 = .ok (.iaload, 1) := by decide +kernel
theorem dX12_image_72 : decode cX12_image 72 = .ok (.iastore, 1) := by decide +kernel
theorem dX12_image_73 : decode cX12_image 73 = .ok (.iinc 3 1, 3) := by decide +kernel
theorem dX12_image_76 : decode cX12_image 76 = .ok (.goto (-25), 3) := by decide +kernel
theorem dX12_image_79 : decode cX12_image 79 = .ok (.iconst 0, 1) := by decide +kernel
theorem dX12_image_80 : decode cX12_image 80 = .ok (.istore_n 3, 1) := by decide +kernel
theorem dX12_image_81 : decode cX12_image 81 = .ok (.iload_n 3, 1) := by decide +kernel
theorem dX12_image_82 : decode cX12_image 82 = .ok (.sipush 144, 3) := by decide +kernel
theorem dX12_image_85 : decode cX12_image 85 = .ok (.if_icmp .ge 26, 3) := by decide +kernel
theorem dX12_image_88 : decode cX12_image 88 = .ok (.aload_n 0, 1) := by decide +kernel
theorem dX12_image_89 : decode cX12_image 89 = .ok (.getfield 85, 3) := by decide +kernel
theorem dX12_image_92 : decode cX12_image 92 = .ok (.iload_n 2, 1) := by decide +kernel
theorem dX12_image_93 : decode cX12_image 93 = .ok (.bipush 50, 2) := by decide +kernel
theorem dX12_image_95 : decode cX12_image 95 = .ok (.iadd, 1) := by decide +kernel
theorem dX12_image_96 : decode cX12_image 96 = .ok (.iload_n 3, 1) := by decide +kernel
theorem dX12_image_97 : decode cX12_image 97 = .ok (.iadd, 1) := by decide +kernel
theorem dX12_image_98 : decode cX12_image 98 = .ok (.aload_n 0, 1) := by decide +kernel
theorem dX12_image_99 : decode cX12_image 99 = .ok (.getfield 13, 3) := by decide +kernel
theorem dX12_image_102 : decode cX12_image 102 = .ok (.iload_n 3, 1) := by decide +kernel
theorem dX12_image_103 : decode cX12_image 103 = .ok (.iaload, 1) := by decide +kernel
theorem dX12_image_104 : decode cX12_image 104 = .ok (.iastore, 1) := by decide +kernel
theorem dX12_image_105 : decode cX12_image 105 = .ok (.iinc 3 1, 3) := by decide +kernel
theorem dX12_image_108 : decode cX12_image 108 = .ok (.goto (-27), 3) := by decide +kernel
theorem dX12_image_111 : decode cX12_image 111 = .ok (.iconst 0, 1) := by decide +kernel
theorem dX12_image_112 : decode cX12_image 112 = .ok (.istore_n 3, 1) := by decide +kernel
theorem dX12_image_113 : decode cX12_image 113 = .ok (.iload_n 3, 1) := by decide +kernel
theorem dX12_image_114 : decode cX12_image 114 = .ok (.sipush 1536, 3) := by decide +kernel
theorem dX12_image_117 : decode cX12_image 117 = .ok (.if_icmp .ge 27, 3) := by decide +kernel
theorem dX12_image_120 : decode cX12_image 120 = .ok (.aload_n 0, 1) := by decide +kernel
theorem dX12_image_121 : decode cX12_image 121 = .ok (.getfield 85, 3) := by decide +kernel
theorem dX12_image_124 : decode cX12_image 124 = .ok (.iload_n 2, 1) := by decide +kernel
theorem dX12_image_125 : decode cX12_image 125 = .ok (.sipush 194, 3) := by decide +kernel
theorem dX12_image_128 : decode cX12_image 128 = .ok (.iadd, 1) := by decide +kernel
theorem dX12_image_129 : decode cX12_image 129 = .ok (.iload_n 3, 1) := by decide +kernel
theorem dX12_image_130 : decode cX12_image 130 = .ok (.iadd, 1) := by decide +kernel
theorem dX12_image_131 : decode cX12_image 131 = .ok (.aload_n 0, 1) := by decide +kernel
theorem dX12_image_132 : decode cX12_image 132 = .ok (.getfield 82, 3) := by decide +kernel
theorem dX12_image_135 : decode cX12_image 135 = .ok (.iload_n 3, 1) := by decide +kernel
theorem dX12_image_136 : decode cX12_image 136 = .ok (.iaload, 1) := by decide +kernel
theorem dX12_image_137 : decode cX12_image 137 = .ok (.iastore, 1) := by decide +kernel
theorem dX12_image_138 : decode cX12_image 138 = .ok (.iinc 3 1, 3) := by decide +kernel
theorem dX12_image_141 : decode cX12_image 141 = .ok (.goto (-28), 3) := by decide +kernel
theorem dX12_image_144 : decode cX12_image 144 = .ok (.aload_n 0, 1) := by decide +kernel
theorem dX12_image_145 : decode cX12_image 145 = .ok (.getfield 389, 3) := by decide +kernel
theorem dX12_image_148 : decode cX12_image 148 = .ok (.ireturn, 1) := by decide +kernel
set_option maxRecDepth 20000 in
theorem ggX12_back_X12_in : GoodIn wsX12_back wsX12_in := goodIn_r _ [12] (by decide +kernel) (by decide +kernel)
set_option maxRecDepth 20000 in
theorem gX12_back_X12_in : GoodIn wsX12_back (va_wsS RX12 97 yX12_in wsX12_in) := goodIn_app (goodIn_of _ (by decide +kernel)) ggX12_back_X12_in
theorem dX12_back_0 : decode cX12_back 0 = .ok (.iload_n 1, 1) := by decide +kernel
theorem dX12_back_1 : decode cX12_back 1 = .ok (.i2l, 1) := by decide +kernel
theorem dX12_back_2 : decode cX12_back 2 = .ok (.lconst 0, 1) := by decide +kernel
theorem dX12_back_3 : decode cX12_back 3 = .ok (.ldc2_w 289, 3) := by decide +kernel
theorem dX12_back_6 : decode cX12_back 6 = .ok (.invokestatic 97, 3) := by decide +kernel
theorem dX12_back_9 : decode cX12_back 9 = .ok (.ifCond .eq 12, 3) := by decide +kernel
theorem dX12_back_12 : decode cX12_back 12 = .ok (.aload_n 0, 1) := by decide +kernel
theorem dX12_back_13 : decode cX12_back 13 = .ok (.getfield 88, 3) := by decide +kernel
theorem dX12_back_16 : decode cX12_back 16 = .ok (.iload_n 1, 1) := by decide +kernel
theorem dX12_back_17 : decode cX12_back 17 = .ok (.baload, 1) := by decide +kernel
theorem dX12_back_18 : decode cX12_back 18 = .ok (.ifCond .ne 5, 3) := by decide +kernel
theorem dX12_back_21 : decode cX12_back 21 = .ok (.iconst (-1), 1) := by decide +kernel
theorem dX12_back_22 : decode cX12_back 22 = .ok (.ireturn, 1) := by decide +kernel
theorem dX12_back_23 : decode cX12_back 23 = .ok (.sipush 1730, 3) := by decide +kernel
theorem dX12_back_26 : decode cX12_back 26 = .ok (.iload_n 1, 1) := by decide +kernel
theorem dX12_back_27 : decode cX12_back 27 = .ok (.imul, 1) := by decide +kernel
theorem dX12_back_28 : decode cX12_back 28 = .ok (.istore_n 2, 1) := by decide +kernel
theorem dX12_back_29 : decode cX12_back 29 = .ok (.aload_n 0, 1) := by decide +kernel
theorem dX12_back_30 : decode cX12_back 30 = .ok (.aload_n 0, 1) := by decide +kernel
theorem dX12_back_31 : decode cX12_back 31 = .ok (.getfield 85, 3) := by decide +kernel
theorem dX12_back_34 : decode cX12_back 34 = .ok (.iload_n 2, 1) := by decide +kernel
theorem dX12_back_35 : decode cX12_back 35 = .ok (.iaload, 1) := by decide +kernel
theorem dX12_back_36 : decode cX12_back 36 = .ok (.putfield 91, 3) := by decide +kernel
theorem dX12_back_39 : decode cX12_back 39 = .ok (.aload_n 0, 1) := by decide +kernel
theorem dX12_back_40 : decode cX12_back 40 = .ok (.aload_n 0, 1) := by decide +kernel
theorem dX12_back_41 : decode cX12_back 41 = .ok (.getfield 85, 3) := by decide +kernel
theorem dX12_back_44 : decode cX12_back 44 = .ok (.iload_n 2, 1) := by decide +kernel
theorem dX12_back_45 : decode cX12_back 45 = .ok (.iconst 1, 1) := by decide +kernel
theorem dX12_back_46 : decode cX12_back 46 = .ok (.iadd, 1) := by decide +kernel
theorem dX12_back_47 : decode cX12_back 47 = .ok (.iaload, 1) := by decide +kernel
theorem dX12_back_48 : decode cX12_back 48 = .ok (.putfield 389, 3) := by decide +kernel
theorem dX12_back_51 : decode cX12_back 51 = .ok (.iconst 0, 1) := by decide +kernel
theorem dX12_back_52 : decode cX12_back 52 = .ok (.istore_n 3, 1) := by decide +kernel
theorem dX12_back_53 : decode cX12_back 53 = .ok (.iload_n 3, 1) := by decide +kernel
theorem dX12_back_54 : decode cX12_back 54 = .ok (.bipush 48, 2) := by decide +kernel
theorem dX12_back_56 : decode cX12_back 56 = .ok (.if_icmp .ge 25, 3) := by decide +kernel
theorem dX12_back_59 : decode cX12_back 59 = .ok (.aload_n 0, 1) := by decide +kernel
theorem dX12_back_60 : decode cX12_back 60 = .ok (.getfield 7, 3) := by decide +kernel
theorem dX12_back_63 : decode cX12_back 63 = .ok (.iload_n 3, 1) := by decide +kernel
theorem dX12_back_64 : decode cX12_back 64 = .ok (.aload_n 0, 1) := by decide +kernel
theorem dX12_back_65 : decode cX12_back 65 = .ok (.getfield 85, 3) := by decide +kernel
theorem dX12_back_68 : decode cX12_back 68 = .ok (.iload_n 2, 1) := by decide +kernel
theorem dX12_back_69 : decode cX12_back 69 = .ok (.iconst 2, 1) := by decide +kernel
theorem dX12_back_70 : decode cX12_back 70 = .ok (.iadd, 1) := by decide +kernel
theorem dX12_back_71 : decode cX12_back 71 = .ok (.iload_n 3, 1) := by decide +kernel
theorem dX12_back_72 : decode cX12_back 72 = .ok (.iadd, 1) := by decide +kernel
theorem dX12_back_73 : decode cX12_back 73 = .ok (.iaload, 1) := by decide +kernel
theorem dX12_back_74 : decode cX12_back 74 = .ok (.iastore, 1) := by decide +kernel
theorem dX12_back_75 : decode cX12_back 75 = .ok (.iinc 3 1, 3) := by decide +kernel
theorem dX12_back_78 : decode cX12_back 78 = .ok (.goto (-25), 3) := by decide +kernel
theorem dX12_back_81 : decode cX12_back 81 = .ok (.iconst 0, 1) := by decide +kernel
theorem dX12_back_82 : decode cX12_back 82 = .ok (.istore_n 3, 1) := by decide +kernel
theorem dX12_back_83 : decode cX12_back 83 = .ok (.iload_n 3, 1) := by decide +kernel
theorem dX12_back_84 : decode cX12_back 84 = .ok (.sipush 144, 3) := by decide +kernel
theorem dX12_back_87 : decode cX12_back 87 = .ok (.if_icmp .ge 26, 3) := by decide +kernel
theorem dX12_back_90 : decode cX12_back 90 = .ok (.aload_n 0, 1) := by decide +kernel
theorem dX12_back_91 : decode cX12_back 91 = .ok (.getfield 13, 3) := by decide +kernel
theorem dX12_back_94 : decode cX12_back 94 = .ok (.iload_n 3, 1) := by decide +kernel
theorem dX12_back_95 : decode cX12_back 95 = .ok (.aload_n 0, 1) := by decide +kernel
theorem dX12_back_96 : decode cX12_back 96 = .ok (.getfield 85, 3) := by decide +kernel
theorem dX12_back_99 : decode cX12_back 99 = .ok (.iload_n 2, 1) := by decide +kernel
theorem dX12_back_100 : decode cX12_back 100 = .ok (.bipush 50, 2) := by decide +kernel
theorem dX12_back_102 : decode cX12_back 102 = .ok (.iadd, 1) := by decide +kernel
theorem dX12_back_103 : decode cX12_back 103 = .ok (.iload_n 3, 1) := by decide +kernel
theorem dX12_back_104 : decode cX12_back 104 = .ok (.iadd, 1) := by decide +kernel
theorem dX12_back_105 : decode cX12_back 105 = .ok (.iaload, 1) := by decide +kernel
theorem dX12_back_106 : decode cX12_back 106 = .ok (.iastore, 1) := by decide +kernel
theorem dX12_back_107 : decode cX12_back 107 = .ok (.iinc 3 1, 3) := by decide +kernel
theorem dX12_back_110 : decode cX12_back 110 = .ok (.goto (-27), 3) := by decide +kernel
theorem dX12_back_113 : decode cX12_back 113 = .ok (.iconst 0, 1) := by decide +kernel
theorem dX12_back_114 : decode cX12_back 114 = .ok (.istore_n 3, 1) := by decide +kernel
theorem dX12_back_115 : decode cX12_back 115 = .ok (.iload_n 3, 1) := by decide +kernel
theorem dX12_back_116 : decode cX12_back 116 = .ok (.sipush 1536, 3) := by decide +kernel
theorem dX12_back_119 : decode cX12_back 119 = .ok (.if_icmp .ge 27, 3) := by decide +kernel
theorem dX12_back_122 : decode cX12_back 122 = .ok (.aload_n 0, 1) := by decide +kernel
theorem dX12_back_123 : decode cX12_back 123 = .ok (.getfield 82, 3) := by decide +kernel
theorem dX12_back_126 : decode cX12_back 126 = .ok (.iload_n 3, 1) := by decide +kernel
theorem dX12_back_127 : decode cX12_back 127 = .ok (.aload_n 0, 1) := by decide +kernel
theorem dX12_back_128 : decode cX12_back 128 = .ok (.getfield 85, 3) := by decide +kernel
theorem dX12_back_131 : decode cX12_back 131 = .ok (.iload_n 2, 1) := by decide +kernel
theorem dX12_back_132 : decode cX12_back 132 = .ok (.sipush 194, 3) := by decide +kernel
theorem dX12_back_135 : decode cX12_back 135 = .ok (.iadd, 1) := by decide +kernel
theorem dX12_back_136 : decode cX12_back 136 = .ok (.iload_n 3, 1) := by decide +kernel
theorem dX12_back_137 : decode cX12_back 137 = .ok (.iadd, 1) := by decide +kernel
theorem dX12_back_138 : decode cX12_back 138 = .ok (.iaload, 1) := by decide +kernel
theorem dX12_back_139 : decode cX12_back 139 = .ok (.iastore, 1) := by decide +kernel
theorem dX12_back_140 : decode cX12_back 140 = .ok (.iinc 3 1, 3) := by decide +kernel
theorem dX12_back_143 : decode cX12_back 143 = .ok (.goto (-28), 3) := by decide +kernel
theorem dX12_back_146 : decode cX12_back 146 = .ok (.aload_n 0, 1) := by decide +kernel
theorem dX12_back_147 : decode cX12_back 147 = .ok (.getfield 389, 3) := by decide +kernel
theorem dX12_back_150 : decode cX12_back 150 = .ok (.ireturn, 1) := by decide +kernel
set_option maxRecDepth 20000 in
theorem ggX12_count_X12_isOn : GoodIn wsX12_count wsX12_isOn := goodIn_r _ [9, 10, 11, 12, 13, 14, 15, 16, 17, 18, 19, 20, 21, 22, 23, 24, 25, 26, 27, 28, 29, 30, 31, 32, 33, 34, 35, 36, 37, 38, 39, 40, 41, 42, 43, 44, 45, 46, 47, 48, 49, 50, 51, 52, 53, 54, 55, 56] (by decide +kernel) (by decide +kernel)
set_option maxRecDepth 20000 in
theorem gX12_count_X12_isOn : GoodIn wsX12_count (wsV RX12 432 RX12 yX12_isOn wsX12_isOn) := goodIn_app (goodIn_of _ (by decide +kernel)) ggX12_count_X12_isOn
theorem dX12_count_0 : decode cX12_count 0 = .ok (.iconst 0, 1) := by decide +kernel
theorem dX12_count_1 : decode cX12_count 1 = .ok (.istore_n 2, 1) := by decide +kernel
theorem dX12_count_2 : decode cX12_count 2 = .ok (.iconst 0, 1) := by decide +kernel
theorem dX12_count_3 : decode cX12_count 3 = .ok (.istore_n 3, 1) := by decide +kernel
theorem dX12_count_4 : decode cX12_count 4 = .ok (.iload_n 3, 1) := by decide +kernel
theorem dX12_count_5 : decode cX12_count 5 = .ok (.aload_n 0, 1) := by decide +kernel
theorem dX12_count_6 : decode cX12_count 6 = .ok (.getfield 389, 3) := by decide +kernel
theorem dX12_count_9 : decode cX12_count 9 = .ok (.if_icmp .ge 25, 3) := by decide +kernel
theorem dX12_count_12 : decode cX12_count 12 = .ok (.iload_n 2, 1) := by decide +kernel
theorem dX12_count_13 : decode cX12_count 13 = .ok (.aload_n 0, 1) := by decide +kernel
theorem dX12_count_14 : decode cX12_count 14 = .ok (.iload_n 3, 1) := by decide +kernel
theorem dX12_count_15 : decode cX12_count 15 = .ok (.invokevirtual 432, 3) := by decide +kernel
theorem dX12_count_18 : decode cX12_count 18 = .ok (.ifCond .eq 7, 3) := by decide +kernel
theorem dX12_count_21 : decode cX12_count 21 = .ok (.iconst 1, 1) := by decide +kernel
theorem dX12_count_22 : decode cX12_count 22 = .ok (.goto 4, 3) := by decide +kernel
theorem dX12_count_25 : decode cX12_count 25 = .ok (.iconst 0, 1) := by decide +kernel
theorem dX12_count_26 : decode cX12_count 26 = .ok (.iadd, 1) := by decide +kernel
theorem dX12_count_27 : decode cX12_count 27 = .ok (.istore_n 2, 1) := by decide +kernel
theorem dX12_count_28 : decode cX12_count 28 = .ok (.iinc 3 1, 3) := by decide +kernel
theorem dX12_count_31 : decode cX12_count 31 = .ok (.goto (-27), 3) := by decide +kernel
theorem dX12_count_34 : decode cX12_count 34 = .ok (.iload_n 1, 1) := by decide +kernel
theorem dX12_count_35 : decode cX12_count 35 = .ok (.tableswitch 55 0 4 #[33, 38, 43, 48, 50], 33) := by decide +kernel
theorem dX12_count_68 : decode cX12_count 68 = .ok (.aload_n 0, 1) := by decide +kernel
theorem dX12_count_69 : decode cX12_count 69 = .ok (.getfield 91, 3) := by decide +kernel
theorem dX12_count_72 : decode cX12_count 72 = .ok (.ireturn, 1) := by decide +kernel
theorem dX12_count_73 : decode cX12_count 73 = .ok (.aload_n 0, 1) := by decide +kernel
theorem dX12_count_74 : decode cX12_count 74 = .ok (.getfield 280, 3) := by decide +kernel
theorem dX12_count_77 : decode cX12_count 77 = .ok (.ireturn, 1) := by decide +kernel
theorem dX12_count_78 : decode cX12_count 78 = .ok (.aload_n 0, 1) := by decide +kernel
theorem dX12_count_79 : decode cX12_count 79 = .ok (.getfield 389, 3) := by decide +kernel
theorem dX12_count_82 : decode cX12_count 82 = .ok (.ireturn, 1) := by decide +kernel
theorem dX12_count_83 : decode cX12_count 83 = .ok (.iload_n 2, 1) := by decide +kernel
theorem dX12_count_84 : decode cX12_count 84 = .ok (.ireturn, 1) := by decide +kernel
theorem dX12_count_85 : decode cX12_count 85 = .ok (.aload_n 0, 1) := by decide +kernel
theorem dX12_count_86 : decode cX12_count 86 = .ok (.getfield 111, 3) := by decide +kernel
theorem dX12_count_89 : decode cX12_count 89 = .ok (.ireturn, 1) := by decide +kernel
theorem dX12_count_90 : decode cX12_count 90 = .ok (.iconst (-1), 1) := by decide +kernel
theorem dX12_count_91 : decode cX12_count 91 = .ok (.ireturn, 1) := by decide +kernel
