theorem dX12_kinded_67 : decode cX12_kinded 67 = .ok (.getfield 144, 3) := by decide +kernel
theorem dX12_kinded_70 : decode cX12_kinded 70 = .ok (.istore 4, 2) := by decide +kernel
theorem dX12_kinded_72 : decode cX12_kinded 72 = .ok (.aload_n 0, 1) := by decide +kernel
theorem dX12_kinded_73 : decode cX12_kinded 73 = .ok (.iload_n 1, 1) := by decide +kernel
theorem dX12_kinded_74 : decode cX12_kinded 74 = .ok (.iload_n 3, 1) := by decide +kernel
theorem dX12_kinded_75 : decode cX12_kinded 75 = .ok (.iload 4, 2) := by decide +kernel
theorem dX12_kinded_77 : decode cX12_kinded 77 = .ok (.aload_n 0, 1) := by decide +kernel
theorem dX12_kinded_78 : decode cX12_kinded 78 = .ok (.ldc2_w 252, 3) := by decide +kernel
theorem dX12_kinded_81 : decode cX12_kinded 81 = .ok (.invokevirtual 254, 3) := by decide +kernel
theorem dX12_kinded_84 : decode cX12_kinded 84 = .ok (.invokevirtual 257, 3) := by decide +kernel
theorem dX12_kinded_87 : decode cX12_kinded 87 = .ok (.ireturn, 1) := by decide +kernel
theorem dX12_sets_0 : decode cX12_sets 0 = .ok (.aload_n 1, 1) := by decide +kernel
theorem dX12_sets_1 : decode cX12_sets 1 = .ok (.aload_n 0, 1) := by decide +kernel
theorem dX12_sets_2 : decode cX12_sets 2 = .ok (.getfield 183, 3) := by decide +kernel
theorem dX12_sets_5 : decode cX12_sets 5 = .ok (.iaload, 1) := by decide +kernel
theorem dX12_sets_6 : decode cX12_sets 6 = .ok (.ifCond .lt 11, 3) := by decide +kernel
theorem dX12_sets_9 : decode cX12_sets 9 = .ok (.aload_n 0, 1) := by decide +kernel
theorem dX12_sets_10 : decode cX12_sets 10 = .ok (.iconst 4, 1) := by decide +kernel
theorem dX12_sets_11 : decode cX12_sets 11 = .ok (.iload 4, 2) := by decide +kernel
theorem dX12_sets_13 : decode cX12_sets 13 = .ok (.invokevirtual 141, 3) := by decide +kernel
theorem dX12_sets_16 : decode cX12_sets 16 = .ok (.ireturn, 1) := by decide +kernel
theorem dX12_sets_17 : decode cX12_sets 17 = .ok (.aload_n 0, 1) := by decide +kernel
theorem dX12_sets_18 : decode cX12_sets 18 = .ok (.invokevirtual 135, 3) := by decide +kernel
theorem dX12_sets_21 : decode cX12_sets 21 = .ok (.aload_n 0, 1) := by decide +kernel
theorem dX12_sets_22 : decode cX12_sets 22 = .ok (.iload_n 2, 1) := by decide +kernel
theorem dX12_sets_23 : decode cX12_sets 23 = .ok (.iload_n 3, 1) := by decide +kernel
theorem dX12_sets_24 : decode cX12_sets 24 = .ok (.invokevirtual 189, 3) := by decide +kernel
theorem dX12_sets_27 : decode cX12_sets 27 = .ok (.ifCond .ne 5, 3) := by decide +kernel
theorem dX12_sets_30 : decode cX12_sets 30 = .ok (.iconst 0, 1) := by decide +kernel
theorem dX12_sets_31 : decode cX12_sets 31 = .ok (.ireturn, 1) := by decide +kernel
theorem dX12_sets_32 : decode cX12_sets 32 = .ok (.aload_n 1, 1) := by decide +kernel
theorem dX12_sets_33 : decode cX12_sets 33 = .ok (.aload_n 0, 1) := by decide +kernel
theorem dX12_sets_34 : decode cX12_sets 34 = .ok (.getfield 183, 3) := by decide +kernel
theorem dX12_sets_37 : decode cX12_sets 37 = .ok (.aload_n 0, 1) := by decide +kernel
theorem dX12_sets_38 : decode cX12_sets 38 = .ok (.getfield 144, 3) := by decide +kernel
theorem dX12_sets_41 : decode cX12_sets 41 = .ok (.iastore, 1) := by decide +kernel
theorem dX12_sets_42 : decode cX12_sets 42 = .ok (.iconst 1, 1) := by decide +kernel
theorem dX12_sets_43 : decode cX12_sets 43 = .ok (.ireturn, 1) := by decide +kernel
theorem dX12_clauseHere_0 : decode cX12_clauseHere 0 = .ok (.aload_n 0, 1) := by decide +kernel
theorem dX12_clauseHere_1 : decode cX12_clauseHere 1 = .ok (.invokevirtual 124, 3) := by decide +kernel
theorem dX12_clauseHere_4 : decode cX12_clauseHere 4 = .ok (.pop, 1) := by decide +kernel
theorem dX12_clauseHere_5 : decode cX12_clauseHere 5 = .ok (.aload_n 0, 1) := by decide +kernel
theorem dX12_clauseHere_6 : decode cX12_clauseHere 6 = .ok (.getfield 121, 3) := by decide +kernel
theorem dX12_clauseHere_9 : decode cX12_clauseHere 9 = .ok (.istore_n 1, 1) := by decide +kernel
theorem dX12_clauseHere_10 : decode cX12_clauseHere 10 = .ok (.aload_n 0, 1) := by decide +kernel
theorem dX12_clauseHere_11 : decode cX12_clauseHere 11 = .ok (.ldc2_w 261, 3) := by decide +kernel
theorem dX12_clauseHere_14 : decode cX12_clauseHere 14 = .ok (.invokevirtual 131, 3) := by decide +kernel
theorem dX12_clauseHere_17 : decode cX12_clauseHere 17 = .ok (.ifCond .ne 53, 3) := by decide +kernel
theorem dX12_clauseHere_20 : decode cX12_clauseHere 20 = .ok (.aload_n 0, 1) := by decide +kernel
theorem dX12_clauseHere_21 : decode cX12_clauseHere 21 = .ok (.ldc2_w 263, 3) := by decide +kernel
theorem dX12_clauseHere_24 : decode cX12_clauseHere 24 = .ok (.invokevirtual 131, 3) := by decide +kernel
theorem dX12_clauseHere_27 : decode cX12_clauseHere 27 = .ok (.ifCond .ne 43, 3) := by decide +kernel
theorem dX12_clauseHere_30 : decode cX12_clauseHere 30 = .ok (.aload_n 0, 1) := by decide +kernel
theorem dX12_clauseHere_31 : decode cX12_clauseHere 31 = .ok (.ldc2_w 265, 3) := by decide +kernel
theorem dX12_clauseHere_34 : decode cX12_clauseHere 34 = .ok (.invokevirtual 131, 3) := by decide +kernel
theorem dX12_clauseHere_37 : decode cX12_clauseHere 37 = .ok (.ifCond .ne 33, 3) := by decide +kernel
theorem dX12_clauseHere_40 : decode cX12_clauseHere 40 = .ok (.aload_n 0, 1) := by decide +kernel
theorem dX12_clauseHere_41 : decode cX12_clauseHere 41 = .ok (.ldc2_w 267, 3) := by decide +kernel
theorem dX12_clauseHere_44 : decode cX12_clauseHere 44 = .ok (.invokevirtual 131, 3) := by decide +kernel
theorem dX12_clauseHere_47 : decode cX12_clauseHere 47 = .ok (.ifCond .ne 23, 3) := by decide +kernel
theorem dX12_clauseHere_50 : decode cX12_clauseHere 50 = .ok (.aload_n 0, 1) := by decide +kernel
theorem dX12_clauseHere_51 : decode cX12_clauseHere 51 = .ok (.ldc2_w 269, 3) := by decide +kernel
theorem dX12_clauseHere_54 : decode cX12_clauseHere 54 = .ok (.invokevirtual 131, 3) := by decide +kernel
theorem dX12_clauseHere_57 : decode cX12_clauseHere 57 = .ok (.ifCond .ne 13, 3) := by decide +kernel
theorem dX12_clauseHere_60 : decode cX12_clauseHere 60 = .ok (.aload_n 0, 1) := by decide +kernel
theorem dX12_clauseHere_61 : decode cX12_clauseHere 61 = .ok (.ldc2_w 271, 3) := by decide +kernel
theorem dX12_clauseHere_64 : decode cX12_clauseHere 64 = .ok (.invokevirtual 131, 3) := by decide +kernel
theorem dX12_clauseHere_67 : decode cX12_clauseHere 67 = .ok (.ifCond .eq 7, 3) := by decide +kernel
theorem dX12_clauseHere_70 : decode cX12_clauseHere 70 = .ok (.iconst 1, 1) := by decide +kernel
theorem dX12_clauseHere_71 : decode cX12_clauseHere 71 = .ok (.goto 4, 3) := by decide +kernel
theorem dX12_clauseHere_74 : decode cX12_clauseHere 74 = .ok (.iconst 0, 1) := by decide +kernel
theorem dX12_clauseHere_75 : decode cX12_clauseHere 75 = .ok (.istore_n 2, 1) := by decide +kernel
theorem dX12_clauseHere_76 : decode cX12_clauseHere 76 = .ok (.iload_n 2, 1) := by decide +kernel
theorem dX12_clauseHere_77 : decode cX12_clauseHere 77 = .ok (.ifCond .ne 10, 3) := by decide +kernel
theorem dX12_clauseHere_80 : decode cX12_clauseHere 80 = .ok (.aload_n 0, 1) := by decide +kernel
theorem dX12_clauseHere_81 : decode cX12_clauseHere 81 = .ok (.iconst 0, 1) := by decide +kernel
theorem dX12_clauseHere_82 : decode cX12_clauseHere 82 = .ok (.iload_n 1, 1) := by decide +kernel
theorem dX12_clauseHere_83 : decode cX12_clauseHere 83 = .ok (.invokevirtual 141, 3) := by decide +kernel
theorem dX12_clauseHere_86 : decode cX12_clauseHere 86 = .ok (.ireturn, 1) := by decide +kernel
theorem dX12_clauseHere_87 : decode cX12_clauseHere 87 = .ok (.aload_n 0, 1) := by decide +kernel
theorem dX12_clauseHere_88 : decode cX12_clauseHere 88 = .ok (.getfield 32, 3) := by decide +kernel
theorem dX12_clauseHere_91 : decode cX12_clauseHere 91 = .ok (.aload_n 0, 1) := by decide +kernel
theorem dX12_clauseHere_92 : decode cX12_clauseHere 92 = .ok (.getfield 183, 3) := by decide +kernel
theorem dX12_clauseHere_95 : decode cX12_clauseHere 95 = .ok (.iaload, 1) := by decide +kernel
theorem dX12_clauseHere_96 : decode cX12_clauseHere 96 = .ok (.bipush 14, 2) := by decide +kernel
theorem dX12_clauseHere_98 : decode cX12_clauseHere 98 = .ok (.if_icmp .ne 10, 3) := by decide +kernel
theorem dX12_clauseHere_101 : decode cX12_clauseHere 101 = .ok (.aload_n 0, 1) := by decide +kernel
theorem dX12_clauseHere_102 : decode cX12_clauseHere 102 = .ok (.iconst 4, 1) := by decide +kernel
theorem dX12_clauseHere_103 : decode cX12_clauseHere 103 = .ok (.iload_n 1, 1) := by decide +kernel
theorem dX12_clauseHere_104 : decode cX12_clauseHere 104 = .ok (.invokevirtual 141, 3) := by decide +kernel
theorem dX12_clauseHere_107 : decode cX12_clauseHere 107 = .ok (.ireturn, 1) := by decide +kernel
theorem dX12_clauseHere_108 : decode cX12_clauseHere 108 = .ok (.aload_n 0, 1) := by decide +kernel
theorem dX12_clauseHere_109 : decode cX12_clauseHere 109 = .ok (.getfield 32, 3) := by decide +kernel
theorem dX12_clauseHere_112 : decode cX12_clauseHere 112 = .ok (.aload_n 0, 1) := by decide +kernel
theorem dX12_clauseHere_113 : decode cX12_clauseHere 113 = .ok (.getfield 183, 3) := by decide +kernel
theorem dX12_clauseHere_116 : decode cX12_clauseHere 116 = .ok (.dup2, 1) := by decide +kernel
theorem dX12_clauseHere_117 : decode cX12_clauseHere 117 = .ok (.iaload, 1) := by decide +kernel
theorem dX12_clauseHere_118 : decode cX12_clauseHere 118 = .ok (.iconst 1, 1) := by decide +kernel
theorem dX12_clauseHere_119 : decode cX12_clauseHere 119 = .ok (.iadd, 1) := by decide +kernel
theorem dX12_clauseHere_120 : decode cX12_clauseHere 120 = .ok (.iastore, 1) := by decide +kernel
theorem dX12_clauseHere_121 : decode cX12_clauseHere 121 = .ok (.aload_n 0, 1) := by decide +kernel
theorem dX12_clauseHere_122 : decode cX12_clauseHere 122 = .ok (.ldc2_w 261, 3) := by decide +kernel
theorem dX12_clauseHere_125 : decode cX12_clauseHere 125 = .ok (.invokevirtual 131, 3) := by decide +kernel
theorem dX12_clauseHere_128 : decode cX12_clauseHere 128 = .ok (.ifCond .eq 9, 3) := by decide +kernel
theorem dX12_clauseHere_131 : decode cX12_clauseHere 131 = .ok (.aload_n 0, 1) := by decide +kernel
theorem dX12_clauseHere_132 : decode cX12_clauseHere 132 = .ok (.iconst 0, 1) := by decide +kernel
theorem dX12_clauseHere_133 : decode cX12_clauseHere 133 = .ok (.invokevirtual 273, 3) := by decide +kernel
theorem dX12_clauseHere_136 : decode cX12_clauseHere 136 = .ok (.ireturn, 1) := by decide +kernel
theorem dX12_clauseHere_137 : decode cX12_clauseHere 137 = .ok (.aload_n 0, 1) := by decide +kernel
theorem dX12_clauseHere_138 : decode cX12_clauseHere 138 = .ok (.ldc2_w 263, 3) := by decide +kernel
theorem dX12_clauseHere_141 : decode cX12_clauseHere 141 = .ok (.invokevirtual 131, 3) := by decide +kernel
theorem dX12_clauseHere_144 : decode cX12_clauseHere 144 = .ok (.ifCond .eq 9, 3) := by decide +kernel
theorem dX12_clauseHere_147 : decode cX12_clauseHere 147 = .ok (.aload_n 0, 1) := by decide +kernel
theorem dX12_clauseHere_148 : decode cX12_clauseHere 148 = .ok (.iconst 1, 1) := by decide +kernel
theorem dX12_clauseHere_149 : decode cX12_clauseHere 149 = .ok (.invokevirtual 273, 3) := by decide +kernel
theorem dX12_clauseHere_152 : decode cX12_clauseHere 152 = .ok (.ireturn, 1) := by decide +kernel
theorem dX12_clauseHere_153 : decode cX12_clauseHere 153 = .ok (.aload_n 0, 1) := by decide +kernel
theorem dX12_clauseHere_154 : decode cX12_clauseHere 154 = .ok (.ldc2_w 267, 3) := by decide +kernel
theorem dX12_clauseHere_157 : decode cX12_clauseHere 157 = .ok (.invokevirtual 131, 3) := by decide +kernel
theorem dX12_clauseHere_160 : decode cX12_clauseHere 160 = .ok (.ifCond .eq 16, 3) := by decide +kernel
theorem dX12_clauseHere_163 : decode cX12_clauseHere 163 = .ok (.aload_n 0, 1) := by decide +kernel
theorem dX12_clauseHere_164 : decode cX12_clauseHere 164 = .ok (.aload_n 0, 1) := by decide +kernel
theorem dX12_clauseHere_165 : decode cX12_clauseHere 165 = .ok (.getfield 35, 3) := by decide +kernel
theorem dX12_clauseHere_168 : decode cX12_clauseHere 168 = .ok (.iconst 0, 1) := by decide +kernel
theorem dX12_clauseHere_169 : decode cX12_clauseHere 169 = .ok (.bipush 15, 2) := by decide +kernel
theorem dX12_clauseHere_171 : decode cX12_clauseHere 171 = .ok (.iload_n 1, 1) := by decide +kernel
theorem dX12_clauseHere_172 : decode cX12_clauseHere 172 = .ok (.invokevirtual 276, 3) := by decide +kernel
theorem dX12_clauseHere_175 : decode cX12_clauseHere 175 = .ok (.ireturn, 1) := by decide +kernel
theorem dX12_clauseHere_176 : decode cX12_clauseHere 176 = .ok (.aload_n 0, 1) := by decide +kernel
theorem dX12_clauseHere_177 : decode cX12_clauseHere 177 = .ok (.ldc2_w 269, 3) := by decide +kernel
theorem dX12_clauseHere_180 : decode cX12_clauseHere 180 = .ok (.invokevirtual 131, 3) := by decide +kernel
theorem dX12_clauseHere_183 : decode cX12_clauseHere 183 = .ok (.ifCond .eq 16, 3) := by decide +kernel
theorem dX12_clauseHere_186 : decode cX12_clauseHere 186 = .ok (.aload_n 0, 1) := by decide +kernel
theorem dX12_clauseHere_187 : decode cX12_clauseHere 187 = .ok (.aload_n 0, 1) := by decide +kernel
theorem dX12_clauseHere_188 : decode cX12_clauseHere 188 = .ok (.getfield 38, 3) := by decide +kernel
theorem dX12_clauseHere_191 : decode cX12_clauseHere 191 = .ok (.iconst 1, 1) := by decide +kernel
theorem dX12_clauseHere_192 : decode cX12_clauseHere 192 = .ok (.bipush 8, 2) := by decide +kernel
theorem dX12_clauseHere_194 : decode cX12_clauseHere 194 = .ok (.iload_n 1, 1) := by decide +kernel
theorem dX12_clauseHere_195 : decode cX12_clauseHere 195 = .ok (.invokevirtual 276, 3) := by decide +kernel
theorem dX12_clauseHere_198 : decode cX12_clauseHere 198 = .ok (.ireturn, 1) := by decide +kernel
theorem dX12_clauseHere_199 : decode cX12_clauseHere 199 = .ok (.aload_n 0, 1) := by decide +kernel
theorem dX12_clauseHere_200 : decode cX12_clauseHere 200 = .ok (.ldc2_w 271, 3) := by decide +kernel
theorem dX12_clauseHere_203 : decode cX12_clauseHere 203 = .ok (.invokevirtual 131, 3) := by decide +kernel
theorem dX12_clauseHere_206 : decode cX12_clauseHere 206 = .ok (.ifCond .eq 16, 3) := by decide +kernel
theorem dX12_clauseHere_209 : decode cX12_clauseHere 209 = .ok (.aload_n 0, 1) := by decide +kernel
theorem dX12_clauseHere_210 : decode cX12_clauseHere 210 = .ok (.aload_n 0, 1) := by decide +kernel
theorem dX12_clauseHere_211 : decode cX12_clauseHere 211 = .ok (.getfield 41, 3) := by decide +kernel
theorem dX12_clauseHere_214 : decode cX12_clauseHere 214 = .ok (.iconst 0, 1) := by decide +kernel
theorem dX12_clauseHere_215 : decode cX12_clauseHere 215 = .ok (.bipush 15, 2) := by decide +kernel
theorem dX12_clauseHere_217 : decode cX12_clauseHere 217 = .ok (.iload_n 1, 1) := by decide +kernel
theorem dX12_clauseHere_218 : decode cX12_clauseHere 218 = .ok (.invokevirtual 276, 3) := by decide +kernel
theorem dX12_clauseHere_221 : decode cX12_clauseHere 221 = .ok (.ireturn, 1) := by decide +kernel
theorem dX12_clauseHere_222 : decode cX12_clauseHere 222 = .ok (.aload_n 0, 1) := by decide +kernel
theorem dX12_clauseHere_223 : decode cX12_clauseHere 223 = .ok (.invokevirtual 135, 3) := by decide +kernel
theorem dX12_clauseHere_226 : decode cX12_clauseHere 226 = .ok (.aload_n 0, 1) := by decide +kernel
theorem dX12_clauseHere_227 : decode cX12_clauseHere 227 = .ok (.iconst 2, 1) := by decide +kernel
theorem dX12_clauseHere_228 : decode cX12_clauseHere 228 = .ok (.iconst 0, 1) := by decide +kernel
theorem dX12_clauseHere_229 : decode cX12_clauseHere 229 = .ok (.iconst 0, 1) := by decide +kernel
theorem dX12_clauseHere_230 : decode cX12_clauseHere 230 = .ok (.iconst 1, 1) := by decide +kernel
theorem dX12_clauseHere_231 : decode cX12_clauseHere 231 = .ok (.invokevirtual 257, 3) := by decide +kernel
theorem dX12_clauseHere_234 : decode cX12_clauseHere 234 = .ok (.ireturn, 1) := by decide +kernel
theorem dX12_code_0 : decode cX12_code 0 = .ok (.aload_n 0, 1) := by decide +kernel
theorem dX12_code_1 : decode cX12_code 1 = .ok (.getfield 280, 3) := by decide +kernel
theorem dX12_code_4 : decode cX12_code 4 = .ok (.bipush 6, 2) := by decide +kernel
theorem dX12_code_6 : decode cX12_code 6 = .ok (.if_icmp .ne 5, 3) := by decide +kernel
theorem dX12_code_9 : decode cX12_code 9 = .ok (.iconst (-1), 1) := by decide +kernel
theorem dX12_code_10 : decode cX12_code 10 = .ok (.ireturn, 1) := by decide +kernel
theorem dX12_code_11 : decode cX12_code 11 = .ok (.aload_n 0, 1) := by decide +kernel
theorem dX12_code_12 : decode cX12_code 12 = .ok (.aload_n 0, 1) := by decide +kernel
theorem dX12_code_13 : decode cX12_code 13 = .ok (.getfield 280, 3) := by decide +kernel
theorem dX12_code_16 : decode cX12_code 16 = .ok (.putfield 183, 3) := by decide +kernel
theorem dX12_code_19 : decode cX12_code 19 = .ok (.aload_n 0, 1) := by decide +kernel
theorem dX12_code_20 : decode cX12_code 20 = .ok (.getfield 23, 3) := by decide +kernel
theorem dX12_code_23 : decode cX12_code 23 = .ok (.aload_n 0, 1) := by decide +kernel
theorem dX12_code_24 : decode cX12_code 24 = .ok (.getfield 183, 3) := by decide +kernel
theorem dX12_code_27 : decode cX12_code 27 = .ok (.iconst 0, 1) := by decide +kernel
theorem dX12_code_28 : decode cX12_code 28 = .ok (.iastore, 1) := by decide +kernel
theorem dX12_code_29 : decode cX12_code 29 = .ok (.aload_n 0, 1) := by decide +kernel
theorem dX12_code_30 : decode cX12_code 30 = .ok (.getfield 29, 3) := by decide +kernel
theorem dX12_code_33 : decode cX12_code 33 = .ok (.aload_n 0, 1) := by decide +kernel
theorem dX12_code_34 : decode cX12_code 34 = .ok (.getfield 183, 3) := by decide +kernel
theorem dX12_code_37 : decode cX12_code 37 = .ok (.iconst 0, 1) := by decide +kernel
theorem dX12_code_38 : decode cX12_code 38 = .ok (.iastore, 1) := by decide +kernel
theorem dX12_code_39 : decode cX12_code 39 = .ok (.aload_n 0, 1) := by decide +kernel
theorem dX12_code_40 : decode cX12_code 40 = .ok (.getfield 32, 3) := by decide +kernel
theorem dX12_code_43 : decode cX12_code 43 = .ok (.aload_n 0, 1) := by decide +kernel
theorem dX12_code_44 : decode cX12_code 44 = .ok (.getfield 183, 3) := by decide +kernel
theorem dX12_code_47 : decode cX12_code 47 = .ok (.iconst 0, 1) := by decide +kernel
theorem dX12_code_48 : decode cX12_code 48 = .ok (.iastore, 1) := by decide +kernel
theorem dX12_code_49 : decode cX12_code 49 = .ok (.aload_n 0, 1) := by decide +kernel
theorem dX12_code_50 : decode cX12_code 50 = .ok (.getfield 35, 3) := by decide +kernel
theorem dX12_code_53 : decode cX12_code 53 = .ok (.aload_n 0, 1) := by decide +kernel
theorem dX12_code_54 : decode cX12_code 54 = .ok (.getfield 183, 3) := by decide +kernel
theorem dX12_code_57 : decode cX12_code 57 = .ok (.iconst (-1), 1) := by decide +kernel
theorem dX12_code_58 : decode cX12_code 58 = .ok (.iastore, 1) := by decide +kernel
theorem dX12_code_59 : decode cX12_code 59 = .ok (.aload_n 0, 1) := by decide +kernel
theorem dX12_code_60 : decode cX12_code 60 = .ok (.getfield 38, 3) := by decide +kernel
theorem dX12_code_63 : decode cX12_code 63 = .ok (.aload_n 0, 1) := by decide +kernel
theorem dX12_code_64 : decode cX12_code 64 = .ok (.getfield 183, 3) := by decide +kernel
theorem dX12_code_67 : decode cX12_code 67 = .ok (.iconst (-1), 1) := by decide +kernel
theorem dX12_code_68 : decode cX12_code 68 = .ok (.iastore, 1) := by decide +kernel
theorem dX12_code_69 : decode cX12_code 69 = .ok (.aload_n 0, 1) := by decide +kernel
theorem dX12_code_70 : decode cX12_code 70 = .ok (.getfield 41, 3) := by decide +kernel
theorem dX12_code_73 : decode cX12_code 73 = .ok (.aload_n 0, 1) := by decide +kernel
theorem dX12_code_74 : decode cX12_code 74 = .ok (.getfield 183, 3) := by decide +kernel
theorem dX12_code_77 : decode cX12_code 77 = .ok (.iconst (-1), 1) := by decide +kernel
theorem dX12_code_78 : decode cX12_code 78 = .ok (.iastore, 1) := by decide +kernel
theorem dX12_code_79 : decode cX12_code 79 = .ok (.aload_n 0, 1) := by decide +kernel
theorem dX12_code_80 : decode cX12_code 80 = .ok (.iconst 0, 1) := by decide +kernel
theorem dX12_code_81 : decode cX12_code 81 = .ok (.putfield 121, 3) := by decide +kernel
theorem dX12_code_84 : decode cX12_code 84 = .ok (.aload_n 0, 1) := by decide +kernel
theorem dX12_code_85 : decode cX12_code 85 = .ok (.iconst 0, 1) := by decide +kernel
theorem dX12_code_86 : decode cX12_code 86 = .ok (.putfield 118, 3) := by decide +kernel
theorem dX12_code_89 : decode cX12_code 89 = .ok (.aload_n 0, 1) := by decide +kernel
theorem dX12_code_90 : decode cX12_code 90 = .ok (.iconst 0, 1) := by decide +kernel
theorem dX12_code_91 : decode cX12_code 91 = .ok (.putfield 186, 3) := by decide +kernel
theorem dX12_code_94 : decode cX12_code 94 = .ok (.aload_n 0, 1) := by decide +kernel
theorem dX12_code_95 : decode cX12_code 95 = .ok (.invokevirtual 283, 3) := by decide +kernel
theorem dX12_code_98 : decode cX12_code 98 = .ok (.istore_n 1, 1) := by decide +kernel
theorem dX12_code_99 : decode cX12_code 99 = .ok (.iload_n 1, 1) := by decide +kernel
theorem dX12_code_100 : decode cX12_code 100 = .ok (.ifCond .eq 30, 3) := by decide +kernel
theorem dX12_code_103 : decode cX12_code 103 = .ok (.aload_n 0, 1) := by decide +kernel
theorem dX12_code_104 : decode cX12_code 104 = .ok (.invokevirtual 124, 3) := by decide +kernel
theorem dX12_code_107 : decode cX12_code 107 = .ok (.bipush 59, 2) := by decide +kernel
theorem dX12_code_109 : decode cX12_code 109 = .ok (.if_icmp .ne 21, 3) := by decide +kernel
theorem dX12_code_112 : decode cX12_code 112 = .ok (.aload_n 0, 1) := by decide +kernel
theorem dX12_code_113 : decode cX12_code 113 = .ok (.dup, 1) := by decide +kernel
theorem dX12_code_114 : decode cX12_code 114 = .ok (.getfield 121, 3) := by decide +kernel
theorem dX12_code_117 : decode cX12_code 117 = .ok (.iconst 1, 1) := by decide +kernel
theorem dX12_code_118 : decode cX12_code 118 = .ok (.iadd, 1) := by decide +kernel
theorem dX12_code_119 : decode cX12_code 119 = .ok (.putfield 121, 3) := by decide +kernel
theorem dX12_code_122 : decode cX12_code 122 = .ok (.aload_n 0, 1) := by decide +kernel
theorem dX12_code_123 : decode cX12_code 123 = .ok (.invokevirtual 283, 3) := by decide +kernel
theorem dX12_code_126 : decode cX12_code 126 = .ok (.istore_n 1, 1) := by decide +kernel
theorem dX12_code_127 : decode cX12_code 127 = .ok (.goto (-28), 3) := by decide +kernel
theorem dX12_code_130 : decode cX12_code 130 = .ok (.iload_n 1, 1) := by decide +kernel
theorem dX12_code_131 : decode cX12_code 131 = .ok (.ifCond .eq 21, 3) := by decide +kernel
theorem dX12_code_134 : decode cX12_code 134 = .ok (.aload_n 0, 1) := by decide +kernel
theorem dX12_code_135 : decode cX12_code 135 = .ok (.invokevirtual 124, 3) := by decide +kernel
theorem dX12_code_138 : decode cX12_code 138 = .ok (.iconst (-1), 1) := by decide +kernel
theorem dX12_code_139 : decode cX12_code 139 = .ok (.if_icmp .eq 13, 3) := by decide +kernel
theorem dX12_code_142 : decode cX12_code 142 = .ok (.aload_n 0, 1) := by decide +kernel
theorem dX12_code_143 : decode cX12_code 143 = .ok (.iconst 0, 1) := by decide +kernel
theorem dX12_code_144 : decode cX12_code 144 = .ok (.aload_n 0, 1) := by decide +kernel
theorem dX12_code_145 : decode cX12_code 145 = .ok (.getfield 121, 3) := by decide +kernel
theorem dX12_code_148 : decode cX12_code 148 = .ok (.invokevirtual 141, 3) := by decide +kernel
theorem dX12_code_151 : decode cX12_code 151 = .ok (.pop, 1) := by decide +kernel
theorem dX12_code_152 : decode cX12_code 152 = .ok (.aload_n 0, 1) := by decide +kernel
theorem dX12_code_153 : decode cX12_code 153 = .ok (.iconst 0, 1) := by decide +kernel
theorem dX12_code_154 : decode cX12_code 154 = .ok (.putfield 111, 3) := by decide +kernel
theorem dX12_code_157 : decode cX12_code 157 = .ok (.aload_n 0, 1) := by decide +kernel
theorem dX12_code_158 : decode cX12_code 158 = .ok (.getfield 118, 3) := by decide +kernel
theorem dX12_code_161 : decode cX12_code 161 = .ok (.ifCond .le 11, 3) := by decide +kernel
theorem dX12_code_164 : decode cX12_code 164 = .ok (.bipush (-2), 2) := by decide +kernel
theorem dX12_code_166 : decode cX12_code 166 = .ok (.aload_n 0, 1) := by decide +kernel
theorem dX12_code_167 : decode cX12_code 167 = .ok (.getfield 118, 3) := by decide +kernel
theorem dX12_code_170 : decode cX12_code 170 = .ok (.isub, 1) := by decide +kernel
theorem dX12_code_171 : decode cX12_code 171 = .ok (.ireturn, 1) := by decide +kernel
theorem dX12_code_172 : decode cX12_code 172 = .ok (.aload_n 0, 1) := by decide +kernel
theorem dX12_code_173 : decode cX12_code 173 = .ok (.getfield 35, 3) := by decide +kernel
theorem dX12_code_176 : decode cX12_code 176 = .ok (.aload_n 0, 1) := by decide +kernel
theorem dX12_code_177 : decode cX12_code 177 = .ok (.getfield 183, 3) := by decide +kernel
theorem dX12_code_180 : decode cX12_code 180 = .ok (.aload_n 0, 1) := by decide +kernel
theorem dX12_code_181 : decode cX12_code 181 = .ok (.getfield 35, 3) := by decide +kernel
theorem dX12_code_184 : decode cX12_code 184 = .ok (.aload_n 0, 1) := by decide +kernel
theorem dX12_code_185 : decode cX12_code 185 = .ok (.getfield 183, 3) := by decide +kernel
theorem dX12_code_188 : decode cX12_code 188 = .ok (.iaload, 1) := by decide +kernel
theorem dX12_code_189 : decode cX12_code 189 = .ok (.ifCond .ge 7, 3) := by decide +kernel
theorem dX12_code_192 : decode cX12_code 192 = .ok (.iconst 1, 1) := by decide +kernel
theorem dX12_code_193 : decode cX12_code 193 = .ok (.goto 12, 3) := by decide +kernel
theorem dX12_code_196 : decode cX12_code 196 = .ok (.aload_n 0, 1) := by decide +kernel
theorem dX12_code_197 : decode cX12_code 197 = .ok (.getfield 35, 3) := by decide +kernel
theorem dX12_code_200 : decode cX12_code 200 = .ok (.aload_n 0, 1) := by decide +kernel
theorem dX12_code_201 : decode cX12_code 201 = .ok (.getfield 183, 3) := by decide +kernel
theorem dX12_code_204 : decode cX12_code 204 = .ok (.iaload, 1) := by decide +kernel
theorem dX12_code_205 : decode cX12_code 205 = .ok (.iastore, 1) := by decide +kernel
theorem dX12_code_206 : decode cX12_code 206 = .ok (.aload_n 0, 1) := by decide +kernel
theorem dX12_code_207 : decode cX12_code 207 = .ok (.getfield 38, 3) := by decide +kernel
theorem dX12_code_210 : decode cX12_code 210 = .ok (.aload_n 0, 1) := by decide +kernel
theorem dX12_code_211 : decode cX12_code 211 = .ok (.getfield 183, 3) := by decide +kernel
theorem dX12_code_214 : decode cX12_code 214 = .ok (.aload_n 0, 1) := by decide +kernel
theorem dX12_code_215 : decode cX12_code 215 = .ok (.getfield 38, 3) := by decide +kernel
theorem dX12_code_218 : decode cX12_code 218 = .ok (.aload_n 0, 1) := by decide +kernel
theorem dX12_code_219 : decode cX12_code 219 = .ok (.getfield 183, 3) := by decide +kernel
theorem dX12_code_222 : decode cX12_code 222 = .ok (.iaload, 1) := by decide +kernel
theorem dX12_code_223 : decode cX12_code 223 = .ok (.ifCond .ge 8, 3) := by decide +kernel
theorem dX12_code_226 : decode cX12_code 226 = .ok (.bipush 6, 2) := by decide +kernel
theorem dX12_code_228 : decode cX12_code 228 = .ok (.goto 12, 3) := by decide +kernel
theorem dX12_code_231 : decode cX12_code 231 = .ok (.aload_n 0, 1) := by decide +kernel
theorem dX12_code_232 : decode cX12_code 232 = .ok (.getfield 38, 3) := by decide +kernel
theorem dX12_code_235 : decode cX12_code 235 = .ok (.aload_n 0, 1) := by decide +kernel
theorem dX12_code_236 : decode cX12_code 236 = .ok (.getfield 183, 3) := by decide +kernel
theorem dX12_code_239 : decode cX12_code 239 = .ok (.iaload, 1) := by decide +kernel
theorem dX12_code_240 : decode cX12_code 240 = .ok (.iastore, 1) := by decide +kernel
theorem dX12_code_241 : decode cX12_code 241 = .ok (.aload_n 0, 1) := by decide +kernel
theorem dX12_code_242 : decode cX12_code 242 = .ok (.getfield 41, 3) := by decide +kernel
theorem dX12_code_245 : decode cX12_code 245 = .ok (.aload_n 0, 1) := by decide +kernel
theorem dX12_code_246 : decode cX12_code 246 = .ok (.getfield 183, 3) := by decide +kernel
theorem dX12_code_249 : decode cX12_code 249 = .ok (.aload_n 0, 1) := by decide +kernel
theorem dX12_code_250 : decode cX12_code 250 = .ok (.getfield 41, 3) := by decide +kernel
theorem dX12_code_253 : decode cX12_code 253 = .ok (.aload_n 0, 1) := by decide +kernel
theorem dX12_code_254 : decode cX12_code 254 = .ok (.getfield 183, 3) := by decide +kernel
theorem dX12_code_257 : decode cX12_code 257 = .ok (.iaload, 1) := by decide +kernel
theorem dX12_code_258 : decode cX12_code 258 = .ok (.ifCond .ge 7, 3) := by decide +kernel
theorem dX12_code_261 : decode cX12_code 261 = .ok (.iconst 1, 1) := by decide +kernel
theorem dX12_code_262 : decode cX12_code 262 = .ok (.goto 12, 3) := by decide +kernel
theorem dX12_code_265 : decode cX12_code 265 = .ok (.aload_n 0, 1) := by decide +kernel
theorem dX12_code_266 : decode cX12_code 266 = .ok (.getfield 41, 3) := by decide +kernel
theorem dX12_code_269 : decode cX12_code 269 = .ok (.aload_n 0, 1) := by decide +kernel
theorem dX12_code_270 : decode cX12_code 270 = .ok (.getfield 183, 3) := by decide +kernel
theorem dX12_code_273 : decode cX12_code 273 = .ok (.iaload, 1) := by decide +kernel
theorem dX12_code_274 : decode cX12_code 274 = .ok (.iastore, 1) := by decide +kernel
theorem dX12_code_275 : decode cX12_code 275 = .ok (.aload_n 0, 1) := by decide +kernel
theorem dX12_code_276 : decode cX12_code 276 = .ok (.dup, 1) := by decide +kernel
theorem dX12_code_277 : decode cX12_code 277 = .ok (.getfield 280, 3) := by decide +kernel
theorem dX12_code_280 : decode cX12_code 280 = .ok (.iconst 1, 1) := by decide +kernel
theorem dX12_code_281 : decode cX12_code 281 = .ok (.iadd, 1) := by decide +kernel
theorem dX12_code_282 : decode cX12_code 282 = .ok (.putfield 280, 3) := by decide +kernel
theorem dX12_code_285 : decode cX12_code 285 = .ok (.aload_n 0, 1) := by decide +kernel
theorem dX12_code_286 : decode cX12_code 286 = .ok (.getfield 280, 3) := by decide +kernel
theorem dX12_code_289 : decode cX12_code 289 = .ok (.iconst 1, 1) := by decide +kernel
theorem dX12_code_290 : decode cX12_code 290 = .ok (.isub, 1) := by decide +kernel
theorem dX12_code_291 : decode cX12_code 291 = .ok (.ireturn, 1) := by decide +kernel
theorem dX12_isCode_0 : decode cX12_isCode 0 = .ok (.iload_n 1, 1) := by decide +kernel
theorem dX12_isCode_1 : decode cX12_isCode 1 = .ok (.ifCond .lt 15, 3) := by decide +kernel
theorem dX12_isCode_4 : decode cX12_isCode 4 = .ok (.iload_n 1, 1) := by decide +kernel
theorem dX12_isCode_5 : decode cX12_isCode 5 = .ok (.aload_n 0, 1) := by decide +kernel
theorem dX12_isCode_6 : decode cX12_isCode 6 = .ok (.getfield 280, 3) := by decide +kernel
theorem dX12_isCode_9 : decode cX12_isCode 9 = .ok (.if_icmp .ge 7, 3) := by decide +kernel
theorem dX12_isCode_12 : decode cX12_isCode 12 = .ok (.iconst 1, 1) := by decide +kernel
theorem dX12_isCode_13 : decode cX12_isCode 13 = .ok (.goto 4, 3) := by decide +kernel
theorem dX12_isCode_16 : decode cX12_isCode 16 = .ok (.iconst 0, 1) := by decide +kernel
theorem dX12_isCode_17 : decode cX12_isCode 17 = .ok (.ireturn, 1) := by decide +kernel
theorem dX12_keeps_0 : decode cX12_keeps 0 = .ok (.aload_n 0, 1) := by decide +kernel
theorem dX12_keeps_1 : decode cX12_keeps 1 = .ok (.iload_n 1, 1) := by decide +kernel
theorem dX12_keeps_2 : decode cX12_keeps 2 = .ok (.invokevirtual 103, 3) := by decide +kernel
theorem dX12_keeps_5 : decode cX12_keeps 5 = .ok (.ifCond .eq 16, 3) := by decide +kernel
theorem dX12_keeps_8 : decode cX12_keeps 8 = .ok (.iload_n 2, 1) := by decide +kernel
theorem dX12_keeps_9 : decode cX12_keeps 9 = .ok (.iconst (-1), 1) := by decide +kernel
theorem dX12_keeps_10 : decode cX12_keeps 10 = .ok (.if_icmp .eq 13, 3) := by decide +kernel
theorem dX12_keeps_13 : decode cX12_keeps 13 = .ok (.aload_n 0, 1) := by decide +kernel
theorem dX12_keeps_14 : decode cX12_keeps 14 = .ok (.iload_n 2, 1) := by decide +kernel
theorem dX12_keeps_15 : decode cX12_keeps 15 = .ok (.invokevirtual 286, 3) := by decide +kernel
theorem dX12_keeps_18 : decode cX12_keeps 18 = .ok (.ifCond .ne 5, 3) := by decide +kernel
theorem dX12_keeps_21 : decode cX12_keeps 21 = .ok (.iconst 0, 1) := by decide +kernel
theorem dX12_keeps_22 : decode cX12_keeps 22 = .ok (.ireturn, 1) := by decide +kernel
theorem dX12_keeps_23 : decode cX12_keeps 23 = .ok (.aload_n 0, 1) := by decide +kernel
theorem dX12_keeps_24 : decode cX12_keeps 24 = .ok (.getfield 7, 3) := by decide +kernel
theorem dX12_keeps_27 : decode cX12_keeps 27 = .ok (.iconst 4, 1) := by decide +kernel
theorem dX12_keeps_28 : decode cX12_keeps 28 = .ok (.iload_n 1, 1) := by decide +kernel
theorem dX12_keeps_29 : decode cX12_keeps 29 = .ok (.imul, 1) := by decide +kernel
theorem dX12_keeps_30 : decode cX12_keeps 30 = .ok (.iconst 3, 1) := by decide +kernel
theorem dX12_keeps_31 : decode cX12_keeps 31 = .ok (.iadd, 1) := by decide +kernel
theorem dX12_keeps_32 : decode cX12_keeps 32 = .ok (.iload_n 2, 1) := by decide +kernel
theorem dX12_keeps_33 : decode cX12_keeps 33 = .ok (.iastore, 1) := by decide +kernel
theorem dX12_keeps_34 : decode cX12_keeps 34 = .ok (.iconst 1, 1) := by decide +kernel
theorem dX12_keeps_35 : decode cX12_keeps 35 = .ok (.ireturn, 1) := by decide +kernel
theorem dX12_told_0 : decode cX12_told 0 = .ok (.aload_n 0, 1) := by decide +kernel
theorem dX12_told_1 : decode cX12_told 1 = .ok (.iload_n 1, 1) := by decide +kernel
theorem dX12_told_2 : decode cX12_told 2 = .ok (.invokevirtual 286, 3) := by decide +kernel
theorem dX12_told_5 : decode cX12_told 5 = .ok (.ifCond .eq 15, 3) := by decide +kernel
theorem dX12_told_8 : decode cX12_told 8 = .ok (.iload_n 2, 1) := by decide +kernel
theorem dX12_told_9 : decode cX12_told 9 = .ok (.i2l, 1) := by decide +kernel
theorem dX12_told_10 : decode cX12_told 10 = .ok (.lconst 0, 1) := by decide +kernel
theorem dX12_told_11 : decode cX12_told 11 = .ok (.ldc2_w 289, 3) := by decide +kernel
theorem dX12_told_14 : decode cX12_told 14 = .ok (.invokestatic 97, 3) := by decide +kernel
theorem dX12_told_17 : decode cX12_told 17 = .ok (.ifCond .ne 5, 3) := by decide +kernel
theorem dX12_told_20 : decode cX12_told 20 = .ok (.iconst (-1), 1) := by decide +kernel
theorem dX12_told_21 : decode cX12_told 21 = .ok (.ireturn, 1) := by decide +kernel
theorem dX12_told_22 : decode cX12_told 22 = .ok (.iload_n 2, 1) := by decide +kernel
theorem dX12_told_23 : decode cX12_told 23 = .ok (.ifCond .ne 12, 3) := by decide +kernel
theorem dX12_told_26 : decode cX12_told 26 = .ok (.aload_n 0, 1) := by decide +kernel
theorem dX12_told_27 : decode cX12_told 27 = .ok (.getfield 35, 3) := by decide +kernel
theorem dX12_told_30 : decode cX12_told 30 = .ok (.iload_n 1, 1) := by decide +kernel
theorem dX12_told_31 : decode cX12_told 31 = .ok (.iaload, 1) := by decide +kernel
theorem dX12_told_32 : decode cX12_told 32 = .ok (.goto 37, 3) := by decide +kernel
theorem dX12_told_35 : decode cX12_told 35 = .ok (.iload_n 2, 1) := by decide +kernel
theorem dX12_told_36 : decode cX12_told 36 = .ok (.iconst 1, 1) := by decide +kernel
theorem dX12_told_37 : decode cX12_told 37 = .ok (.if_icmp .ne 12, 3) := by decide +kernel
theorem dX12_told_40 : decode cX12_told 40 = .ok (.aload_n 0, 1) := by decide +kernel
theorem dX12_told_41 : decode cX12_told 41 = .ok (.getfield 38, 3) := by decide +kernel
theorem dX12_told_44 : decode cX12_told 44 = .ok (.iload_n 1, 1) := by decide +kernel
theorem dX12_told_45 : decode cX12_told 45 = .ok (.iaload, 1) := by decide +kernel
theorem dX12_told_46 : decode cX12_told 46 = .ok (.goto 23, 3) := by decide +kernel
theorem dX12_told_49 : decode cX12_told 49 = .ok (.iload_n 2, 1) := by decide +kernel
theorem dX12_told_50 : decode cX12_told 50 = .ok (.iconst 2, 1) := by decide +kernel
theorem dX12_told_51 : decode cX12_told 51 = .ok (.if_icmp .ne 12, 3) := by decide +kernel
theorem dX12_told_54 : decode cX12_told 54 = .ok (.aload_n 0, 1) := by decide +kernel
theorem dX12_told_55 : decode cX12_told 55 = .ok (.getfield 41, 3) := by decide +kernel
theorem dX12_told_58 : decode cX12_told 58 = .ok (.iload_n 1, 1) := by decide +kernel
theorem dX12_told_59 : decode cX12_told 59 = .ok (.iaload, 1) := by decide +kernel
theorem dX12_told_60 : decode cX12_told 60 = .ok (.goto 9, 3) := by decide +kernel
theorem dX12_told_63 : decode cX12_told 63 = .ok (.aload_n 0, 1) := by decide +kernel
theorem dX12_told_64 : decode cX12_told 64 = .ok (.getfield 32, 3) := by decide +kernel
theorem dX12_told_67 : decode cX12_told 67 = .ok (.iload_n 1, 1) := by decide +kernel
theorem dX12_told_68 : decode cX12_told 68 = .ok (.iaload, 1) := by decide +kernel
theorem dX12_told_69 : decode cX12_told 69 = .ok (.ireturn, 1) := by decide +kernel
theorem dX12_push_0 : decode cX12_push 0 = .ok (.aload_n 0, 1) := by decide +kernel
theorem dX12_push_1 : decode cX12_push 1 = .ok (.getfield 50, 3) := by decide +kernel
theorem dX12_push_4 : decode cX12_push 4 = .ok (.aload_n 0, 1) := by decide +kernel
theorem dX12_push_5 : decode cX12_push 5 = .ok (.getfield 291, 3) := by decide +kernel
theorem dX12_push_8 : decode cX12_push 8 = .ok (.iload_n 1, 1) := by decide +kernel
theorem dX12_push_9 : decode cX12_push 9 = .ok (.iastore, 1) := by decide +kernel
theorem dX12_push_10 : decode cX12_push 10 = .ok (.aload_n 0, 1) := by decide +kernel
theorem dX12_push_11 : decode cX12_push 11 = .ok (.dup, 1) := by decide +kernel
theorem dX12_push_12 : decode cX12_push 12 = .ok (.getfield 291, 3) := by decide +kernel
theorem dX12_push_15 : decode cX12_push 15 = .ok (.iconst 1, 1) := by decide +kernel
theorem dX12_push_16 : decode cX12_push 16 = .ok (.iadd, 1) := by decide +kernel
theorem dX12_push_17 : decode cX12_push 17 = .ok (.putfield 291, 3) := by decide +kernel
theorem dX12_push_20 : decode cX12_push 20 = .ok (.return_, 1) := by decide +kernel
theorem dX12_pop_0 : decode cX12_pop 0 = .ok (.aload_n 0, 1) := by decide +kernel
theorem dX12_pop_1 : decode cX12_pop 1 = .ok (.dup, 1) := by decide +kernel
theorem dX12_pop_2 : decode cX12_pop 2 = .ok (.getfield 291, 3) := by decide +kernel
theorem dX12_pop_5 : decode cX12_pop 5 = .ok (.iconst 1, 1) := by decide +kernel
theorem dX12_pop_6 : decode cX12_pop 6 = .ok (.isub, 1) := by decide +kernel
theorem dX12_pop_7 : decode cX12_pop 7 = .ok (.putfield 291, 3) := by decide +kernel
theorem dX12_pop_10 : decode cX12_pop 10 = .ok (.aload_n 0, 1) := by decide +kernel
theorem dX12_pop_11 : decode cX12_pop 11 = .ok (.getfield 50, 3) := by decide +kernel
theorem dX12_pop_14 : decode cX12_pop 14 = .ok (.aload_n 0, 1) := by decide +kernel
theorem dX12_pop_15 : decode cX12_pop 15 = .ok (.getfield 291, 3) := by decide +kernel
theorem dX12_pop_18 : decode cX12_pop 18 = .ok (.iaload, 1) := by decide +kernel
theorem dX12_pop_19 : decode cX12_pop 19 = .ok (.ireturn, 1) := by decide +kernel
theorem dX12_compared_0 : decode cX12_compared 0 = .ok (.iload_n 0, 1) := by decide +kernel
theorem dX12_compared_1 : decode cX12_compared 1 = .ok (.iconst 4, 1) := by decide +kernel
theorem dX12_compared_2 : decode cX12_compared 2 = .ok (.if_icmp .ne 16, 3) := by decide +kernel
theorem dX12_compared_5 : decode cX12_compared 5 = .ok (.iload_n 1, 1) := by decide +kernel
theorem dX12_compared_6 : decode cX12_compared 6 = .ok (.iload_n 2, 1) := by decide +kernel
theorem dX12_compared_7 : decode cX12_compared 7 = .ok (.if_icmp .ge 7, 3) := by decide +kernel
theorem dX12_compared_10 : decode cX12_compared 10 = .ok (.iconst 1, 1) := by decide +kernel
theorem dX12_compared_11 : decode cX12_compared 11 = .ok (.goto 73, 3) := by decide +kernel
theorem dX12_compared_14 : decode cX12_compared 14 = .ok (.iconst 0, 1) := by decide +kernel
theorem dX12_compared_15 : decode cX12_compared 15 = .ok (.goto 69, 3) := by decide +kernel
theorem dX12_compared_18 : decode cX12_compared 18 = .ok (.iload_n 0, 1) := by decide +kernel
theorem dX12_compared_19 : decode cX12_compared 19 = .ok (.iconst 5, 1) := by decide +kernel
theorem dX12_compared_20 : decode cX12_compared 20 = .ok (.if_icmp .ne 16, 3) := by decide +kernel
theorem dX12_compared_23 : decode cX12_compared 23 = .ok (.iload_n 1, 1) := by decide +kernel
theorem dX12_compared_24 : decode cX12_compared 24 = .ok (.iload_n 2, 1) := by decide +kernel
theorem dX12_compared_25 : decode cX12_compared 25 = .ok (.if_icmp .gt 7, 3) := by decide +kernel
theorem dX12_compared_28 : decode cX12_compared 28 = .ok (.iconst 1, 1) := by decide +kernel
theorem dX12_compared_29 : decode cX12_compared 29 = .ok (.goto 55, 3) := by decide +kernel
theorem dX12_compared_32 : decode cX12_compared 32 = .ok (.iconst 0, 1) := by decide +kernel
theorem dX12_compared_33 : decode cX12_compared 33 = .ok (.goto 51, 3) := by decide +kernel
theorem dX12_compared_36 : decode cX12_compared 36 = .ok (.iload_n 0, 1) := by decide +kernel
theorem dX12_compared_37 : decode cX12_compared 37 = .ok (.bipush 6, 2) := by decide +kernel
theorem dX12_compared_39 : decode cX12_compared 39 = .ok (.if_icmp .ne 16, 3) := by decide +kernel
theorem dX12_compared_42 : decode cX12_compared 42 = .ok (.iload_n 1, 1) := by decide +kernel
theorem dX12_compared_43 : decode cX12_compared 43 = .ok (.iload_n 2, 1) := by decide +kernel
theorem dX12_compared_44 : decode cX12_compared 44 = .ok (.if_icmp .ne 7, 3) := by decide +kernel
theorem dX12_compared_47 : decode cX12_compared 47 = .ok (.iconst 1, 1) := by decide +kernel
theorem dX12_compared_48 : decode cX12_compared 48 = .ok (.goto 36, 3) := by decide +kernel
theorem dX12_compared_51 : decode cX12_compared 51 = .ok (.iconst 0, 1) := by decide +kernel
theorem dX12_compared_52 : decode cX12_compared 52 = .ok (.goto 32, 3) := by decide +kernel
theorem dX12_compared_55 : decode cX12_compared 55 = .ok (.iload_n 0, 1) := by decide +kernel
theorem dX12_compared_56 : decode cX12_compared 56 = .ok (.bipush 7, 2) := by decide +kernel
theorem dX12_compared_58 : decode cX12_compared 58 = .ok (.if_icmp .ne 16, 3) := by decide +kernel
theorem dX12_compared_61 : decode cX12_compared 61 = .ok (.iload_n 1, 1) := by decide +kernel
theorem dX12_compared_62 : decode cX12_compared 62 = .ok (.iload_n 2, 1) := by decide +kernel
theorem dX12_compared_63 : decode cX12_compared 63 = .ok (.if_icmp .lt 7, 3) := by decide +kernel
theorem dX12_compared_66 : decode cX12_compared 66 = .ok (.iconst 1, 1) := by decide +kernel
theorem dX12_compared_67 : decode cX12_compared 67 = .ok (.goto 17, 3) := by decide +kernel
theorem dX12_compared_70 : decode cX12_compared 70 = .ok (.iconst 0, 1) := by decide +kernel
theorem dX12_compared_71 : decode cX12_compared 71 = .ok (.goto 13, 3) := by decide +kernel
theorem dX12_compared_74 : decode cX12_compared 74 = .ok (.iload_n 1, 1) := by decide +kernel
theorem dX12_compared_75 : decode cX12_compared 75 = .ok (.iload_n 2, 1) := by decide +kernel
theorem dX12_compared_76 : decode cX12_compared 76 = .ok (.if_icmp .le 7, 3) := by decide +kernel
theorem dX12_compared_79 : decode cX12_compared 79 = .ok (.iconst 1, 1) := by decide +kernel
theorem dX12_compared_80 : decode cX12_compared 80 = .ok (.goto 4, 3) := by decide +kernel
theorem dX12_compared_83 : decode cX12_compared 83 = .ok (.iconst 0, 1) := by decide +kernel
theorem dX12_compared_84 : decode cX12_compared 84 = .ok (.istore_n 3, 1) := by decide +kernel
theorem dX12_compared_85 : decode cX12_compared 85 = .ok (.iload_n 3, 1) := by decide +kernel
theorem dX12_compared_86 : decode cX12_compared 86 = .ok (.ifCond .eq 7, 3) := by decide +kernel
theorem dX12_compared_89 : decode cX12_compared 89 = .ok (.iconst 1, 1) := by decide +kernel
theorem dX12_compared_90 : decode cX12_compared 90 = .ok (.goto 4, 3) := by decide +kernel
theorem dX12_compared_93 : decode cX12_compared 93 = .ok (.iconst 0, 1) := by decide +kernel
theorem dX12_compared_94 : decode cX12_compared 94 = .ok (.ireturn, 1) := by decide +kernel
theorem dX12_isTrue_0 : decode cX12_isTrue 0 = .ok (.aload_n 0, 1) := by decide +kernel
theorem dX12_isTrue_1 : decode cX12_isTrue 1 = .ok (.iconst 0, 1) := by decide +kernel
theorem dX12_isTrue_2 : decode cX12_isTrue 2 = .ok (.putfield 291, 3) := by decide +kernel
theorem dX12_isTrue_5 : decode cX12_isTrue 5 = .ok (.iload_n 2, 1) := by decide +kernel
theorem dX12_isTrue_6 : decode cX12_isTrue 6 = .ok (.istore 4, 2) := by decide +kernel
theorem dX12_isTrue_8 : decode cX12_isTrue 8 = .ok (.iload 4, 2) := by decide +kernel
theorem dX12_isTrue_10 : decode cX12_isTrue 10 = .ok (.iload_n 3, 1) := by decide +kernel
theorem dX12_isTrue_11 : decode cX12_isTrue 11 = .ok (.if_icmp .ge 181, 3) := by decide +kernel
theorem dX12_isTrue_14 : decode cX12_isTrue 14 = .ok (.aload_n 0, 1) := by decide +kernel
theorem dX12_isTrue_15 : decode cX12_isTrue 15 = .ok (.getfield 20, 3) := by decide +kernel
theorem dX12_isTrue_18 : decode cX12_isTrue 18 = .ok (.sipush 400, 3) := by decide +kernel
theorem dX12_isTrue_21 : decode cX12_isTrue 21 = .ok (.iload_n 1, 1) := by decide +kernel
theorem dX12_isTrue_22 : decode cX12_isTrue 22 = .ok (.imul, 1) := by decide +kernel
theorem dX12_isTrue_23 : decode cX12_isTrue 23 = .ok (.iload 4, 2) := by decide +kernel
theorem dX12_isTrue_25 : decode cX12_isTrue 25 = .ok (.iadd, 1) := by decide +kernel
theorem dX12_isTrue_26 : decode cX12_isTrue 26 = .ok (.iaload, 1) := by decide +kernel
theorem dX12_isTrue_27 : decode cX12_isTrue 27 = .ok (.bipush 15, 2) := by decide +kernel
theorem dX12_isTrue_29 : decode cX12_isTrue 29 = .ok (.iand, 1) := by decide +kernel
theorem dX12_isTrue_30 : decode cX12_isTrue 30 = .ok (.istore 5, 2) := by decide +kernel
theorem dX12_isTrue_32 : decode cX12_isTrue 32 = .ok (.aload_n 0, 1) := by decide +kernel
theorem dX12_isTrue_33 : decode cX12_isTrue 33 = .ok (.getfield 20, 3) := by decide +kernel
theorem dX12_isTrue_36 : decode cX12_isTrue 36 = .ok (.sipush 400, 3) := by decide +kernel
theorem dX12_isTrue_39 : decode cX12_isTrue 39 = .ok (.iload_n 1, 1) := by decide +kernel
theorem dX12_isTrue_40 : decode cX12_isTrue 40 = .ok (.imul, 1) := by decide +kernel
theorem dX12_isTrue_41 : decode cX12_isTrue 41 = .ok (.iload 4, 2) := by decide +kernel
theorem dX12_isTrue_43 : decode cX12_isTrue 43 = .ok (.iadd, 1) := by decide +kernel
theorem dX12_isTrue_44 : decode cX12_isTrue 44 = .ok (.iaload, 1) := by decide +kernel
theorem dX12_isTrue_45 : decode cX12_isTrue 45 = .ok (.iconst 4, 1) := by decide +kernel
theorem dX12_isTrue_46 : decode cX12_isTrue 46 = .ok (.ishr, 1) := by decide +kernel
theorem dX12_isTrue_47 : decode cX12_isTrue 47 = .ok (.istore 6, 2) := by decide +kernel
theorem dX12_isTrue_49 : decode cX12_isTrue 49 = .ok (.iload 5, 2) := by decide +kernel
theorem dX12_isTrue_51 : decode cX12_isTrue 51 = .ok (.ifCond .ne 12, 3) := by decide +kernel
theorem dX12_isTrue_54 : decode cX12_isTrue 54 = .ok (.aload_n 0, 1) := by decide +kernel
theorem dX12_isTrue_55 : decode cX12_isTrue 55 = .ok (.iload 6, 2) := by decide +kernel
theorem dX12_isTrue_57 : decode cX12_isTrue 57 = .ok (.invokevirtual 294, 3) := by decide +kernel
theorem dX12_isTrue_60 : decode cX12_isTrue 60 = .ok (.goto 126, 3) := by decide +kernel
theorem dX12_isTrue_63 : decode cX12_isTrue 63 = .ok (.iload 5, 2) := by decide +kernel
theorem dX12_isTrue_65 : decode cX12_isTrue 65 = .ok (.iconst 1, 1) := by decide +kernel
theorem dX12_isTrue_66 : decode cX12_isTrue 66 = .ok (.if_icmp .ne 17, 3) := by decide +kernel
theorem dX12_isTrue_69 : decode cX12_isTrue 69 = .ok (.aload_n 0, 1) := by decide +kernel
theorem dX12_isTrue_70 : decode cX12_isTrue 70 = .ok (.aload_n 0, 1) := by decide +kernel
theorem dX12_isTrue_71 : decode cX12_isTrue 71 = .ok (.getfield 47, 3) := by decide +kernel
theorem dX12_isTrue_74 : decode cX12_isTrue 74 = .ok (.iload 6, 2) := by decide +kernel
theorem dX12_isTrue_76 : decode cX12_isTrue 76 = .ok (.iaload, 1) := by decide +kernel
theorem dX12_isTrue_77 : decode cX12_isTrue 77 = .ok (.invokevirtual 294, 3) := by decide +kernel
theorem dX12_isTrue_80 : decode cX12_isTrue 80 = .ok (.goto 106, 3) := by decide +kernel
theorem dX12_isTrue_83 : decode cX12_isTrue 83 = .ok (.iload 5, 2) := by decide +kernel
theorem dX12_isTrue_85 : decode cX12_isTrue 85 = .ok (.bipush 9, 2) := by decide +kernel
theorem dX12_isTrue_87 : decode cX12_isTrue 87 = .ok (.if_icmp .ne 16, 3) := by decide +kernel
theorem dX12_isTrue_90 : decode cX12_isTrue 90 = .ok (.aload_n 0, 1) := by decide +kernel
theorem dX12_isTrue_91 : decode cX12_isTrue 91 = .ok (.iconst 1, 1) := by decide +kernel
theorem dX12_isTrue_92 : decode cX12_isTrue 92 = .ok (.aload_n 0, 1) := by decide +kernel
theorem dX12_isTrue_93 : decode cX12_isTrue 93 = .ok (.invokevirtual 297, 3) := by decide +kernel
theorem dX12_isTrue_96 : decode cX12_isTrue 96 = .ok (.isub, 1) := by decide +kernel
theorem dX12_isTrue_97 : decode cX12_isTrue 97 = .ok (.invokevirtual 294, 3) := by decide +kernel
theorem dX12_isTrue_100 : decode cX12_isTrue 100 = .ok (.goto 86, 3) := by decide +kernel
theorem dX12_isTrue_103 : decode cX12_isTrue 103 = .ok (.aload_n 0, 1) := by decide +kernel
theorem dX12_isTrue_104 : decode cX12_isTrue 104 = .ok (.invokevirtual 297, 3) := by decide +kernel
theorem dX12_isTrue_107 : decode cX12_isTrue 107 = .ok (.istore 7, 2) := by decide +kernel
theorem dX12_isTrue_109 : decode cX12_isTrue 109 = .ok (.aload_n 0, 1) := by decide +kernel
theorem dX12_isTrue_110 : decode cX12_isTrue 110 = .ok (.invokevirtual 297, 3) := by decide +kernel
theorem dX12_isTrue_113 : decode cX12_isTrue 113 = .ok (.istore 8, 2) := by decide +kernel
theorem dX12_isTrue_115 : decode cX12_isTrue 115 = .ok (.aload_n 0, 1) := by decide +kernel
theorem dX12_isTrue_116 : decode cX12_isTrue 116 = .ok (.iload 5, 2) := by decide +kernel
theorem dX12_isTrue_118 : decode cX12_isTrue 118 = .ok (.iconst 2, 1) := by decide +kernel
theorem dX12_isTrue_119 : decode cX12_isTrue 119 = .ok (.if_icmp .ne 11, 3) := by decide +kernel
theorem dX12_isTrue_122 : decode cX12_isTrue 122 = .ok (.iload 8, 2) := by decide +kernel
theorem dX12_isTrue_124 : decode cX12_isTrue 124 = .ok (.iload 7, 2) := by decide +kernel
theorem dX12_isTrue_126 : decode cX12_isTrue 126 = .ok (.iadd, 1) := by decide +kernel
theorem dX12_isTrue_127 : decode cX12_isTrue 127 = .ok (.goto 56, 3) := by decide +kernel
theorem dX12_isTrue_130 : decode cX12_isTrue 130 = .ok (.iload 5, 2) := by decide +kernel
theorem dX12_isTrue_132 : decode cX12_isTrue 132 = .ok (.iconst 3, 1) := by decide +kernel
theorem dX12_isTrue_133 : decode cX12_isTrue 133 = .ok (.if_icmp .ne 11, 3) := by decide +kernel
theorem dX12_isTrue_136 : decode cX12_isTrue 136 = .ok (.iload 8, 2) := by decide +kernel
theorem dX12_isTrue_138 : decode cX12_isTrue 138 = .ok (.iload 7, 2) := by decide +kernel
theorem dX12_isTrue_140 : decode cX12_isTrue 140 = .ok (.isub, 1) := by decide +kernel
theorem dX12_isTrue_141 : decode cX12_isTrue 141 = .ok (.goto 42, 3) := by decide +kernel
theorem dX12_isTrue_144 : decode cX12_isTrue 144 = .ok (.iload 5, 2) := by decide +kernel
theorem dX12_isTrue_146 : decode cX12_isTrue 146 = .ok (.bipush 10, 2) := by decide +kernel
theorem dX12_isTrue_148 : decode cX12_isTrue 148 = .ok (.if_icmp .ne 11, 3) := by decide +kernel
theorem dX12_isTrue_151 : decode cX12_isTrue 151 = .ok (.iload 8, 2) := by decide +kernel
theorem dX12_isTrue_153 : decode cX12_isTrue 153 = .ok (.iload 7, 2) := by decide +kernel
theorem dX12_isTrue_155 : decode cX12_isTrue 155 = .ok (.iand, 1) := by decide +kernel
theorem dX12_isTrue_156 : decode cX12_isTrue 156 = .ok (.goto 27, 3) := by decide +kernel
theorem dX12_isTrue_159 : decode cX12_isTrue 159 = .ok (.iload 5, 2) := by decide +kernel
theorem dX12_isTrue_161 : decode cX12_isTrue 161 = .ok (.bipush 11, 2) := by decide +kernel
theorem dX12_isTrue_163 : decode cX12_isTrue 163 = .ok (.if_icmp .ne 11, 3) := by decide +kernel
theorem dX12_isTrue_166 : decode cX12_isTrue 166 = .ok (.iload 8, 2) := by decide +kernel
theorem dX12_isTrue_168 : decode cX12_isTrue 168 = .ok (.iload 7, 2) := by decide +kernel
theorem dX12_isTrue_170 : decode cX12_isTrue 170 = .ok (.ior, 1) := by decide +kernel
theorem dX12_isTrue_171 : decode cX12_isTrue 171 = .ok (.goto 12, 3) := by decide +kernel
theorem dX12_isTrue_174 : decode cX12_isTrue 174 = .ok (.iload 5, 2) := by decide +kernel
theorem dX12_isTrue_176 : decode cX12_isTrue 176 = .ok (.iload 8, 2) := by decide +kernel
theorem dX12_isTrue_178 : decode cX12_isTrue 178 = .ok (.iload 7, 2) := by decide +kernel
theorem dX12_isTrue_180 : decode cX12_isTrue 180 = .ok (.invokestatic 300, 3) := by decide +kernel
theorem dX12_isTrue_183 : decode cX12_isTrue 183 = .ok (.invokevirtual 294, 3) := by decide +kernel
theorem dX12_isTrue_186 : decode cX12_isTrue 186 = .ok (.iinc 4 1, 3) := by decide +kernel
theorem dX12_isTrue_189 : decode cX12_isTrue 189 = .ok (.goto (-181), 3) := by decide +kernel
theorem dX12_isTrue_192 : decode cX12_isTrue 192 = .ok (.aload_n 0, 1) := by decide +kernel
theorem dX12_isTrue_193 : decode cX12_isTrue 193 = .ok (.invokevirtual 297, 3) := by decide +kernel
theorem dX12_isTrue_196 : decode cX12_isTrue 196 = .ok (.iconst 1, 1) := by decide +kernel
theorem dX12_isTrue_197 : decode cX12_isTrue 197 = .ok (.if_icmp .ne 7, 3) := by decide +kernel
theorem dX12_isTrue_200 : decode cX12_isTrue 200 = .ok (.iconst 1, 1) := by decide +kernel
theorem dX12_isTrue_201 : decode cX12_isTrue 201 = .ok (.goto 4, 3) := by decide +kernel
theorem dX12_isTrue_204 : decode cX12_isTrue 204 = .ok (.iconst 0, 1) := by decide +kernel
theorem dX12_isTrue_205 : decode cX12_isTrue 205 = .ok (.ireturn, 1) := by decide +kernel
theorem dX12_words_0 : decode cX12_words 0 = .ok (.aload_n 0, 1) := by decide +kernel
theorem dX12_words_1 : decode cX12_words 1 = .ok (.getfield 47, 3) := by decide +kernel
theorem dX12_words_4 : decode cX12_words 4 = .ok (.iconst 0, 1) := by decide +kernel
theorem dX12_words_5 : decode cX12_words 5 = .ok (.aload_n 0, 1) := by decide +kernel
theorem dX12_words_6 : decode cX12_words 6 = .ok (.getfield 7, 3) := by decide +kernel
theorem dX12_words_9 : decode cX12_words 9 = .ok (.iconst 4, 1) := by decide +kernel
theorem dX12_words_10 : decode cX12_words 10 = .ok (.iload_n 1, 1) := by decide +kernel
theorem dX12_words_11 : decode cX12_words 11 = .ok (.imul, 1) := by decide +kernel
theorem dX12_words_12 : decode cX12_words 12 = .ok (.iaload, 1) := by decide +kernel
theorem dX12_words_13 : decode cX12_words 13 = .ok (.iastore, 1) := by decide +kernel
theorem dX12_words_14 : decode cX12_words 14 = .ok (.aload_n 0, 1) := by decide +kernel
theorem dX12_words_15 : decode cX12_words 15 = .ok (.getfield 47, 3) := by decide +kernel
theorem dX12_words_18 : decode cX12_words 18 = .ok (.iconst 1, 1) := by decide +kernel
theorem dX12_words_19 : decode cX12_words 19 = .ok (.aload_n 0, 1) := by decide +kernel
theorem dX12_words_20 : decode cX12_words 20 = .ok (.getfield 7, 3) := by decide +kernel
theorem dX12_words_23 : decode cX12_words 23 = .ok (.iconst 4, 1) := by decide +kernel
theorem dX12_words_24 : decode cX12_words 24 = .ok (.iload_n 1, 1) := by decide +kernel
theorem dX12_words_25 : decode cX12_words 25 = .ok (.imul, 1) := by decide +kernel
theorem dX12_words_26 : decode cX12_words 26 = .ok (.iconst 1, 1) := by decide +kernel
theorem dX12_words_27 : decode cX12_words 27 = .ok (.iadd, 1) := by decide +kernel
theorem dX12_words_28 : decode cX12_words 28 = .ok (.iaload, 1) := by decide +kernel
theorem dX12_words_29 : decode cX12_words 29 = .ok (.iastore, 1) := by decide +kernel
theorem dX12_words_30 : decode cX12_words 30 = .ok (.aload_n 0, 1) := by decide +kernel
theorem dX12_words_31 : decode cX12_words 31 = .ok (.getfield 47, 3) := by decide +kernel
theorem dX12_words_34 : decode cX12_words 34 = .ok (.iconst 2, 1) := by decide +kernel
theorem dX12_words_35 : decode cX12_words 35 = .ok (.aload_n 0, 1) := by decide +kernel
theorem dX12_words_36 : decode cX12_words 36 = .ok (.getfield 7, 3) := by decide +kernel
theorem dX12_words_39 : decode cX12_words 39 = .ok (.iconst 4, 1) := by decide +kernel
theorem dX12_words_40 : decode cX12_words 40 = .ok (.iload_n 2, 1) := by decide +kernel
theorem dX12_words_41 : decode cX12_words 41 = .ok (.imul, 1) := by decide +kernel
theorem dX12_words_42 : decode cX12_words 42 = .ok (.iaload, 1) := by decide +kernel
theorem dX12_words_43 : decode cX12_words 43 = .ok (.iastore, 1) := by decide +kernel
theorem dX12_words_44 : decode cX12_words 44 = .ok (.aload_n 0, 1) := by decide +kernel
theorem dX12_words_45 : decode cX12_words 45 = .ok (.getfield 47, 3) := by decide +kernel
theorem dX12_words_48 : decode cX12_words 48 = .ok (.iconst 3, 1) := by decide +kernel
theorem dX12_words_49 : decode cX12_words 49 = .ok (.aload_n 0, 1) := by decide +kernel
theorem dX12_words_50 : decode cX12_words 50 = .ok (.getfield 7, 3) := by decide +kernel
theorem dX12_words_53 : decode cX12_words 53 = .ok (.iconst 4, 1) := by decide +kernel
theorem dX12_words_54 : decode cX12_words 54 = .ok (.iload_n 2, 1) := by decide +kernel
theorem dX12_words_55 : decode cX12_words 55 = .ok (.imul, 1) := by decide +kernel
theorem dX12_words_56 : decode cX12_words 56 = .ok (.iconst 1, 1) := by decide +kernel
theorem dX12_words_57 : decode cX12_words 57 = .ok (.iadd, 1) := by decide +kernel
theorem dX12_words_58 : decode cX12_words 58 = .ok (.iaload, 1) := by decide +kernel
theorem dX12_words_59 : decode cX12_words 59 = .ok (.iastore, 1) := by decide +kernel
theorem dX12_words_60 : decode cX12_words 60 = .ok (.aload_n 0, 1) := by decide +kernel
theorem dX12_words_61 : decode cX12_words 61 = .ok (.getfield 47, 3) := by decide +kernel
theorem dX12_words_64 : decode cX12_words 64 = .ok (.iconst 4, 1) := by decide +kernel
theorem dX12_words_65 : decode cX12_words 65 = .ok (.aload_n 0, 1) := by decide +kernel
theorem dX12_words_66 : decode cX12_words 66 = .ok (.getfield 7, 3) := by decide +kernel
theorem dX12_words_69 : decode cX12_words 69 = .ok (.iconst 4, 1) := by decide +kernel
theorem dX12_words_70 : decode cX12_words 70 = .ok (.iload_n 1, 1) := by decide +kernel
theorem dX12_words_71 : decode cX12_words 71 = .ok (.imul, 1) := by decide +kernel
theorem dX12_words_72 : decode cX12_words 72 = .ok (.iconst 2, 1) := by decide +kernel
theorem dX12_words_73 : decode cX12_words 73 = .ok (.iadd, 1) := by decide +kernel
theorem dX12_words_74 : decode cX12_words 74 = .ok (.iaload, 1) := by decide +kernel
theorem dX12_words_75 : decode cX12_words 75 = .ok (.aload_n 0, 1) := by decide +kernel
theorem dX12_words_76 : decode cX12_words 76 = .ok (.getfield 7, 3) := by decide +kernel
theorem dX12_words_79 : decode cX12_words 79 = .ok (.iconst 4, 1) := by decide +kernel
theorem dX12_words_80 : decode cX12_words 80 = .ok (.iload_n 2, 1) := by decide +kernel
theorem dX12_words_81 : decode cX12_words 81 = .ok (.imul, 1) := by decide +kernel
theorem dX12_words_82 : decode cX12_words 82 = .ok (.iconst 2, 1) := by decide +kernel
theorem dX12_words_83 : decode cX12_words 83 = .ok (.iadd, 1) := by decide +kernel
theorem dX12_words_84 : decode cX12_words 84 = .ok (.iaload, 1) := by decide +kernel
theorem dX12_words_85 : decode cX12_words 85 = .ok (.if_icmp .ne 7, 3) := by decide +kernel
theorem dX12_words_88 : decode cX12_words 88 = .ok (.iconst 1, 1) := by decide +kernel
theorem dX12_words_89 : decode cX12_words 89 = .ok (.goto 4, 3) := by decide +kernel
theorem dX12_words_92 : decode cX12_words 92 = .ok (.iconst 0, 1) := by decide +kernel
theorem dX12_words_93 : decode cX12_words 93 = .ok (.iastore, 1) := by decide +kernel
theorem dX12_words_94 : decode cX12_words 94 = .ok (.aload_n 0, 1) := by decide +kernel
theorem dX12_words_95 : decode cX12_words 95 = .ok (.getfield 47, 3) := by decide +kernel
theorem dX12_words_98 : decode cX12_words 98 = .ok (.iconst 5, 1) := by decide +kernel
theorem dX12_words_99 : decode cX12_words 99 = .ok (.aload_n 0, 1) := by decide +kernel
theorem dX12_words_100 : decode cX12_words 100 = .ok (.getfield 13, 3) := by decide +kernel
theorem dX12_words_103 : decode cX12_words 103 = .ok (.bipush 12, 2) := by decide +kernel
theorem dX12_words_105 : decode cX12_words 105 = .ok (.iload_n 1, 1) := by decide +kernel
theorem dX12_words_106 : decode cX12_words 106 = .ok (.imul, 1) := by decide +kernel
theorem dX12_words_107 : decode cX12_words 107 = .ok (.iload_n 2, 1) := by decide +kernel
theorem dX12_words_108 : decode cX12_words 108 = .ok (.iadd, 1) := by decide +kernel
theorem dX12_words_109 : decode cX12_words 109 = .ok (.iaload, 1) := by decide +kernel
theorem dX12_words_110 : decode cX12_words 110 = .ok (.iastore, 1) := by decide +kernel
theorem dX12_words_111 : decode cX12_words 111 = .ok (.aload_n 0, 1) := by decide +kernel
theorem dX12_words_112 : decode cX12_words 112 = .ok (.getfield 47, 3) := by decide +kernel
theorem dX12_words_115 : decode cX12_words 115 = .ok (.bipush 6, 2) := by decide +kernel
theorem dX12_words_117 : decode cX12_words 117 = .ok (.iload_n 3, 1) := by decide +kernel
theorem dX12_words_118 : decode cX12_words 118 = .ok (.iastore, 1) := by decide +kernel
theorem dX12_words_119 : decode cX12_words 119 = .ok (.aload_n 0, 1) := by decide +kernel
theorem dX12_words_120 : decode cX12_words 120 = .ok (.getfield 47, 3) := by decide +kernel
theorem dX12_words_123 : decode cX12_words 123 = .ok (.bipush 7, 2) := by decide +kernel
theorem dX12_words_125 : decode cX12_words 125 = .ok (.iload 4, 2) := by decide +kernel
theorem dX12_words_127 : decode cX12_words 127 = .ok (.iastore, 1) := by decide +kernel
theorem dX12_words_128 : decode cX12_words 128 = .ok (.aload_n 0, 1) := by decide +kernel
theorem dX12_words_129 : decode cX12_words 129 = .ok (.getfield 47, 3) := by decide +kernel
theorem dX12_words_132 : decode cX12_words 132 = .ok (.bipush 8, 2) := by decide +kernel
theorem dX12_words_134 : decode cX12_words 134 = .ok (.iload 5, 2) := by decide +kernel
theorem dX12_words_136 : decode cX12_words 136 = .ok (.iastore, 1) := by decide +kernel
theorem dX12_words_137 : decode cX12_words 137 = .ok (.aload_n 0, 1) := by decide +kernel
theorem dX12_words_138 : decode cX12_words 138 = .ok (.getfield 47, 3) := by decide +kernel
theorem dX12_words_141 : decode cX12_words 141 = .ok (.bipush 9, 2) := by decide +kernel
theorem dX12_words_143 : decode cX12_words 143 = .ok (.iload 6, 2) := by decide +kernel
theorem dX12_words_145 : decode cX12_words 145 = .ok (.iastore, 1) := by decide +kernel
theorem dX12_words_146 : decode cX12_words 146 = .ok (.return_, 1) := by decide +kernel
theorem dX12_weigh_0 : decode cX12_weigh 0 = .ok (.iconst 0, 1) := by decide +kernel
theorem dX12_weigh_1 : decode cX12_weigh 1 = .ok (.istore 4, 2) := by decide +kernel
theorem dX12_weigh_3 : decode cX12_weigh 3 = .ok (.iconst 0, 1) := by decide +kernel
theorem dX12_weigh_4 : decode cX12_weigh 4 = .ok (.istore 5, 2) := by decide +kernel
theorem dX12_weigh_6 : decode cX12_weigh 6 = .ok (.iload 5, 2) := by decide +kernel
theorem dX12_weigh_8 : decode cX12_weigh 8 = .ok (.aload_n 0, 1) := by decide +kernel
theorem dX12_weigh_9 : decode cX12_weigh 9 = .ok (.getfield 29, 3) := by decide +kernel
theorem dX12_weigh_12 : decode cX12_weigh 12 = .ok (.iload_n 1, 1) := by decide +kernel
theorem dX12_weigh_13 : decode cX12_weigh 13 = .ok (.iaload, 1) := by decide +kernel
theorem dX12_weigh_14 : decode cX12_weigh 14 = .ok (.if_icmp .ge 160, 3) := by decide +kernel
theorem dX12_weigh_17 : decode cX12_weigh 17 = .ok (.bipush 70, 2) := by decide +kernel
theorem dX12_weigh_19 : decode cX12_weigh 19 = .ok (.iload_n 1, 1) := by decide +kernel
theorem dX12_weigh_20 : decode cX12_weigh 20 = .ok (.imul, 1) := by decide +kernel
theorem dX12_weigh_21 : decode cX12_weigh 21 = .ok (.iconst 5, 1) := by decide +kernel
theorem dX12_weigh_22 : decode cX12_weigh 22 = .ok (.iload 5, 2) := by decide +kernel
theorem dX12_weigh_24 : decode cX12_weigh 24 = .ok (.imul, 1) := by decide +kernel
theorem dX12_weigh_25 : decode cX12_weigh 25 = .ok (.iadd, 1) := by decide +kernel
theorem dX12_weigh_26 : decode cX12_weigh 26 = .ok (.istore 6, 2) := by decide +kernel
theorem dX12_weigh_28 : decode cX12_weigh 28 = .ok (.aload_n 0, 1) := by decide +kernel
theorem dX12_weigh_29 : decode cX12_weigh 29 = .ok (.getfield 26, 3) := by decide +kernel
theorem dX12_weigh_32 : decode cX12_weigh 32 = .ok (.iload 6, 2) := by decide +kernel
theorem dX12_weigh_34 : decode cX12_weigh 34 = .ok (.iaload, 1) := by decide +kernel
theorem dX12_weigh_35 : decode cX12_weigh 35 = .ok (.iconst 1, 1) := by decide +kernel
theorem dX12_weigh_36 : decode cX12_weigh 36 = .ok (.if_icmp .ne 20, 3) := by decide +kernel
theorem dX12_weigh_39 : decode cX12_weigh 39 = .ok (.aload_n 0, 1) := by decide +kernel
theorem dX12_weigh_40 : decode cX12_weigh 40 = .ok (.getfield 304, 3) := by decide +kernel
theorem dX12_weigh_43 : decode cX12_weigh 43 = .ok (.iload 4, 2) := by decide +kernel
theorem dX12_weigh_45 : decode cX12_weigh 45 = .ok (.ishr, 1) := by decide +kernel
theorem dX12_weigh_46 : decode cX12_weigh 46 = .ok (.iconst 1, 1) := by decide +kernel
theorem dX12_weigh_47 : decode cX12_weigh 47 = .ok (.iand, 1) := by decide +kernel
theorem dX12_weigh_48 : decode cX12_weigh 48 = .ok (.iconst 1, 1) := by decide +kernel
theorem dX12_weigh_49 : decode cX12_weigh 49 = .ok (.if_icmp .ne 7, 3) := by decide +kernel
theorem dX12_weigh_52 : decode cX12_weigh 52 = .ok (.iconst 1, 1) := by decide +kernel
theorem dX12_weigh_53 : decode cX12_weigh 53 = .ok (.goto 4, 3) := by decide +kernel
theorem dX12_weigh_56 : decode cX12_weigh 56 = .ok (.iconst 0, 1) := by decide +kernel
theorem dX12_weigh_57 : decode cX12_weigh 57 = .ok (.istore 7, 2) := by decide +kernel
theorem dX12_weigh_59 : decode cX12_weigh 59 = .ok (.iload 4, 2) := by decide +kernel
theorem dX12_weigh_61 : decode cX12_weigh 61 = .ok (.aload_n 0, 1) := by decide +kernel
theorem dX12_weigh_62 : decode cX12_weigh 62 = .ok (.getfield 26, 3) := by decide +kernel
theorem dX12_weigh_65 : decode cX12_weigh 65 = .ok (.iload 6, 2) := by decide +kernel
theorem dX12_weigh_67 : decode cX12_weigh 67 = .ok (.iaload, 1) := by decide +kernel
theorem dX12_weigh_68 : decode cX12_weigh 68 = .ok (.iconst 1, 1) := by decide +kernel
theorem dX12_weigh_69 : decode cX12_weigh 69 = .ok (.if_icmp .ne 7, 3) := by decide +kernel
theorem dX12_weigh_72 : decode cX12_weigh 72 = .ok (.iconst 1, 1) := by decide +kernel
theorem dX12_weigh_73 : decode cX12_weigh 73 = .ok (.goto 4, 3) := by decide +kernel
theorem dX12_weigh_76 : decode cX12_weigh 76 = .ok (.iconst 0, 1) := by decide +kernel
theorem dX12_weigh_77 : decode cX12_weigh 77 = .ok (.iadd, 1) := by decide +kernel
theorem dX12_weigh_78 : decode cX12_weigh 78 = .ok (.istore 4, 2) := by decide +kernel
theorem dX12_weigh_80 : decode cX12_weigh 80 = .ok (.aload_n 0, 1) := by decide +kernel
theorem dX12_weigh_81 : decode cX12_weigh 81 = .ok (.getfield 26, 3) := by decide +kernel
theorem dX12_weigh_84 : decode cX12_weigh 84 = .ok (.iload 6, 2) := by decide +kernel
theorem dX12_weigh_86 : decode cX12_weigh 86 = .ok (.iaload, 1) := by decide +kernel
theorem dX12_weigh_87 : decode cX12_weigh 87 = .ok (.iload_n 2, 1) := by decide +kernel
theorem dX12_weigh_88 : decode cX12_weigh 88 = .ok (.if_icmp .ne 80, 3) := by decide +kernel
theorem dX12_weigh_91 : decode cX12_weigh 91 = .ok (.aload_n 0, 1) := by decide +kernel
theorem dX12_weigh_92 : decode cX12_weigh 92 = .ok (.getfield 26, 3) := by decide +kernel
theorem dX12_weigh_95 : decode cX12_weigh 95 = .ok (.iload 6, 2) := by decide +kernel
theorem dX12_weigh_97 : decode cX12_weigh 97 = .ok (.iconst 1, 1) := by decide +kernel
theorem dX12_weigh_98 : decode cX12_weigh 98 = .ok (.iadd, 1) := by decide +kernel
theorem dX12_weigh_99 : decode cX12_weigh 99 = .ok (.iaload, 1) := by decide +kernel
theorem dX12_weigh_100 : decode cX12_weigh 100 = .ok (.iload_n 3, 1) := by decide +kernel
theorem dX12_weigh_101 : decode cX12_weigh 101 = .ok (.if_icmp .eq 6, 3) := by decide +kernel
theorem dX12_weigh_104 : decode cX12_weigh 104 = .ok (.goto 64, 3) := by decide +kernel
theorem dX12_weigh_107 : decode cX12_weigh 107 = .ok (.aload_n 0, 1) := by decide +kernel
theorem dX12_weigh_108 : decode cX12_weigh 108 = .ok (.getfield 26, 3) := by decide +kernel
theorem dX12_weigh_111 : decode cX12_weigh 111 = .ok (.iload 6, 2) := by decide +kernel
theorem dX12_weigh_113 : decode cX12_weigh 113 = .ok (.iconst 3, 1) := by decide +kernel
theorem dX12_weigh_114 : decode cX12_weigh 114 = .ok (.iadd, 1) := by decide +kernel
theorem dX12_weigh_115 : decode cX12_weigh 115 = .ok (.iaload, 1) := by decide +kernel
theorem dX12_weigh_116 : decode cX12_weigh 116 = .ok (.ifCond .lt 32, 3) := by decide +kernel
theorem dX12_weigh_119 : decode cX12_weigh 119 = .ok (.aload_n 0, 1) := by decide +kernel
theorem dX12_weigh_120 : decode cX12_weigh 120 = .ok (.iload_n 1, 1) := by decide +kernel
theorem dX12_weigh_121 : decode cX12_weigh 121 = .ok (.aload_n 0, 1) := by decide +kernel
theorem dX12_weigh_122 : decode cX12_weigh 122 = .ok (.getfield 26, 3) := by decide +kernel
theorem dX12_weigh_125 : decode cX12_weigh 125 = .ok (.iload 6, 2) := by decide +kernel
theorem dX12_weigh_127 : decode cX12_weigh 127 = .ok (.iconst 3, 1) := by decide +kernel
theorem dX12_weigh_128 : decode cX12_weigh 128 = .ok (.iadd, 1) := by decide +kernel
theorem dX12_weigh_129 : decode cX12_weigh 129 = .ok (.iaload, 1) := by decide +kernel
theorem dX12_weigh_130 : decode cX12_weigh 130 = .ok (.aload_n 0, 1) := by decide +kernel
theorem dX12_weigh_131 : decode cX12_weigh 131 = .ok (.getfield 26, 3) := by decide +kernel
theorem dX12_weigh_134 : decode cX12_weigh 134 = .ok (.iload 6, 2) := by decide +kernel
theorem dX12_weigh_136 : decode cX12_weigh 136 = .ok (.iconst 4, 1) := by decide +kernel
theorem dX12_weigh_137 : decode cX12_weigh 137 = .ok (.iadd, 1) := by decide +kernel
theorem dX12_weigh_138 : decode cX12_weigh 138 = .ok (.iaload, 1) := by decide +kernel
theorem dX12_weigh_139 : decode cX12_weigh 139 = .ok (.invokevirtual 307, 3) := by decide +kernel
theorem dX12_weigh_142 : decode cX12_weigh 142 = .ok (.ifCond .ne 6, 3) := by decide +kernel
theorem dX12_weigh_145 : decode cX12_weigh 145 = .ok (.goto 23, 3) := by decide +kernel
theorem dX12_weigh_148 : decode cX12_weigh 148 = .ok (.iload 7, 2) := by decide +kernel
theorem dX12_weigh_150 : decode cX12_weigh 150 = .ok (.ifCond .eq 8, 3) := by decide +kernel
theorem dX12_weigh_153 : decode cX12_weigh 153 = .ok (.bipush 15, 2) := by decide +kernel
theorem dX12_weigh_155 : decode cX12_weigh 155 = .ok (.goto 12, 3) := by decide +kernel
theorem dX12_weigh_158 : decode cX12_weigh 158 = .ok (.aload_n 0, 1) := by decide +kernel
theorem dX12_weigh_159 : decode cX12_weigh 159 = .ok (.getfield 26, 3) := by decide +kernel
theorem dX12_weigh_162 : decode cX12_weigh 162 = .ok (.iload 6, 2) := by decide +kernel
theorem dX12_weigh_164 : decode cX12_weigh 164 = .ok (.iconst 2, 1) := by decide +kernel
theorem dX12_weigh_165 : decode cX12_weigh 165 = .ok (.iadd, 1) := by decide +kernel
theorem dX12_weigh_166 : decode cX12_weigh 166 = .ok (.iaload, 1) := by decide +kernel
theorem dX12_weigh_167 : decode cX12_weigh 167 = .ok (.ireturn, 1) := by decide +kernel
theorem dX12_weigh_168 : decode cX12_weigh 168 = .ok (.iinc 5 1, 3) := by decide +kernel
theorem dX12_weigh_171 : decode cX12_weigh 171 = .ok (.goto (-165), 3) := by decide +kernel
theorem dX12_weigh_174 : decode cX12_weigh 174 = .ok (.iconst (-1), 1) := by decide +kernel
theorem dX12_weigh_175 : decode cX12_weigh 175 = .ok (.ireturn, 1) := by decide +kernel
theorem dX12_degree_0 : decode cX12_degree 0 = .ok (.aload_n 0, 1) := by decide +kernel
theorem dX12_degree_1 : decode cX12_degree 1 = .ok (.iload_n 1, 1) := by decide +kernel
theorem dX12_degree_2 : decode cX12_degree 2 = .ok (.iconst 0, 1) := by decide +kernel
theorem dX12_degree_3 : decode cX12_degree 3 = .ok (.iload_n 2, 1) := by decide +kernel
theorem dX12_degree_4 : decode cX12_degree 4 = .ok (.invokevirtual 311, 3) := by decide +kernel
theorem dX12_degree_7 : decode cX12_degree 7 = .ok (.istore_n 3, 1) := by decide +kernel
theorem dX12_degree_8 : decode cX12_degree 8 = .ok (.iload_n 3, 1) := by decide +kernel
theorem dX12_degree_9 : decode cX12_degree 9 = .ok (.ifCond .ge 7, 3) := by decide +kernel
theorem dX12_degree_12 : decode cX12_degree 12 = .ok (.iconst 0, 1) := by decide +kernel
theorem dX12_degree_13 : decode cX12_degree 13 = .ok (.goto 4, 3) := by decide +kernel
theorem dX12_degree_16 : decode cX12_degree 16 = .ok (.iload_n 3, 1) := by decide +kernel
theorem dX12_degree_17 : decode cX12_degree 17 = .ok (.ireturn, 1) := by decide +kernel
theorem dX12_takes_0 : decode cX12_takes 0 = .ok (.aload_n 0, 1) := by decide +kernel
theorem dX12_takes_1 : decode cX12_takes 1 = .ok (.iload_n 1, 1) := by decide +kernel
theorem dX12_takes_2 : decode cX12_takes 2 = .ok (.iconst 1, 1) := by decide +kernel
theorem dX12_takes_3 : decode cX12_takes 3 = .ok (.iload_n 2, 1) := by decide +kernel
theorem dX12_takes_4 : decode cX12_takes 4 = .ok (.invokevirtual 311, 3) := by decide +kernel
theorem dX12_takes_7 : decode cX12_takes 7 = .ok (.istore_n 3, 1) := by decide +kernel
theorem dX12_takes_8 : decode cX12_takes 8 = .ok (.iload_n 3, 1) := by decide +kernel
theorem dX12_takes_9 : decode cX12_takes 9 = .ok (.ifCond .ge 7, 3) := by decide +kernel
theorem dX12_takes_12 : decode cX12_takes 12 = .ok (.iconst 0, 1) := by decide +kernel
theorem dX12_takes_13 : decode cX12_takes 13 = .ok (.goto 4, 3) := by decide +kernel
theorem dX12_takes_16 : decode cX12_takes 16 = .ok (.iload_n 3, 1) := by decide +kernel
theorem dX12_takes_17 : decode cX12_takes 17 = .ok (.ireturn, 1) := by decide +kernel
theorem dX12_mayRefuse_0 : decode cX12_mayRefuse 0 = .ok (.aload_n 0, 1) := by decide +kernel
theorem dX12_mayRefuse_1 : decode cX12_mayRefuse 1 = .ok (.iload_n 1, 1) := by decide +kernel
theorem dX12_mayRefuse_2 : decode cX12_mayRefuse 2 = .ok (.iconst 2, 1) := by decide +kernel
theorem dX12_mayRefuse_3 : decode cX12_mayRefuse 3 = .ok (.iconst 0, 1) := by decide +kernel
theorem dX12_mayRefuse_4 : decode cX12_mayRefuse 4 = .ok (.invokevirtual 311, 3) := by decide +kernel
theorem dX12_mayRefuse_7 : decode cX12_mayRefuse 7 = .ok (.ifCond .lt 7, 3) := by decide +kernel
theorem dX12_mayRefuse_10 : decode cX12_mayRefuse 10 = .ok (.iconst 1, 1) := by decide +kernel
theorem dX12_mayRefuse_11 : decode cX12_mayRefuse 11 = .ok (.goto 4, 3) := by decide +kernel
theorem dX12_mayRefuse_14 : decode cX12_mayRefuse 14 = .ok (.iconst 0, 1) := by decide +kernel
theorem dX12_mayRefuse_15 : decode cX12_mayRefuse 15 = .ok (.ireturn, 1) := by decide +kernel
theorem dX12_weighs_0 : decode cX12_weighs 0 = .ok (.aload_n 0, 1) := by decide +kernel
theorem dX12_weighs_1 : decode cX12_weighs 1 = .ok (.iload_n 1, 1) := by decide +kernel
theorem dX12_weighs_2 : decode cX12_weighs 2 = .ok (.invokevirtual 286, 3) := by decide +kernel
theorem dX12_weighs_5 : decode cX12_weighs 5 = .ok (.ifCond .eq 77, 3) := by decide +kernel
theorem dX12_weighs_8 : decode cX12_weighs 8 = .ok (.aload_n 0, 1) := by decide +kernel
theorem dX12_weighs_9 : decode cX12_weighs 9 = .ok (.iload_n 2, 1) := by decide +kernel
theorem dX12_weighs_10 : decode cX12_weighs 10 = .ok (.iload_n 3, 1) := by decide +kernel
theorem dX12_weighs_11 : decode cX12_weighs 11 = .ok (.invokevirtual 107, 3) := by decide +kernel
theorem dX12_weighs_14 : decode cX12_weighs 14 = .ok (.ifCond .eq 68, 3) := by decide +kernel
theorem dX12_weighs_17 : decode cX12_weighs 17 = .ok (.iload 4, 2) := by decide +kernel
theorem dX12_weighs_19 : decode cX12_weighs 19 = .ok (.i2l, 1) := by decide +kernel
theorem dX12_weighs_20 : decode cX12_weighs 20 = .ok (.lconst 0, 1) := by decide +kernel
theorem dX12_weighs_21 : decode cX12_weighs 21 = .ok (.ldc2_w 101, 3) := by decide +kernel
theorem dX12_weighs_24 : decode cX12_weighs 24 = .ok (.invokestatic 97, 3) := by decide +kernel
theorem dX12_weighs_27 : decode cX12_weighs 27 = .ok (.ifCond .eq 55, 3) := by decide +kernel
theorem dX12_weighs_30 : decode cX12_weighs 30 = .ok (.iload 5, 2) := by decide +kernel
theorem dX12_weighs_32 : decode cX12_weighs 32 = .ok (.i2l, 1) := by decide +kernel
theorem dX12_weighs_33 : decode cX12_weighs 33 = .ok (.lconst 0, 1) := by decide +kernel
theorem dX12_weighs_34 : decode cX12_weighs 34 = .ok (.ldc2_w 314, 3) := by decide +kernel
theorem dX12_weighs_37 : decode cX12_weighs 37 = .ok (.invokestatic 97, 3) := by decide +kernel
theorem dX12_weighs_40 : decode cX12_weighs 40 = .ok (.ifCond .eq 42, 3) := by decide +kernel
theorem dX12_weighs_43 : decode cX12_weighs 43 = .ok (.iload 6, 2) := by decide +kernel
theorem dX12_weighs_45 : decode cX12_weighs 45 = .ok (.i2l, 1) := by decide +kernel
theorem dX12_weighs_46 : decode cX12_weighs 46 = .ok (.lconst 0, 1) := by decide +kernel
theorem dX12_weighs_47 : decode cX12_weighs 47 = .ok (.ldc2_w 314, 3) := by decide +kernel
theorem dX12_weighs_50 : decode cX12_weighs 50 = .ok (.invokestatic 97, 3) := by decide +kernel
theorem dX12_weighs_53 : decode cX12_weighs 53 = .ok (.ifCond .eq 29, 3) := by decide +kernel
theorem dX12_weighs_56 : decode cX12_weighs 56 = .ok (.iload 7, 2) := by decide +kernel
theorem dX12_weighs_58 : decode cX12_weighs 58 = .ok (.i2l, 1) := by decide +kernel
theorem dX12_weighs_59 : decode cX12_weighs 59 = .ok (.lconst 0, 1) := by decide +kernel
theorem dX12_weighs_60 : decode cX12_weighs 60 = .ok (.ldc2_w 316, 3) := by decide +kernel
theorem dX12_weighs_63 : decode cX12_weighs 63 = .ok (.invokestatic 97, 3) := by decide +kernel
theorem dX12_weighs_66 : decode cX12_weighs 66 = .ok (.ifCond .eq 16, 3) := by decide +kernel
theorem dX12_weighs_69 : decode cX12_weighs 69 = .ok (.iload 8, 2) := by decide +kernel
theorem dX12_weighs_71 : decode cX12_weighs 71 = .ok (.i2l, 1) := by decide +kernel
theorem dX12_weighs_72 : decode cX12_weighs 72 = .ok (.lconst 0, 1) := by decide +kernel
theorem dX12_weighs_73 : decode cX12_weighs 73 = .ok (.ldc2_w 316, 3) := by decide +kernel
theorem dX12_weighs_76 : decode cX12_weighs 76 = .ok (.invokestatic 97, 3) := by decide +kernel
theorem dX12_weighs_79 : decode cX12_weighs 79 = .ok (.ifCond .ne 5, 3) := by decide +kernel
theorem dX12_weighs_82 : decode cX12_weighs 82 = .ok (.iconst (-1), 1) := by decide +kernel
theorem dX12_weighs_83 : decode cX12_weighs 83 = .ok (.ireturn, 1) := by decide +kernel
theorem dX12_weighs_84 : decode cX12_weighs 84 = .ok (.aload_n 0, 1) := by decide +kernel
theorem dX12_weighs_85 : decode cX12_weighs 85 = .ok (.iload_n 2, 1) := by decide +kernel
theorem dX12_weighs_86 : decode cX12_weighs 86 = .ok (.iload_n 3, 1) := by decide +kernel
theorem dX12_weighs_87 : decode cX12_weighs 87 = .ok (.iload 4, 2) := by decide +kernel
theorem dX12_weighs_89 : decode cX12_weighs 89 = .ok (.iload 5, 2) := by decide +kernel
theorem dX12_weighs_91 : decode cX12_weighs 91 = .ok (.iload 6, 2) := by decide +kernel
theorem dX12_weighs_93 : decode cX12_weighs 93 = .ok (.iload 7, 2) := by decide +kernel
theorem dX12_weighs_95 : decode cX12_weighs 95 = .ok (.invokevirtual 318, 3) := by decide +kernel
theorem dX12_weighs_98 : decode cX12_weighs 98 = .ok (.iload 8, 2) := by decide +kernel
theorem dX12_weighs_100 : decode cX12_weighs 100 = .ok (.iconst 4, 1) := by decide +kernel
theorem dX12_weighs_101 : decode cX12_weighs 101 = .ok (.if_icmp .ge 13, 3) := by decide +kernel
theorem dX12_weighs_104 : decode cX12_weighs 104 = .ok (.aload_n 0, 1) := by decide +kernel
theorem dX12_weighs_105 : decode cX12_weighs 105 = .ok (.iload_n 1, 1) := by decide +kernel
theorem dX12_weighs_106 : decode cX12_weighs 106 = .ok (.iload 8, 2) := by decide +kernel
theorem dX12_weighs_108 : decode cX12_weighs 108 = .ok (.invokevirtual 322, 3) := by decide +kernel
theorem dX12_weighs_111 : decode cX12_weighs 111 = .ok (.goto 35, 3) := by decide +kernel
theorem dX12_weighs_114 : decode cX12_weighs 114 = .ok (.iload 8, 2) := by decide +kernel
theorem dX12_weighs_116 : decode cX12_weighs 116 = .ok (.bipush 8, 2) := by decide +kernel
theorem dX12_weighs_118 : decode cX12_weighs 118 = .ok (.if_icmp .ge 15, 3) := by decide +kernel
theorem dX12_weighs_121 : decode cX12_weighs 121 = .ok (.aload_n 0, 1) := by decide +kernel
theorem dX12_weighs_122 : decode cX12_weighs 122 = .ok (.iload_n 1, 1) := by decide +kernel
theorem dX12_weighs_123 : decode cX12_weighs 123 = .ok (.iload 8, 2) := by decide +kernel
theorem dX12_weighs_125 : decode cX12_weighs 125 = .ok (.iconst 4, 1) := by decide +kernel
theorem dX12_weighs_126 : decode cX12_weighs 126 = .ok (.isub, 1) := by decide +kernel
theorem dX12_weighs_127 : decode cX12_weighs 127 = .ok (.invokevirtual 326, 3) := by decide +kernel
theorem dX12_weighs_130 : decode cX12_weighs 130 = .ok (.goto 16, 3) := by decide +kernel
theorem dX12_weighs_133 : decode cX12_weighs 133 = .ok (.aload_n 0, 1) := by decide +kernel
theorem dX12_weighs_134 : decode cX12_weighs 134 = .ok (.iload_n 1, 1) := by decide +kernel
theorem dX12_weighs_135 : decode cX12_weighs 135 = .ok (.invokevirtual 329, 3) := by decide +kernel
theorem dX12_weighs_138 : decode cX12_weighs 138 = .ok (.ifCond .eq 7, 3) := by decide +kernel
theorem dX12_weighs_141 : decode cX12_weighs 141 = .ok (.iconst 1, 1) := by decide +kernel
theorem dX12_weighs_142 : decode cX12_weighs 142 = .ok (.goto 4, 3) := by decide +kernel
theorem dX12_weighs_145 : decode cX12_weighs 145 = .ok (.iconst 0, 1) := by decide +kernel
theorem dX12_weighs_146 : decode cX12_weighs 146 = .ok (.ireturn, 1) := by decide +kernel
theorem dX12_meets_0 : decode cX12_meets 0 = .ok (.aload_n 0, 1) := by decide +kernel
theorem dX12_meets_1 : decode cX12_meets 1 = .ok (.getfield 53, 3) := by decide +kernel
theorem dX12_meets_4 : decode cX12_meets 4 = .ok (.iconst 0, 1) := by decide +kernel
theorem dX12_meets_5 : decode cX12_meets 5 = .ok (.iload_n 1, 1) := by decide +kernel
theorem dX12_meets_6 : decode cX12_meets 6 = .ok (.iastore, 1) := by decide +kernel
theorem dX12_meets_7 : decode cX12_meets 7 = .ok (.aload_n 0, 1) := by decide +kernel
theorem dX12_meets_8 : decode cX12_meets 8 = .ok (.getfield 53, 3) := by decide +kernel
theorem dX12_meets_11 : decode cX12_meets 11 = .ok (.iconst 1, 1) := by decide +kernel
theorem dX12_meets_12 : decode cX12_meets 12 = .ok (.iload_n 2, 1) := by decide +kernel
theorem dX12_meets_13 : decode cX12_meets 13 = .ok (.iastore, 1) := by decide +kernel
theorem dX12_meets_14 : decode cX12_meets 14 = .ok (.aload_n 0, 1) := by decide +kernel
theorem dX12_meets_15 : decode cX12_meets 15 = .ok (.getfield 56, 3) := by decide +kernel
theorem dX12_meets_18 : decode cX12_meets 18 = .ok (.iconst 0, 1) := by decide +kernel
theorem dX12_meets_19 : decode cX12_meets 19 = .ok (.iload 4, 2) := by decide +kernel
theorem dX12_meets_21 : decode cX12_meets 21 = .ok (.iastore, 1) := by decide +kernel
theorem dX12_meets_22 : decode cX12_meets 22 = .ok (.aload_n 0, 1) := by decide +kernel
theorem dX12_meets_23 : decode cX12_meets 23 = .ok (.getfield 56, 3) := by decide +kernel
theorem dX12_meets_26 : decode cX12_meets 26 = .ok (.iconst 1, 1) := by decide +kernel
theorem dX12_meets_27 : decode cX12_meets 27 = .ok (.iload 5, 2) := by decide +kernel
theorem dX12_meets_29 : decode cX12_meets 29 = .ok (.iastore, 1) := by decide +kernel
theorem dX12_meets_30 : decode cX12_meets 30 = .ok (.aload_n 0, 1) := by decide +kernel
theorem dX12_meets_31 : decode cX12_meets 31 = .ok (.iload_n 3, 1) := by decide +kernel
theorem dX12_meets_32 : decode cX12_meets 32 = .ok (.putfield 332, 3) := by decide +kernel
theorem dX12_meets_35 : decode cX12_meets 35 = .ok (.aload_n 0, 1) := by decide +kernel
theorem dX12_meets_36 : decode cX12_meets 36 = .ok (.aload_n 0, 1) := by decide +kernel
theorem dX12_meets_37 : decode cX12_meets 37 = .ok (.getfield 38, 3) := by decide +kernel
theorem dX12_meets_40 : decode cX12_meets 40 = .ok (.iload 4, 2) := by decide +kernel
theorem dX12_meets_42 : decode cX12_meets 42 = .ok (.iaload, 1) := by decide +kernel
theorem dX12_meets_43 : decode cX12_meets 43 = .ok (.aload_n 0, 1) := by decide +kernel
theorem dX12_meets_44 : decode cX12_meets 44 = .ok (.getfield 38, 3) := by decide +kernel
theorem dX12_meets_47 : decode cX12_meets 47 = .ok (.iload 5, 2) := by decide +kernel
theorem dX12_meets_49 : decode cX12_meets 49 = .ok (.iaload, 1) := by decide +kernel
theorem dX12_meets_50 : decode cX12_meets 50 = .ok (.if_icmp .ge 13, 3) := by decide +kernel
theorem dX12_meets_53 : decode cX12_meets 53 = .ok (.aload_n 0, 1) := by decide +kernel
theorem dX12_meets_54 : decode cX12_meets 54 = .ok (.getfield 38, 3) := by decide +kernel
theorem dX12_meets_57 : decode cX12_meets 57 = .ok (.iload 4, 2) := by decide +kernel
theorem dX12_meets_59 : decode cX12_meets 59 = .ok (.iaload, 1) := by decide +kernel
theorem dX12_meets_60 : decode cX12_meets 60 = .ok (.goto 10, 3) := by decide +kernel
theorem dX12_meets_63 : decode cX12_meets 63 = .ok (.aload_n 0, 1) := by decide +kernel
theorem dX12_meets_64 : decode cX12_meets 64 = .ok (.getfield 38, 3) := by decide +kernel
theorem dX12_meets_67 : decode cX12_meets 67 = .ok (.iload 5, 2) := by decide +kernel
theorem dX12_meets_69 : decode cX12_meets 69 = .ok (.iaload, 1) := by decide +kernel
theorem dX12_meets_70 : decode cX12_meets 70 = .ok (.putfield 335, 3) := by decide +kernel
theorem dX12_meets_73 : decode cX12_meets 73 = .ok (.return_, 1) := by decide +kernel
theorem dX12_spoken_0 : decode cX12_spoken 0 = .ok (.iconst 1, 1) := by decide +kernel
theorem dX12_spoken_1 : decode cX12_spoken 1 = .ok (.aload_n 0, 1) := by decide +kernel
theorem dX12_spoken_2 : decode cX12_spoken 2 = .ok (.getfield 338, 3) := by decide +kernel
theorem dX12_spoken_5 : decode cX12_spoken 5 = .ok (.isub, 1) := by decide +kernel
theorem dX12_spoken_6 : decode cX12_spoken 6 = .ok (.istore_n 1, 1) := by decide +kernel
theorem dX12_spoken_7 : decode cX12_spoken 7 = .ok (.aload_n 0, 1) := by decide +kernel
theorem dX12_spoken_8 : decode cX12_spoken 8 = .ok (.aload_n 0, 1) := by decide +kernel
theorem dX12_spoken_9 : decode cX12_spoken 9 = .ok (.getfield 53, 3) := by decide +kernel
theorem dX12_spoken_12 : decode cX12_spoken 12 = .ok (.aload_n 0, 1) := by decide +kernel
theorem dX12_spoken_13 : decode cX12_spoken 13 = .ok (.getfield 338, 3) := by decide +kernel
theorem dX12_spoken_16 : decode cX12_spoken 16 = .ok (.iaload, 1) := by decide +kernel
theorem dX12_spoken_17 : decode cX12_spoken 17 = .ok (.aload_n 0, 1) := by decide +kernel
theorem dX12_spoken_18 : decode cX12_spoken 18 = .ok (.getfield 53, 3) := by decide +kernel
theorem dX12_spoken_21 : decode cX12_spoken 21 = .ok (.iload_n 1, 1) := by decide +kernel
theorem dX12_spoken_22 : decode cX12_spoken 22 = .ok (.iaload, 1) := by decide +kernel
theorem dX12_spoken_23 : decode cX12_spoken 23 = .ok (.aload_n 0, 1) := by decide +kernel
theorem dX12_spoken_24 : decode cX12_spoken 24 = .ok (.getfield 332, 3) := by decide +kernel
theorem dX12_spoken_27 : decode cX12_spoken 27 = .ok (.aload_n 0, 1) := by decide +kernel
theorem dX12_spoken_28 : decode cX12_spoken 28 = .ok (.getfield 59, 3) := by decide +kernel
theorem dX12_spoken_31 : decode cX12_spoken 31 = .ok (.iload_n 1, 1) := by decide +kernel
theorem dX12_spoken_32 : decode cX12_spoken 32 = .ok (.iaload, 1) := by decide +kernel
theorem dX12_spoken_33 : decode cX12_spoken 33 = .ok (.aload_n 0, 1) := by decide +kernel
theorem dX12_spoken_34 : decode cX12_spoken 34 = .ok (.getfield 59, 3) := by decide +kernel
theorem dX12_spoken_37 : decode cX12_spoken 37 = .ok (.aload_n 0, 1) := by decide +kernel
theorem dX12_spoken_38 : decode cX12_spoken 38 = .ok (.getfield 338, 3) := by decide +kernel
theorem dX12_spoken_41 : decode cX12_spoken 41 = .ok (.iaload, 1) := by decide +kernel
theorem dX12_spoken_42 : decode cX12_spoken 42 = .ok (.aload_n 0, 1) := by decide +kernel
theorem dX12_spoken_43 : decode cX12_spoken 43 = .ok (.getfield 335, 3) := by decide +kernel
theorem dX12_spoken_46 : decode cX12_spoken 46 = .ok (.aload_n 0, 1) := by decide +kernel
theorem dX12_spoken_47 : decode cX12_spoken 47 = .ok (.getfield 341, 3) := by decide +kernel
theorem dX12_spoken_50 : decode cX12_spoken 50 = .ok (.isub, 1) := by decide +kernel
theorem dX12_spoken_51 : decode cX12_spoken 51 = .ok (.invokevirtual 318, 3) := by decide +kernel
theorem dX12_spoken_54 : decode cX12_spoken 54 = .ok (.return_, 1) := by decide +kernel
theorem dX12_isPeace_0 : decode cX12_isPeace 0 = .ok (.aload_n 0, 1) := by decide +kernel
theorem dX12_isPeace_1 : decode cX12_isPeace 1 = .ok (.getfield 59, 3) := by decide +kernel
theorem dX12_isPeace_4 : decode cX12_isPeace 4 = .ok (.iconst 0, 1) := by decide +kernel
theorem dX12_isPeace_5 : decode cX12_isPeace 5 = .ok (.iaload, 1) := by decide +kernel
theorem dX12_isPeace_6 : decode cX12_isPeace 6 = .ok (.ifCond .ne 23, 3) := by decide +kernel
theorem dX12_isPeace_9 : decode cX12_isPeace 9 = .ok (.aload_n 0, 1) := by decide +kernel
theorem dX12_isPeace_10 : decode cX12_isPeace 10 = .ok (.getfield 59, 3) := by decide +kernel
theorem dX12_isPeace_13 : decode cX12_isPeace 13 = .ok (.iconst 1, 1) := by decide +kernel
theorem dX12_isPeace_14 : decode cX12_isPeace 14 = .ok (.iaload, 1) := by decide +kernel
theorem dX12_isPeace_15 : decode cX12_isPeace 15 = .ok (.ifCond .ne 14, 3) := by decide +kernel
theorem dX12_isPeace_18 : decode cX12_isPeace 18 = .ok (.aload_n 0, 1) := by decide +kernel
theorem dX12_isPeace_19 : decode cX12_isPeace 19 = .ok (.getfield 344, 3) := by decide +kernel
theorem dX12_isPeace_22 : decode cX12_isPeace 22 = .ok (.ifCond .ge 7, 3) := by decide +kernel
theorem dX12_isPeace_25 : decode cX12_isPeace 25 = .ok (.iconst 1, 1) := by decide +kernel
theorem dX12_isPeace_26 : decode cX12_isPeace 26 = .ok (.goto 4, 3) := by decide +kernel
theorem dX12_isPeace_29 : decode cX12_isPeace 29 = .ok (.iconst 0, 1) := by decide +kernel
theorem dX12_isPeace_30 : decode cX12_isPeace 30 = .ok (.ireturn, 1) := by decide +kernel
theorem dX12_slightsFirst_0 : decode cX12_slightsFirst 0 = .ok (.aload_n 0, 1) := by decide +kernel
theorem dX12_slightsFirst_1 : decode cX12_slightsFirst 1 = .ok (.getfield 59, 3) := by decide +kernel
theorem dX12_slightsFirst_4 : decode cX12_slightsFirst 4 = .ok (.iconst 0, 1) := by decide +kernel
theorem dX12_slightsFirst_5 : decode cX12_slightsFirst 5 = .ok (.iconst 0, 1) := by decide +kernel
theorem dX12_slightsFirst_6 : decode cX12_slightsFirst 6 = .ok (.iastore, 1) := by decide +kernel
theorem dX12_slightsFirst_7 : decode cX12_slightsFirst 7 = .ok (.aload_n 0, 1) := by decide +kernel
theorem dX12_slightsFirst_8 : decode cX12_slightsFirst 8 = .ok (.getfield 59, 3) := by decide +kernel
theorem dX12_slightsFirst_11 : decode cX12_slightsFirst 11 = .ok (.iconst 1, 1) := by decide +kernel
theorem dX12_slightsFirst_12 : decode cX12_slightsFirst 12 = .ok (.iconst 0, 1) := by decide +kernel
theorem dX12_slightsFirst_13 : decode cX12_slightsFirst 13 = .ok (.iastore, 1) := by decide +kernel
theorem dX12_slightsFirst_14 : decode cX12_slightsFirst 14 = .ok (.aload_n 0, 1) := by decide +kernel
theorem dX12_slightsFirst_15 : decode cX12_slightsFirst 15 = .ok (.iconst 0, 1) := by decide +kernel
theorem dX12_slightsFirst_16 : decode cX12_slightsFirst 16 = .ok (.putfield 338, 3) := by decide +kernel
theorem dX12_slightsFirst_19 : decode cX12_slightsFirst 19 = .ok (.aload_n 0, 1) := by decide +kernel
theorem dX12_slightsFirst_20 : decode cX12_slightsFirst 20 = .ok (.iconst (-1), 1) := by decide +kernel
theorem dX12_slightsFirst_21 : decode cX12_slightsFirst 21 = .ok (.putfield 344, 3) := by decide +kernel
theorem dX12_slightsFirst_24 : decode cX12_slightsFirst 24 = .ok (.aload_n 0, 1) := by decide +kernel
theorem dX12_slightsFirst_25 : decode cX12_slightsFirst 25 = .ok (.aload_n 0, 1) := by decide +kernel
theorem dX12_slightsFirst_26 : decode cX12_slightsFirst 26 = .ok (.getfield 335, 3) := by decide +kernel
theorem dX12_slightsFirst_29 : decode cX12_slightsFirst 29 = .ok (.putfield 341, 3) := by decide +kernel
theorem dX12_slightsFirst_32 : decode cX12_slightsFirst 32 = .ok (.aload_n 0, 1) := by decide +kernel
theorem dX12_slightsFirst_33 : decode cX12_slightsFirst 33 = .ok (.iconst 0, 1) := by decide +kernel
theorem dX12_slightsFirst_34 : decode cX12_slightsFirst 34 = .ok (.putfield 347, 3) := by decide +kernel
theorem dX12_slightsFirst_37 : decode cX12_slightsFirst 37 = .ok (.aload_n 0, 1) := by decide +kernel
theorem dX12_slightsFirst_38 : decode cX12_slightsFirst 38 = .ok (.iconst 0, 1) := by decide +kernel
theorem dX12_slightsFirst_39 : decode cX12_slightsFirst 39 = .ok (.putfield 350, 3) := by decide +kernel
theorem dX12_slightsFirst_42 : decode cX12_slightsFirst 42 = .ok (.aload_n 0, 1) := by decide +kernel
theorem dX12_slightsFirst_43 : decode cX12_slightsFirst 43 = .ok (.invokevirtual 353, 3) := by decide +kernel
theorem dX12_slightsFirst_46 : decode cX12_slightsFirst 46 = .ok (.aload_n 0, 1) := by decide +kernel
theorem dX12_slightsFirst_47 : decode cX12_slightsFirst 47 = .ok (.getfield 59, 3) := by decide +kernel
theorem dX12_slightsFirst_50 : decode cX12_slightsFirst 50 = .ok (.iconst 1, 1) := by decide +kernel
theorem dX12_slightsFirst_51 : decode cX12_slightsFirst 51 = .ok (.iload_n 2, 1) := by decide +kernel
theorem dX12_slightsFirst_52 : decode cX12_slightsFirst 52 = .ok (.ifCond .eq 17, 3) := by decide +kernel
theorem dX12_slightsFirst_55 : decode cX12_slightsFirst 55 = .ok (.aload_n 0, 1) := by decide +kernel
theorem dX12_slightsFirst_56 : decode cX12_slightsFirst 56 = .ok (.aload_n 0, 1) := by decide +kernel
theorem dX12_slightsFirst_57 : decode cX12_slightsFirst 57 = .ok (.getfield 56, 3) := by decide +kernel
theorem dX12_slightsFirst_60 : decode cX12_slightsFirst 60 = .ok (.iconst 1, 1) := by decide +kernel
theorem dX12_slightsFirst_61 : decode cX12_slightsFirst 61 = .ok (.iaload, 1) := by decide +kernel
theorem dX12_slightsFirst_62 : decode cX12_slightsFirst 62 = .ok (.iload_n 1, 1) := by decide +kernel
theorem dX12_slightsFirst_63 : decode cX12_slightsFirst 63 = .ok (.invokevirtual 322, 3) := by decide +kernel
theorem dX12_slightsFirst_66 : decode cX12_slightsFirst 66 = .ok (.goto 4, 3) := by decide +kernel
theorem dX12_slightsFirst_69 : decode cX12_slightsFirst 69 = .ok (.iconst 0, 1) := by decide +kernel
theorem dX12_slightsFirst_70 : decode cX12_slightsFirst 70 = .ok (.iastore, 1) := by decide +kernel
theorem dX12_slightsFirst_71 : decode cX12_slightsFirst 71 = .ok (.aload_n 0, 1) := by decide +kernel
theorem dX12_slightsFirst_72 : decode cX12_slightsFirst 72 = .ok (.iconst 1, 1) := by decide +kernel
theorem dX12_slightsFirst_73 : decode cX12_slightsFirst 73 = .ok (.putfield 338, 3) := by decide +kernel
theorem dX12_slightsFirst_76 : decode cX12_slightsFirst 76 = .ok (.aload_n 0, 1) := by decide +kernel
theorem dX12_slightsFirst_77 : decode cX12_slightsFirst 77 = .ok (.aload_n 0, 1) := by decide +kernel
theorem dX12_slightsFirst_78 : decode cX12_slightsFirst 78 = .ok (.invokevirtual 356, 3) := by decide +kernel
theorem dX12_slightsFirst_81 : decode cX12_slightsFirst 81 = .ok (.ifCond .eq 7, 3) := by decide +kernel
theorem dX12_slightsFirst_84 : decode cX12_slightsFirst 84 = .ok (.iconst 1, 1) := by decide +kernel
theorem dX12_slightsFirst_85 : decode cX12_slightsFirst 85 = .ok (.goto 4, 3) := by decide +kernel
theorem dX12_slightsFirst_88 : decode cX12_slightsFirst 88 = .ok (.iconst 0, 1) := by decide +kernel
theorem dX12_slightsFirst_89 : decode cX12_slightsFirst 89 = .ok (.putfield 347, 3) := by decide +kernel
theorem dX12_slightsFirst_92 : decode cX12_slightsFirst 92 = .ok (.return_, 1) := by decide +kernel
theorem dX12_can_0 : decode cX12_can 0 = .ok (.aload_n 0, 1) := by decide +kernel
theorem dX12_can_1 : decode cX12_can 1 = .ok (.getfield 347, 3) := by decide +kernel
theorem dX12_can_4 : decode cX12_can 4 = .ok (.ifCond .gt 15, 3) := by decide +kernel
theorem dX12_can_7 : decode cX12_can 7 = .ok (.iload_n 1, 1) := by decide +kernel
theorem dX12_can_8 : decode cX12_can 8 = .ok (.i2l, 1) := by decide +kernel
theorem dX12_can_9 : decode cX12_can 9 = .ok (.lconst 0, 1) := by decide +kernel
theorem dX12_can_10 : decode cX12_can 10 = .ok (.ldc2_w 359, 3) := by decide +kernel
theorem dX12_can_13 : decode cX12_can 13 = .ok (.invokestatic 97, 3) := by decide +kernel
theorem dX12_can_16 : decode cX12_can 16 = .ok (.ifCond .ne 5, 3) := by decide +kernel
theorem dX12_can_19 : decode cX12_can 19 = .ok (.iconst 0, 1) := by decide +kernel
theorem dX12_can_20 : decode cX12_can 20 = .ok (.ireturn, 1) := by decide +kernel
theorem dX12_can_21 : decode cX12_can 21 = .ok (.iconst 1, 1) := by decide +kernel
theorem dX12_can_22 : decode cX12_can 22 = .ok (.aload_n 0, 1) := by decide +kernel
theorem dX12_can_23 : decode cX12_can 23 = .ok (.getfield 338, 3) := by decide +kernel
theorem dX12_can_26 : decode cX12_can 26 = .ok (.isub, 1) := by decide +kernel
theorem dX12_can_27 : decode cX12_can 27 = .ok (.istore_n 2, 1) := by decide +kernel
theorem dX12_can_28 : decode cX12_can 28 = .ok (.aload_n 0, 1) := by decide +kernel
theorem dX12_can_29 : decode cX12_can 29 = .ok (.getfield 344, 3) := by decide +kernel
theorem dX12_can_32 : decode cX12_can 32 = .ok (.iload_n 2, 1) := by decide +kernel
theorem dX12_can_33 : decode cX12_can 33 = .ok (.if_icmp .ne 21, 3) := by decide +kernel
theorem dX12_can_36 : decode cX12_can 36 = .ok (.iload_n 1, 1) := by decide +kernel
theorem dX12_can_37 : decode cX12_can 37 = .ok (.bipush 8, 2) := by decide +kernel
theorem dX12_can_39 : decode cX12_can 39 = .ok (.if_icmp .eq 9, 3) := by decide +kernel
theorem dX12_can_42 : decode cX12_can 42 = .ok (.iload_n 1, 1) := by decide +kernel
theorem dX12_can_43 : decode cX12_can 43 = .ok (.bipush 9, 2) := by decide +kernel
theorem dX12_can_45 : decode cX12_can 45 = .ok (.if_icmp .ne 7, 3) := by decide +kernel
theorem dX12_can_48 : decode cX12_can 48 = .ok (.iconst 1, 1) := by decide +kernel
theorem dX12_can_49 : decode cX12_can 49 = .ok (.goto 4, 3) := by decide +kernel
theorem dX12_can_52 : decode cX12_can 52 = .ok (.iconst 0, 1) := by decide +kernel
theorem dX12_can_53 : decode cX12_can 53 = .ok (.ireturn, 1) := by decide +kernel
theorem dX12_can_54 : decode cX12_can 54 = .ok (.iload_n 1, 1) := by decide +kernel
theorem dX12_can_55 : decode cX12_can 55 = .ok (.iconst 4, 1) := by decide +kernel
theorem dX12_can_56 : decode cX12_can 56 = .ok (.if_icmp .lt 56, 3) := by decide +kernel
theorem dX12_can_59 : decode cX12_can 59 = .ok (.iload_n 1, 1) := by decide +kernel
theorem dX12_can_60 : decode cX12_can 60 = .ok (.bipush 10, 2) := by decide +kernel
theorem dX12_can_62 : decode cX12_can 62 = .ok (.if_icmp .eq 50, 3) := by decide +kernel
theorem dX12_can_65 : decode cX12_can 65 = .ok (.iload_n 1, 1) := by decide +kernel
theorem dX12_can_66 : decode cX12_can 66 = .ok (.bipush 8, 2) := by decide +kernel
theorem dX12_can_68 : decode cX12_can 68 = .ok (.if_icmp .ge 12, 3) := by decide +kernel
theorem dX12_can_71 : decode cX12_can 71 = .ok (.aload_n 0, 1) := by decide +kernel
theorem dX12_can_72 : decode cX12_can 72 = .ok (.getfield 59, 3) := by decide +kernel
theorem dX12_can_75 : decode cX12_can 75 = .ok (.iload_n 2, 1) := by decide +kernel
theorem dX12_can_76 : decode cX12_can 76 = .ok (.iaload, 1) := by decide +kernel
theorem dX12_can_77 : decode cX12_can 77 = .ok (.ifCond .gt 35, 3) := by decide +kernel
theorem dX12_can_80 : decode cX12_can 80 = .ok (.iload_n 1, 1) := by decide +kernel
theorem dX12_can_81 : decode cX12_can 81 = .ok (.bipush 8, 2) := by decide +kernel
theorem dX12_can_83 : decode cX12_can 83 = .ok (.if_icmp .ne 33, 3) := by decide +kernel
theorem dX12_can_86 : decode cX12_can 86 = .ok (.aload_n 0, 1) := by decide +kernel
theorem dX12_can_87 : decode cX12_can 87 = .ok (.getfield 59, 3) := by decide +kernel
theorem dX12_can_90 : decode cX12_can 90 = .ok (.aload_n 0, 1) := by decide +kernel
theorem dX12_can_91 : decode cX12_can 91 = .ok (.getfield 338, 3) := by decide +kernel
theorem dX12_can_94 : decode cX12_can 94 = .ok (.iaload, 1) := by decide +kernel
theorem dX12_can_95 : decode cX12_can 95 = .ok (.aload_n 0, 1) := by decide +kernel
theorem dX12_can_96 : decode cX12_can 96 = .ok (.getfield 35, 3) := by decide +kernel
theorem dX12_can_99 : decode cX12_can 99 = .ok (.aload_n 0, 1) := by decide +kernel
theorem dX12_can_100 : decode cX12_can 100 = .ok (.getfield 56, 3) := by decide +kernel
theorem dX12_can_103 : decode cX12_can 103 = .ok (.aload_n 0, 1) := by decide +kernel
theorem dX12_can_104 : decode cX12_can 104 = .ok (.getfield 338, 3) := by decide +kernel
theorem dX12_can_107 : decode cX12_can 107 = .ok (.iaload, 1) := by decide +kernel
theorem dX12_can_108 : decode cX12_can 108 = .ok (.iaload, 1) := by decide +kernel
theorem dX12_can_109 : decode cX12_can 109 = .ok (.if_icmp .lt 7, 3) := by decide +kernel
theorem dX12_can_112 : decode cX12_can 112 = .ok (.iconst 1, 1) := by decide +kernel
theorem dX12_can_113 : decode cX12_can 113 = .ok (.goto 4, 3) := by decide +kernel
theorem dX12_can_116 : decode cX12_can 116 = .ok (.iconst 0, 1) := by decide +kernel
theorem dX12_can_117 : decode cX12_can 117 = .ok (.ireturn, 1) := by decide +kernel
theorem dX12_does_0 : decode cX12_does 0 = .ok (.aload_n 0, 1) := by decide +kernel
theorem dX12_does_1 : decode cX12_does 1 = .ok (.getfield 338, 3) := by decide +kernel
theorem dX12_does_4 : decode cX12_does 4 = .ok (.istore_n 3, 1) := by decide +kernel
theorem dX12_does_5 : decode cX12_does 5 = .ok (.iconst 1, 1) := by decide +kernel
theorem dX12_does_6 : decode cX12_does 6 = .ok (.aload_n 0, 1) := by decide +kernel
theorem dX12_does_7 : decode cX12_does 7 = .ok (.getfield 338, 3) := by decide +kernel
theorem dX12_does_10 : decode cX12_does 10 = .ok (.isub, 1) := by decide +kernel
theorem dX12_does_11 : decode cX12_does 11 = .ok (.istore 4, 2) := by decide +kernel
theorem dX12_does_13 : decode cX12_does 13 = .ok (.iload_n 1, 1) := by decide +kernel
theorem dX12_does_14 : decode cX12_does 14 = .ok (.bipush 8, 2) := by decide +kernel
theorem dX12_does_16 : decode cX12_does 16 = .ok (.if_icmp .ne 18, 3) := by decide +kernel
theorem dX12_does_19 : decode cX12_does 19 = .ok (.aload_n 0, 1) := by decide +kernel
theorem dX12_does_20 : decode cX12_does 20 = .ok (.getfield 344, 3) := by decide +kernel
theorem dX12_does_23 : decode cX12_does 23 = .ok (.iload 4, 2) := by decide +kernel
theorem dX12_does_25 : decode cX12_does 25 = .ok (.if_icmp .ne 9, 3) := by decide +kernel
theorem dX12_does_28 : decode cX12_does 28 = .ok (.aload_n 0, 1) := by decide +kernel
theorem dX12_does_29 : decode cX12_does 29 = .ok (.iconst 2, 1) := by decide +kernel
theorem dX12_does_30 : decode cX12_does 30 = .ok (.putfield 347, 3) := by decide +kernel
theorem dX12_does_33 : decode cX12_does 33 = .ok (.return_, 1) := by decide +kernel
theorem dX12_does_34 : decode cX12_does 34 = .ok (.aload_n 0, 1) := by decide +kernel
theorem dX12_does_35 : decode cX12_does 35 = .ok (.invokevirtual 353, 3) := by decide +kernel
theorem dX12_does_38 : decode cX12_does 38 = .ok (.iload_n 1, 1) := by decide +kernel
theorem dX12_does_39 : decode cX12_does 39 = .ok (.bipush 9, 2) := by decide +kernel
theorem dX12_does_41 : decode cX12_does 41 = .ok (.if_icmp .ne 34, 3) := by decide +kernel
theorem dX12_does_44 : decode cX12_does 44 = .ok (.aload_n 0, 1) := by decide +kernel
theorem dX12_does_45 : decode cX12_does 45 = .ok (.iconst 3, 1) := by decide +kernel
theorem dX12_does_46 : decode cX12_does 46 = .ok (.putfield 347, 3) := by decide +kernel
theorem dX12_does_49 : decode cX12_does 49 = .ok (.aload_n 0, 1) := by decide +kernel
theorem dX12_does_50 : decode cX12_does 50 = .ok (.aload_n 0, 1) := by decide +kernel
theorem dX12_does_51 : decode cX12_does 51 = .ok (.aload_n 0, 1) := by decide +kernel
theorem dX12_does_52 : decode cX12_does 52 = .ok (.getfield 56, 3) := by decide +kernel
theorem dX12_does_55 : decode cX12_does 55 = .ok (.iload 4, 2) := by decide +kernel
theorem dX12_does_57 : decode cX12_does 57 = .ok (.iaload, 1) := by decide +kernel
theorem dX12_does_58 : decode cX12_does 58 = .ok (.invokevirtual 329, 3) := by decide +kernel
theorem dX12_does_61 : decode cX12_does 61 = .ok (.ifCond .eq 7, 3) := by decide +kernel
theorem dX12_does_64 : decode cX12_does 64 = .ok (.iconst 0, 1) := by decide +kernel
theorem dX12_does_65 : decode cX12_does 65 = .ok (.goto 6, 3) := by decide +kernel
theorem dX12_does_68 : decode cX12_does 68 = .ok (.iconst 1, 1) := by decide +kernel
theorem dX12_does_69 : decode cX12_does 69 = .ok (.iload_n 3, 1) := by decide +kernel
theorem dX12_does_70 : decode cX12_does 70 = .ok (.ishl, 1) := by decide +kernel
theorem dX12_does_71 : decode cX12_does 71 = .ok (.putfield 350, 3) := by decide +kernel
theorem dX12_does_74 : decode cX12_does 74 = .ok (.return_, 1) := by decide +kernel
theorem dX12_does_75 : decode cX12_does 75 = .ok (.iload_n 1, 1) := by decide +kernel
theorem dX12_does_76 : decode cX12_does 76 = .ok (.iconst 4, 1) := by decide +kernel
theorem dX12_does_77 : decode cX12_does 77 = .ok (.if_icmp .ge 53, 3) := by decide +kernel
theorem dX12_does_80 : decode cX12_does 80 = .ok (.iload_n 2, 1) := by decide +kernel
theorem dX12_does_81 : decode cX12_does 81 = .ok (.ifCond .eq 49, 3) := by decide +kernel
theorem dX12_does_84 : decode cX12_does 84 = .ok (.aload_n 0, 1) := by decide +kernel
theorem dX12_does_85 : decode cX12_does 85 = .ok (.getfield 59, 3) := by decide +kernel
theorem dX12_does_88 : decode cX12_does 88 = .ok (.iload 4, 2) := by decide +kernel
theorem dX12_does_90 : decode cX12_does 90 = .ok (.iaload, 1) := by decide +kernel
theorem dX12_does_91 : decode cX12_does 91 = .ok (.aload_n 0, 1) := by decide +kernel
theorem dX12_does_92 : decode cX12_does 92 = .ok (.aload_n 0, 1) := by decide +kernel
theorem dX12_does_93 : decode cX12_does 93 = .ok (.getfield 56, 3) := by decide +kernel
theorem dX12_does_96 : decode cX12_does 96 = .ok (.iload 4, 2) := by decide +kernel
theorem dX12_does_98 : decode cX12_does 98 = .ok (.iaload, 1) := by decide +kernel
theorem dX12_does_99 : decode cX12_does 99 = .ok (.iload_n 1, 1) := by decide +kernel
theorem dX12_does_100 : decode cX12_does 100 = .ok (.invokevirtual 322, 3) := by decide +kernel
theorem dX12_does_103 : decode cX12_does 103 = .ok (.iadd, 1) := by decide +kernel
theorem dX12_does_104 : decode cX12_does 104 = .ok (.istore 5, 2) := by decide +kernel
theorem dX12_does_106 : decode cX12_does 106 = .ok (.aload_n 0, 1) := by decide +kernel
theorem dX12_does_107 : decode cX12_does 107 = .ok (.getfield 59, 3) := by decide +kernel
theorem dX12_does_110 : decode cX12_does 110 = .ok (.iload 4, 2) := by decide +kernel
theorem dX12_does_112 : decode cX12_does 112 = .ok (.iload 5, 2) := by decide +kernel
theorem dX12_does_114 : decode cX12_does 114 = .ok (.bipush 15, 2) := by decide +kernel
theorem dX12_does_116 : decode cX12_does 116 = .ok (.if_icmp .le 8, 3) := by decide +kernel
theorem dX12_does_119 : decode cX12_does 119 = .ok (.bipush 15, 2) := by decide +kernel
theorem dX12_does_121 : decode cX12_does 121 = .ok (.goto 5, 3) := by decide +kernel
theorem dX12_does_124 : decode cX12_does 124 = .ok (.iload 5, 2) := by decide +kernel
theorem dX12_does_126 : decode cX12_does 126 = .ok (.iastore, 1) := by decide +kernel
theorem dX12_does_127 : decode cX12_does 127 = .ok (.goto 74, 3) := by decide +kernel
theorem dX12_does_130 : decode cX12_does 130 = .ok (.iload_n 1, 1) := by decide +kernel
theorem dX12_does_131 : decode cX12_does 131 = .ok (.bipush 8, 2) := by decide +kernel
theorem dX12_does_133 : decode cX12_does 133 = .ok (.if_icmp .ge 57, 3) := by decide +kernel
theorem dX12_does_136 : decode cX12_does 136 = .ok (.iload_n 1, 1) := by decide +kernel
theorem dX12_does_137 : decode cX12_does 137 = .ok (.iconst 3, 1) := by decide +kernel
theorem dX12_does_138 : decode cX12_does 138 = .ok (.if_icmp .le 52, 3) := by decide +kernel
theorem dX12_does_141 : decode cX12_does 141 = .ok (.iload_n 2, 1) := by decide +kernel
theorem dX12_does_142 : decode cX12_does 142 = .ok (.ifCond .eq 48, 3) := by decide +kernel
theorem dX12_does_145 : decode cX12_does 145 = .ok (.aload_n 0, 1) := by decide +kernel
theorem dX12_does_146 : decode cX12_does 146 = .ok (.getfield 59, 3) := by decide +kernel
theorem dX12_does_149 : decode cX12_does 149 = .ok (.iload 4, 2) := by decide +kernel
theorem dX12_does_151 : decode cX12_does 151 = .ok (.iaload, 1) := by decide +kernel
theorem dX12_does_152 : decode cX12_does 152 = .ok (.aload_n 0, 1) := by decide +kernel
theorem dX12_does_153 : decode cX12_does 153 = .ok (.aload_n 0, 1) := by decide +kernel
theorem dX12_does_154 : decode cX12_does 154 = .ok (.getfield 56, 3) := by decide +kernel
theorem dX12_does_157 : decode cX12_does 157 = .ok (.iload 4, 2) := by decide +kernel
theorem dX12_does_159 : decode cX12_does 159 = .ok (.iaload, 1) := by decide +kernel
theorem dX12_does_160 : decode cX12_does 160 = .ok (.iload_n 1, 1) := by decide +kernel
theorem dX12_does_161 : decode cX12_does 161 = .ok (.iconst 4, 1) := by decide +kernel
theorem dX12_does_162 : decode cX12_does 162 = .ok (.isub, 1) := by decide +kernel
theorem dX12_does_163 : decode cX12_does 163 = .ok (.invokevirtual 326, 3) := by decide +kernel
theorem dX12_does_166 : decode cX12_does 166 = .ok (.isub, 1) := by decide +kernel
theorem dX12_does_167 : decode cX12_does 167 = .ok (.istore 5, 2) := by decide +kernel
theorem dX12_does_169 : decode cX12_does 169 = .ok (.aload_n 0, 1) := by decide +kernel
theorem dX12_does_170 : decode cX12_does 170 = .ok (.getfield 59, 3) := by decide +kernel
theorem dX12_does_173 : decode cX12_does 173 = .ok (.iload 4, 2) := by decide +kernel
theorem dX12_does_175 : decode cX12_does 175 = .ok (.iload 5, 2) := by decide +kernel
theorem dX12_does_177 : decode cX12_does 177 = .ok (.ifCond .ge 7, 3) := by decide +kernel
theorem dX12_does_180 : decode cX12_does 180 = .ok (.iconst 0, 1) := by decide +kernel
theorem dX12_does_181 : decode cX12_does 181 = .ok (.goto 5, 3) := by decide +kernel
theorem dX12_does_184 : decode cX12_does 184 = .ok (.iload 5, 2) := by decide +kernel
theorem dX12_does_186 : decode cX12_does 186 = .ok (.iastore, 1) := by decide +kernel
theorem dX12_does_187 : decode cX12_does 187 = .ok (.goto 14, 3) := by decide +kernel
theorem dX12_does_190 : decode cX12_does 190 = .ok (.iload_n 1, 1) := by decide +kernel
theorem dX12_does_191 : decode cX12_does 191 = .ok (.bipush 8, 2) := by decide +kernel
theorem dX12_does_193 : decode cX12_does 193 = .ok (.if_icmp .ne 8, 3) := by decide +kernel
theorem dX12_does_196 : decode cX12_does 196 = .ok (.aload_n 0, 1) := by decide +kernel
theorem dX12_does_197 : decode cX12_does 197 = .ok (.iload_n 3, 1) := by decide +kernel
theorem dX12_does_198 : decode cX12_does 198 = .ok (.putfield 344, 3) := by decide +kernel
theorem dX12_does_201 : decode cX12_does 201 = .ok (.aload_n 0, 1) := by decide +kernel
theorem dX12_does_202 : decode cX12_does 202 = .ok (.invokevirtual 356, 3) := by decide +kernel
theorem dX12_does_205 : decode cX12_does 205 = .ok (.ifCond .eq 9, 3) := by decide +kernel
theorem dX12_does_208 : decode cX12_does 208 = .ok (.aload_n 0, 1) := by decide +kernel
theorem dX12_does_209 : decode cX12_does 209 = .ok (.iconst 1, 1) := by decide +kernel
theorem dX12_does_210 : decode cX12_does 210 = .ok (.putfield 347, 3) := by decide +kernel
theorem dX12_does_213 : decode cX12_does 213 = .ok (.return_, 1) := by decide +kernel
theorem dX12_does_214 : decode cX12_does 214 = .ok (.aload_n 0, 1) := by decide +kernel
theorem dX12_does_215 : decode cX12_does 215 = .ok (.dup, 1) := by decide +kernel
theorem dX12_does_216 : decode cX12_does 216 = .ok (.getfield 341, 3) := by decide +kernel
theorem dX12_does_219 : decode cX12_does 219 = .ok (.iconst 1, 1) := by decide +kernel
theorem dX12_does_220 : decode cX12_does 220 = .ok (.isub, 1) := by decide +kernel
theorem dX12_does_221 : decode cX12_does 221 = .ok (.putfield 341, 3) := by decide +kernel
theorem dX12_does_224 : decode cX12_does 224 = .ok (.aload_n 0, 1) := by decide +kernel
theorem dX12_does_225 : decode cX12_does 225 = .ok (.iload 4, 2) := by decide +kernel
theorem dX12_does_227 : decode cX12_does 227 = .ok (.putfield 338, 3) := by decide +kernel
theorem dX12_does_230 : decode cX12_does 230 = .ok (.aload_n 0, 1) := by decide +kernel
theorem dX12_does_231 : decode cX12_does 231 = .ok (.getfield 341, 3) := by decide +kernel
theorem dX12_does_234 : decode cX12_does 234 = .ok (.ifCond .le 4, 3) := by decide +kernel
theorem dX12_does_237 : decode cX12_does 237 = .ok (.return_, 1) := by decide +kernel
theorem dX12_does_238 : decode cX12_does 238 = .ok (.aload_n 0, 1) := by decide +kernel
theorem dX12_does_239 : decode cX12_does 239 = .ok (.iconst 4, 1) := by decide +kernel
theorem dX12_does_240 : decode cX12_does 240 = .ok (.putfield 347, 3) := by decide +kernel
theorem dX12_does_243 : decode cX12_does 243 = .ok (.aload_n 0, 1) := by decide +kernel
theorem dX12_does_244 : decode cX12_does 244 = .ok (.aload_n 0, 1) := by decide +kernel
theorem dX12_does_245 : decode cX12_does 245 = .ok (.getfield 59, 3) := by decide +kernel
theorem dX12_does_248 : decode cX12_does 248 = .ok (.iconst 0, 1) := by decide +kernel
theorem dX12_does_249 : decode cX12_does 249 = .ok (.iaload, 1) := by decide +kernel
theorem dX12_does_250 : decode cX12_does 250 = .ok (.aload_n 0, 1) := by decide +kernel
theorem dX12_does_251 : decode cX12_does 251 = .ok (.getfield 41, 3) := by decide +kernel
theorem dX12_does_254 : decode cX12_does 254 = .ok (.aload_n 0, 1) := by decide +kernel
theorem dX12_does_255 : decode cX12_does 255 = .ok (.getfield 56, 3) := by decide +kernel
theorem dX12_does_258 : decode cX12_does 258 = .ok (.iconst 0, 1) := by decide +kernel
theorem dX12_does_259 : decode cX12_does 259 = .ok (.iaload, 1) := by decide +kernel
theorem dX12_does_260 : decode cX12_does 260 = .ok (.iaload, 1) := by decide +kernel
theorem dX12_does_261 : decode cX12_does 261 = .ok (.if_icmp .lt 7, 3) := by decide +kernel
theorem dX12_does_264 : decode cX12_does 264 = .ok (.iconst 1, 1) := by decide +kernel
theorem dX12_does_265 : decode cX12_does 265 = .ok (.goto 4, 3) := by decide +kernel
theorem dX12_does_268 : decode cX12_does 268 = .ok (.iconst 0, 1) := by decide +kernel
theorem dX12_does_269 : decode cX12_does 269 = .ok (.aload_n 0, 1) := by decide +kernel
theorem dX12_does_270 : decode cX12_does 270 = .ok (.getfield 59, 3) := by decide +kernel
theorem dX12_does_273 : decode cX12_does 273 = .ok (.iconst 1, 1) := by decide +kernel
theorem dX12_does_274 : decode cX12_does 274 = .ok (.iaload, 1) := by decide +kernel
theorem dX12_does_275 : decode cX12_does 275 = .ok (.aload_n 0, 1) := by decide +kernel
theorem dX12_does_276 : decode cX12_does 276 = .ok (.getfield 41, 3) := by decide +kernel
theorem dX12_does_279 : decode cX12_does 279 = .ok (.aload_n 0, 1) := by decide +kernel
theorem dX12_does_280 : decode cX12_does 280 = .ok (.getfield 56, 3) := by decide +kernel
theorem dX12_does_283 : decode cX12_does 283 = .ok (.iconst 1, 1) := by decide +kernel
theorem dX12_does_284 : decode cX12_does 284 = .ok (.iaload, 1) := by decide +kernel
theorem dX12_does_285 : decode cX12_does 285 = .ok (.iaload, 1) := by decide +kernel
theorem dX12_does_286 : decode cX12_does 286 = .ok (.if_icmp .lt 7, 3) := by decide +kernel
theorem dX12_does_289 : decode cX12_does 289 = .ok (.iconst 2, 1) := by decide +kernel
theorem dX12_does_290 : decode cX12_does 290 = .ok (.goto 4, 3) := by decide +kernel
theorem dX12_does_293 : decode cX12_does 293 = .ok (.iconst 0, 1) := by decide +kernel
theorem dX12_does_294 : decode cX12_does 294 = .ok (.iadd, 1) := by decide +kernel
theorem dX12_does_295 : decode cX12_does 295 = .ok (.putfield 350, 3) := by decide +kernel
theorem dX12_does_298 : decode cX12_does 298 = .ok (.return_, 1) := by decide +kernel
theorem dX12_outcome_0 : decode cX12_outcome 0 = .ok (.iconst 4, 1) := by decide +kernel
theorem dX12_outcome_1 : decode cX12_outcome 1 = .ok (.aload_n 0, 1) := by decide +kernel
theorem dX12_outcome_2 : decode cX12_outcome 2 = .ok (.getfield 347, 3) := by decide +kernel
theorem dX12_outcome_5 : decode cX12_outcome 5 = .ok (.imul, 1) := by decide +kernel
theorem dX12_outcome_6 : decode cX12_outcome 6 = .ok (.aload_n 0, 1) := by decide +kernel
theorem dX12_outcome_7 : decode cX12_outcome 7 = .ok (.getfield 350, 3) := by decide +kernel
theorem dX12_outcome_10 : decode cX12_outcome 10 = .ok (.iadd, 1) := by decide +kernel
theorem dX12_outcome_11 : decode cX12_outcome 11 = .ok (.ireturn, 1) := by decide +kernel
theorem dX12_place_0 : decode cX12_place 0 = .ok (.aload_n 0, 1) := by decide +kernel
theorem dX12_place_1 : decode cX12_place 1 = .ok (.getfield 341, 3) := by decide +kernel
theorem dX12_place_4 : decode cX12_place 4 = .ok (.iconst 2, 1) := by decide +kernel
theorem dX12_place_5 : decode cX12_place 5 = .ok (.imul, 1) := by decide +kernel
theorem dX12_place_6 : decode cX12_place 6 = .ok (.aload_n 0, 1) := by decide +kernel
theorem dX12_place_7 : decode cX12_place 7 = .ok (.getfield 338, 3) := by decide +kernel
theorem dX12_place_10 : decode cX12_place 10 = .ok (.iadd, 1) := by decide +kernel
theorem dX12_place_11 : decode cX12_place 11 = .ok (.iconst 3, 1) := by decide +kernel
theorem dX12_place_12 : decode cX12_place 12 = .ok (.imul, 1) := by decide +kernel
theorem dX12_place_13 : decode cX12_place 13 = .ok (.aload_n 0, 1) := by decide +kernel
theorem dX12_place_14 : decode cX12_place 14 = .ok (.getfield 344, 3) := by decide +kernel
theorem dX12_place_17 : decode cX12_place 17 = .ok (.iadd, 1) := by decide +kernel
theorem dX12_place_18 : decode cX12_place 18 = .ok (.iconst 1, 1) := by decide +kernel
theorem dX12_place_19 : decode cX12_place 19 = .ok (.iadd, 1) := by decide +kernel
theorem dX12_place_20 : decode cX12_place 20 = .ok (.sipush 256, 3) := by decide +kernel
theorem dX12_place_23 : decode cX12_place 23 = .ok (.imul, 1) := by decide +kernel
theorem dX12_place_24 : decode cX12_place 24 = .ok (.bipush 16, 2) := by decide +kernel
theorem dX12_place_26 : decode cX12_place 26 = .ok (.aload_n 0, 1) := by decide +kernel
