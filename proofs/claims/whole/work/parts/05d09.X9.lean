theorem dX9_init_0 : decode cX9_init 0 = .ok (.aload_n 0, 1) := by decide +kernel
theorem dX9_init_1 : decode cX9_init 1 = .ok (.invokespecial 3, 3) := by decide +kernel
theorem dX9_init_4 : decode cX9_init 4 = .ok (.aload_n 0, 1) := by decide +kernel
theorem dX9_init_5 : decode cX9_init 5 = .ok (.sipush 401, 3) := by decide +kernel
theorem dX9_init_8 : decode cX9_init 8 = .ok (.newarray .int, 2) := by decide +kernel
theorem dX9_init_10 : decode cX9_init 10 = .ok (.putfield 9, 3) := by decide +kernel
theorem dX9_init_13 : decode cX9_init 13 = .ok (.aload_n 0, 1) := by decide +kernel
theorem dX9_init_14 : decode cX9_init 14 = .ok (.sipush 401, 3) := by decide +kernel
theorem dX9_init_17 : decode cX9_init 17 = .ok (.newarray .int, 2) := by decide +kernel
theorem dX9_init_19 : decode cX9_init 19 = .ok (.putfield 15, 3) := by decide +kernel
theorem dX9_init_22 : decode cX9_init 22 = .ok (.aload_n 0, 1) := by decide +kernel
theorem dX9_init_23 : decode cX9_init 23 = .ok (.sipush 401, 3) := by decide +kernel
theorem dX9_init_26 : decode cX9_init 26 = .ok (.newarray .int, 2) := by decide +kernel
theorem dX9_init_28 : decode cX9_init 28 = .ok (.putfield 18, 3) := by decide +kernel
theorem dX9_init_31 : decode cX9_init 31 = .ok (.return_, 1) := by decide +kernel
theorem dX9_take_0 : decode cX9_take 0 = .ok (.aload_n 0, 1) := by decide +kernel
theorem dX9_take_1 : decode cX9_take 1 = .ok (.iconst 0, 1) := by decide +kernel
theorem dX9_take_2 : decode cX9_take 2 = .ok (.putfield 21, 3) := by decide +kernel
theorem dX9_take_5 : decode cX9_take 5 = .ok (.iconst 0, 1) := by decide +kernel
theorem dX9_take_6 : decode cX9_take 6 = .ok (.istore_n 2, 1) := by decide +kernel
theorem dX9_take_7 : decode cX9_take 7 = .ok (.iconst 0, 1) := by decide +kernel
theorem dX9_take_8 : decode cX9_take 8 = .ok (.istore_n 3, 1) := by decide +kernel
theorem dX9_take_9 : decode cX9_take 9 = .ok (.iload_n 3, 1) := by decide +kernel
theorem dX9_take_10 : decode cX9_take 10 = .ok (.sipush 400, 3) := by decide +kernel
theorem dX9_take_13 : decode cX9_take 13 = .ok (.if_icmp .ge 144, 3) := by decide +kernel
theorem dX9_take_16 : decode cX9_take 16 = .ok (.iload_n 2, 1) := by decide +kernel
theorem dX9_take_17 : decode cX9_take 17 = .ok (.aload_n 1, 1) := by decide +kernel
theorem dX9_take_18 : decode cX9_take 18 = .ok (.getfield 25, 3) := by decide +kernel
theorem dX9_take_21 : decode cX9_take 21 = .ok (.if_icmp .ge 136, 3) := by decide +kernel
theorem dX9_take_24 : decode cX9_take 24 = .ok (.aload_n 1, 1) := by decide +kernel
theorem dX9_take_25 : decode cX9_take 25 = .ok (.iload_n 2, 1) := by decide +kernel
theorem dX9_take_26 : decode cX9_take 26 = .ok (.invokevirtual 30, 3) := by decide +kernel
theorem dX9_take_29 : decode cX9_take 29 = .ok (.istore 4, 2) := by decide +kernel
theorem dX9_take_31 : decode cX9_take 31 = .ok (.iload 4, 2) := by decide +kernel
theorem dX9_take_33 : decode cX9_take 33 = .ok (.bipush 32, 2) := by decide +kernel
theorem dX9_take_35 : decode cX9_take 35 = .ok (.if_icmp .ne 9, 3) := by decide +kernel
theorem dX9_take_38 : decode cX9_take 38 = .ok (.iinc 2 1, 3) := by decide +kernel
theorem dX9_take_41 : decode cX9_take 41 = .ok (.goto 110, 3) := by decide +kernel
theorem dX9_take_44 : decode cX9_take 44 = .ok (.iload 4, 2) := by decide +kernel
theorem dX9_take_46 : decode cX9_take 46 = .ok (.invokestatic 34, 3) := by decide +kernel
theorem dX9_take_49 : decode cX9_take 49 = .ok (.ifCond .eq 29, 3) := by decide +kernel
theorem dX9_take_52 : decode cX9_take 52 = .ok (.aload_n 1, 1) := by decide +kernel
theorem dX9_take_53 : decode cX9_take 53 = .ok (.iload_n 2, 1) := by decide +kernel
theorem dX9_take_54 : decode cX9_take 54 = .ok (.invokestatic 38, 3) := by decide +kernel
theorem dX9_take_57 : decode cX9_take 57 = .ok (.istore 5, 2) := by decide +kernel
theorem dX9_take_59 : decode cX9_take 59 = .ok (.aload_n 0, 1) := by decide +kernel
theorem dX9_take_60 : decode cX9_take 60 = .ok (.aload_n 1, 1) := by decide +kernel
theorem dX9_take_61 : decode cX9_take 61 = .ok (.iload_n 2, 1) := by decide +kernel
theorem dX9_take_62 : decode cX9_take 62 = .ok (.iload 5, 2) := by decide +kernel
theorem dX9_take_64 : decode cX9_take 64 = .ok (.invokestatic 42, 3) := by decide +kernel
theorem dX9_take_67 : decode cX9_take 67 = .ok (.iload_n 2, 1) := by decide +kernel
theorem dX9_take_68 : decode cX9_take 68 = .ok (.iconst 0, 1) := by decide +kernel
theorem dX9_take_69 : decode cX9_take 69 = .ok (.invokevirtual 46, 3) := by decide +kernel
theorem dX9_take_72 : decode cX9_take 72 = .ok (.iload 5, 2) := by decide +kernel
theorem dX9_take_74 : decode cX9_take 74 = .ok (.istore_n 2, 1) := by decide +kernel
theorem dX9_take_75 : decode cX9_take 75 = .ok (.goto 76, 3) := by decide +kernel
theorem dX9_take_78 : decode cX9_take 78 = .ok (.iload 4, 2) := by decide +kernel
theorem dX9_take_80 : decode cX9_take 80 = .ok (.invokestatic 50, 3) := by decide +kernel
theorem dX9_take_83 : decode cX9_take 83 = .ok (.ifCond .eq 30, 3) := by decide +kernel
theorem dX9_take_86 : decode cX9_take 86 = .ok (.aload_n 1, 1) := by decide +kernel
theorem dX9_take_87 : decode cX9_take 87 = .ok (.iload_n 2, 1) := by decide +kernel
theorem dX9_take_88 : decode cX9_take 88 = .ok (.invokestatic 53, 3) := by decide +kernel
theorem dX9_take_91 : decode cX9_take 91 = .ok (.istore 5, 2) := by decide +kernel
theorem dX9_take_93 : decode cX9_take 93 = .ok (.aload_n 0, 1) := by decide +kernel
theorem dX9_take_94 : decode cX9_take 94 = .ok (.bipush 30, 2) := by decide +kernel
theorem dX9_take_96 : decode cX9_take 96 = .ok (.iload_n 2, 1) := by decide +kernel
theorem dX9_take_97 : decode cX9_take 97 = .ok (.aload_n 1, 1) := by decide +kernel
theorem dX9_take_98 : decode cX9_take 98 = .ok (.iload_n 2, 1) := by decide +kernel
theorem dX9_take_99 : decode cX9_take 99 = .ok (.iload 5, 2) := by decide +kernel
theorem dX9_take_101 : decode cX9_take 101 = .ok (.invokestatic 56, 3) := by decide +kernel
theorem dX9_take_104 : decode cX9_take 104 = .ok (.invokevirtual 46, 3) := by decide +kernel
theorem dX9_take_107 : decode cX9_take 107 = .ok (.iload 5, 2) := by decide +kernel
theorem dX9_take_109 : decode cX9_take 109 = .ok (.istore_n 2, 1) := by decide +kernel
theorem dX9_take_110 : decode cX9_take 110 = .ok (.goto 41, 3) := by decide +kernel
theorem dX9_take_113 : decode cX9_take 113 = .ok (.iload 4, 2) := by decide +kernel
theorem dX9_take_115 : decode cX9_take 115 = .ok (.aload_n 1, 1) := by decide +kernel
theorem dX9_take_116 : decode cX9_take 116 = .ok (.iload_n 2, 1) := by decide +kernel
theorem dX9_take_117 : decode cX9_take 117 = .ok (.iconst 1, 1) := by decide +kernel
theorem dX9_take_118 : decode cX9_take 118 = .ok (.iadd, 1) := by decide +kernel
theorem dX9_take_119 : decode cX9_take 119 = .ok (.invokevirtual 30, 3) := by decide +kernel
theorem dX9_take_122 : decode cX9_take 122 = .ok (.invokestatic 59, 3) := by decide +kernel
theorem dX9_take_125 : decode cX9_take 125 = .ok (.istore 5, 2) := by decide +kernel
theorem dX9_take_127 : decode cX9_take 127 = .ok (.aload_n 0, 1) := by decide +kernel
theorem dX9_take_128 : decode cX9_take 128 = .ok (.iload 5, 2) := by decide +kernel
theorem dX9_take_130 : decode cX9_take 130 = .ok (.iload_n 2, 1) := by decide +kernel
theorem dX9_take_131 : decode cX9_take 131 = .ok (.iconst 0, 1) := by decide +kernel
theorem dX9_take_132 : decode cX9_take 132 = .ok (.invokevirtual 46, 3) := by decide +kernel
theorem dX9_take_135 : decode cX9_take 135 = .ok (.iload_n 2, 1) := by decide +kernel
theorem dX9_take_136 : decode cX9_take 136 = .ok (.iload 5, 2) := by decide +kernel
theorem dX9_take_138 : decode cX9_take 138 = .ok (.sipush 512, 3) := by decide +kernel
theorem dX9_take_141 : decode cX9_take 141 = .ok (.if_icmp .lt 7, 3) := by decide +kernel
theorem dX9_take_144 : decode cX9_take 144 = .ok (.iconst 2, 1) := by decide +kernel
theorem dX9_take_145 : decode cX9_take 145 = .ok (.goto 4, 3) := by decide +kernel
theorem dX9_take_148 : decode cX9_take 148 = .ok (.iconst 1, 1) := by decide +kernel
theorem dX9_take_149 : decode cX9_take 149 = .ok (.iadd, 1) := by decide +kernel
theorem dX9_take_150 : decode cX9_take 150 = .ok (.istore_n 2, 1) := by decide +kernel
theorem dX9_take_151 : decode cX9_take 151 = .ok (.iinc 3 1, 3) := by decide +kernel
theorem dX9_take_154 : decode cX9_take 154 = .ok (.goto (-145), 3) := by decide +kernel
theorem dX9_take_157 : decode cX9_take 157 = .ok (.aload_n 0, 1) := by decide +kernel
theorem dX9_take_158 : decode cX9_take 158 = .ok (.bipush 31, 2) := by decide +kernel
theorem dX9_take_160 : decode cX9_take 160 = .ok (.aload_n 1, 1) := by decide +kernel
theorem dX9_take_161 : decode cX9_take 161 = .ok (.getfield 25, 3) := by decide +kernel
theorem dX9_take_164 : decode cX9_take 164 = .ok (.iconst 0, 1) := by decide +kernel
theorem dX9_take_165 : decode cX9_take 165 = .ok (.invokevirtual 46, 3) := by decide +kernel
theorem dX9_take_168 : decode cX9_take 168 = .ok (.return_, 1) := by decide +kernel
theorem dX9_kindAt_0 : decode cX9_kindAt 0 = .ok (.iload_n 1, 1) := by decide +kernel
theorem dX9_kindAt_1 : decode cX9_kindAt 1 = .ok (.ifCond .lt 27, 3) := by decide +kernel
theorem dX9_kindAt_4 : decode cX9_kindAt 4 = .ok (.iload_n 1, 1) := by decide +kernel
theorem dX9_kindAt_5 : decode cX9_kindAt 5 = .ok (.aload_n 0, 1) := by decide +kernel
theorem dX9_kindAt_6 : decode cX9_kindAt 6 = .ok (.getfield 21, 3) := by decide +kernel
theorem dX9_kindAt_9 : decode cX9_kindAt 9 = .ok (.if_icmp .ge 19, 3) := by decide +kernel
theorem dX9_kindAt_12 : decode cX9_kindAt 12 = .ok (.iload_n 1, 1) := by decide +kernel
theorem dX9_kindAt_13 : decode cX9_kindAt 13 = .ok (.sipush 400, 3) := by decide +kernel
theorem dX9_kindAt_16 : decode cX9_kindAt 16 = .ok (.if_icmp .gt 12, 3) := by decide +kernel
theorem dX9_kindAt_19 : decode cX9_kindAt 19 = .ok (.aload_n 0, 1) := by decide +kernel
theorem dX9_kindAt_20 : decode cX9_kindAt 20 = .ok (.getfield 9, 3) := by decide +kernel
theorem dX9_kindAt_23 : decode cX9_kindAt 23 = .ok (.iload_n 1, 1) := by decide +kernel
theorem dX9_kindAt_24 : decode cX9_kindAt 24 = .ok (.iaload, 1) := by decide +kernel
theorem dX9_kindAt_25 : decode cX9_kindAt 25 = .ok (.goto 5, 3) := by decide +kernel
theorem dX9_kindAt_28 : decode cX9_kindAt 28 = .ok (.bipush 31, 2) := by decide +kernel
theorem dX9_kindAt_30 : decode cX9_kindAt 30 = .ok (.ireturn, 1) := by decide +kernel
theorem dX9_placeAt_0 : decode cX9_placeAt 0 = .ok (.iload_n 1, 1) := by decide +kernel
theorem dX9_placeAt_1 : decode cX9_placeAt 1 = .ok (.ifCond .lt 27, 3) := by decide +kernel
theorem dX9_placeAt_4 : decode cX9_placeAt 4 = .ok (.iload_n 1, 1) := by decide +kernel
theorem dX9_placeAt_5 : decode cX9_placeAt 5 = .ok (.aload_n 0, 1) := by decide +kernel
theorem dX9_placeAt_6 : decode cX9_placeAt 6 = .ok (.getfield 21, 3) := by decide +kernel
theorem dX9_placeAt_9 : decode cX9_placeAt 9 = .ok (.if_icmp .ge 19, 3) := by decide +kernel
theorem dX9_placeAt_12 : decode cX9_placeAt 12 = .ok (.iload_n 1, 1) := by decide +kernel
theorem dX9_placeAt_13 : decode cX9_placeAt 13 = .ok (.sipush 400, 3) := by decide +kernel
theorem dX9_placeAt_16 : decode cX9_placeAt 16 = .ok (.if_icmp .gt 12, 3) := by decide +kernel
theorem dX9_placeAt_19 : decode cX9_placeAt 19 = .ok (.aload_n 0, 1) := by decide +kernel
theorem dX9_placeAt_20 : decode cX9_placeAt 20 = .ok (.getfield 15, 3) := by decide +kernel
theorem dX9_placeAt_23 : decode cX9_placeAt 23 = .ok (.iload_n 1, 1) := by decide +kernel
theorem dX9_placeAt_24 : decode cX9_placeAt 24 = .ok (.iaload, 1) := by decide +kernel
theorem dX9_placeAt_25 : decode cX9_placeAt 25 = .ok (.goto 4, 3) := by decide +kernel
theorem dX9_placeAt_28 : decode cX9_placeAt 28 = .ok (.iconst 0, 1) := by decide +kernel
theorem dX9_placeAt_29 : decode cX9_placeAt 29 = .ok (.ireturn, 1) := by decide +kernel
theorem dX9_numberAt_0 : decode cX9_numberAt 0 = .ok (.iload_n 1, 1) := by decide +kernel
theorem dX9_numberAt_1 : decode cX9_numberAt 1 = .ok (.ifCond .lt 27, 3) := by decide +kernel
theorem dX9_numberAt_4 : decode cX9_numberAt 4 = .ok (.iload_n 1, 1) := by decide +kernel
theorem dX9_numberAt_5 : decode cX9_numberAt 5 = .ok (.aload_n 0, 1) := by decide +kernel
theorem dX9_numberAt_6 : decode cX9_numberAt 6 = .ok (.getfield 21, 3) := by decide +kernel
theorem dX9_numberAt_9 : decode cX9_numberAt 9 = .ok (.if_icmp .ge 19, 3) := by decide +kernel
theorem dX9_numberAt_12 : decode cX9_numberAt 12 = .ok (.iload_n 1, 1) := by decide +kernel
theorem dX9_numberAt_13 : decode cX9_numberAt 13 = .ok (.sipush 400, 3) := by decide +kernel
theorem dX9_numberAt_16 : decode cX9_numberAt 16 = .ok (.if_icmp .gt 12, 3) := by decide +kernel
theorem dX9_numberAt_19 : decode cX9_numberAt 19 = .ok (.aload_n 0, 1) := by decide +kernel
theorem dX9_numberAt_20 : decode cX9_numberAt 20 = .ok (.getfield 18, 3) := by decide +kernel
theorem dX9_numberAt_23 : decode cX9_numberAt 23 = .ok (.iload_n 1, 1) := by decide +kernel
theorem dX9_numberAt_24 : decode cX9_numberAt 24 = .ok (.iaload, 1) := by decide +kernel
theorem dX9_numberAt_25 : decode cX9_numberAt 25 = .ok (.goto 4, 3) := by decide +kernel
theorem dX9_numberAt_28 : decode cX9_numberAt 28 = .ok (.iconst (-1), 1) := by decide +kernel
theorem dX9_numberAt_29 : decode cX9_numberAt 29 = .ok (.ireturn, 1) := by decide +kernel
theorem dX9_add_0 : decode cX9_add 0 = .ok (.aload_n 0, 1) := by decide +kernel
theorem dX9_add_1 : decode cX9_add 1 = .ok (.getfield 21, 3) := by decide +kernel
theorem dX9_add_4 : decode cX9_add 4 = .ok (.ifCond .lt 53, 3) := by decide +kernel
theorem dX9_add_7 : decode cX9_add 7 = .ok (.aload_n 0, 1) := by decide +kernel
theorem dX9_add_8 : decode cX9_add 8 = .ok (.getfield 21, 3) := by decide +kernel
theorem dX9_add_11 : decode cX9_add 11 = .ok (.sipush 400, 3) := by decide +kernel
theorem dX9_add_14 : decode cX9_add 14 = .ok (.if_icmp .gt 43, 3) := by decide +kernel
theorem dX9_add_17 : decode cX9_add 17 = .ok (.aload_n 0, 1) := by decide +kernel
theorem dX9_add_18 : decode cX9_add 18 = .ok (.getfield 9, 3) := by decide +kernel
theorem dX9_add_21 : decode cX9_add 21 = .ok (.aload_n 0, 1) := by decide +kernel
theorem dX9_add_22 : decode cX9_add 22 = .ok (.getfield 21, 3) := by decide +kernel
theorem dX9_add_25 : decode cX9_add 25 = .ok (.iload_n 1, 1) := by decide +kernel
theorem dX9_add_26 : decode cX9_add 26 = .ok (.iastore, 1) := by decide +kernel
theorem dX9_add_27 : decode cX9_add 27 = .ok (.aload_n 0, 1) := by decide +kernel
theorem dX9_add_28 : decode cX9_add 28 = .ok (.getfield 15, 3) := by decide +kernel
theorem dX9_add_31 : decode cX9_add 31 = .ok (.aload_n 0, 1) := by decide +kernel
theorem dX9_add_32 : decode cX9_add 32 = .ok (.getfield 21, 3) := by decide +kernel
theorem dX9_add_35 : decode cX9_add 35 = .ok (.iload_n 2, 1) := by decide +kernel
theorem dX9_add_36 : decode cX9_add 36 = .ok (.iastore, 1) := by decide +kernel
theorem dX9_add_37 : decode cX9_add 37 = .ok (.aload_n 0, 1) := by decide +kernel
theorem dX9_add_38 : decode cX9_add 38 = .ok (.getfield 18, 3) := by decide +kernel
theorem dX9_add_41 : decode cX9_add 41 = .ok (.aload_n 0, 1) := by decide +kernel
theorem dX9_add_42 : decode cX9_add 42 = .ok (.getfield 21, 3) := by decide +kernel
theorem dX9_add_45 : decode cX9_add 45 = .ok (.iload_n 3, 1) := by decide +kernel
theorem dX9_add_46 : decode cX9_add 46 = .ok (.iastore, 1) := by decide +kernel
theorem dX9_add_47 : decode cX9_add 47 = .ok (.aload_n 0, 1) := by decide +kernel
theorem dX9_add_48 : decode cX9_add 48 = .ok (.dup, 1) := by decide +kernel
theorem dX9_add_49 : decode cX9_add 49 = .ok (.getfield 21, 3) := by decide +kernel
theorem dX9_add_52 : decode cX9_add 52 = .ok (.iconst 1, 1) := by decide +kernel
theorem dX9_add_53 : decode cX9_add 53 = .ok (.iadd, 1) := by decide +kernel
theorem dX9_add_54 : decode cX9_add 54 = .ok (.putfield 21, 3) := by decide +kernel
theorem dX9_add_57 : decode cX9_add 57 = .ok (.return_, 1) := by decide +kernel
theorem dX9_wordEnd_0 : decode cX9_wordEnd 0 = .ok (.iload_n 1, 1) := by decide +kernel
theorem dX9_wordEnd_1 : decode cX9_wordEnd 1 = .ok (.istore_n 2, 1) := by decide +kernel
theorem dX9_wordEnd_2 : decode cX9_wordEnd 2 = .ok (.iload_n 2, 1) := by decide +kernel
theorem dX9_wordEnd_3 : decode cX9_wordEnd 3 = .ok (.sipush 400, 3) := by decide +kernel
theorem dX9_wordEnd_6 : decode cX9_wordEnd 6 = .ok (.if_icmp .ge 20, 3) := by decide +kernel
theorem dX9_wordEnd_9 : decode cX9_wordEnd 9 = .ok (.aload_n 0, 1) := by decide +kernel
theorem dX9_wordEnd_10 : decode cX9_wordEnd 10 = .ok (.iload_n 2, 1) := by decide +kernel
theorem dX9_wordEnd_11 : decode cX9_wordEnd 11 = .ok (.invokevirtual 30, 3) := by decide +kernel
theorem dX9_wordEnd_14 : decode cX9_wordEnd 14 = .ok (.invokestatic 34, 3) := by decide +kernel
theorem dX9_wordEnd_17 : decode cX9_wordEnd 17 = .ok (.ifCond .eq 9, 3) := by decide +kernel
theorem dX9_wordEnd_20 : decode cX9_wordEnd 20 = .ok (.iinc 2 1, 3) := by decide +kernel
theorem dX9_wordEnd_23 : decode cX9_wordEnd 23 = .ok (.goto (-21), 3) := by decide +kernel
theorem dX9_wordEnd_26 : decode cX9_wordEnd 26 = .ok (.iload_n 2, 1) := by decide +kernel
theorem dX9_wordEnd_27 : decode cX9_wordEnd 27 = .ok (.ireturn, 1) := by decide +kernel
theorem dX9_numberEnd_0 : decode cX9_numberEnd 0 = .ok (.iload_n 1, 1) := by decide +kernel
theorem dX9_numberEnd_1 : decode cX9_numberEnd 1 = .ok (.istore_n 2, 1) := by decide +kernel
theorem dX9_numberEnd_2 : decode cX9_numberEnd 2 = .ok (.iload_n 2, 1) := by decide +kernel
theorem dX9_numberEnd_3 : decode cX9_numberEnd 3 = .ok (.sipush 400, 3) := by decide +kernel
theorem dX9_numberEnd_6 : decode cX9_numberEnd 6 = .ok (.if_icmp .ge 20, 3) := by decide +kernel
theorem dX9_numberEnd_9 : decode cX9_numberEnd 9 = .ok (.aload_n 0, 1) := by decide +kernel
theorem dX9_numberEnd_10 : decode cX9_numberEnd 10 = .ok (.iload_n 2, 1) := by decide +kernel
theorem dX9_numberEnd_11 : decode cX9_numberEnd 11 = .ok (.invokevirtual 30, 3) := by decide +kernel
theorem dX9_numberEnd_14 : decode cX9_numberEnd 14 = .ok (.invokestatic 50, 3) := by decide +kernel
theorem dX9_numberEnd_17 : decode cX9_numberEnd 17 = .ok (.ifCond .eq 9, 3) := by decide +kernel
theorem dX9_numberEnd_20 : decode cX9_numberEnd 20 = .ok (.iinc 2 1, 3) := by decide +kernel
theorem dX9_numberEnd_23 : decode cX9_numberEnd 23 = .ok (.goto (-21), 3) := by decide +kernel
theorem dX9_numberEnd_26 : decode cX9_numberEnd 26 = .ok (.iload_n 2, 1) := by decide +kernel
theorem dX9_numberEnd_27 : decode cX9_numberEnd 27 = .ok (.ireturn, 1) := by decide +kernel
theorem dX9_wordOf_0 : decode cX9_wordOf 0 = .ok (.iconst 0, 1) := by decide +kernel
theorem dX9_wordOf_1 : decode cX9_wordOf 1 = .ok (.istore_n 3, 1) := by decide +kernel
theorem dX9_wordOf_2 : decode cX9_wordOf 2 = .ok (.iconst 0, 1) := by decide +kernel
theorem dX9_wordOf_3 : decode cX9_wordOf 3 = .ok (.istore 4, 2) := by decide +kernel
theorem dX9_wordOf_5 : decode cX9_wordOf 5 = .ok (.iconst 0, 1) := by decide +kernel
theorem dX9_wordOf_6 : decode cX9_wordOf 6 = .ok (.istore 5, 2) := by decide +kernel
theorem dX9_wordOf_8 : decode cX9_wordOf 8 = .ok (.iload 5, 2) := by decide +kernel
theorem dX9_wordOf_10 : decode cX9_wordOf 10 = .ok (.ldc 63, 2) := by decide +kernel
theorem dX9_wordOf_12 : decode cX9_wordOf 12 = .ok (.invokevirtual 65, 3) := by decide +kernel
theorem dX9_wordOf_15 : decode cX9_wordOf 15 = .ok (.if_icmp .ge 72, 3) := by decide +kernel
theorem dX9_wordOf_18 : decode cX9_wordOf 18 = .ok (.ldc 63, 2) := by decide +kernel
theorem dX9_wordOf_20 : decode cX9_wordOf 20 = .ok (.iload 5, 2) := by decide +kernel
theorem dX9_wordOf_22 : decode cX9_wordOf 22 = .ok (.invokevirtual 70, 3) := by decide +kernel
theorem dX9_wordOf_25 : decode cX9_wordOf 25 = .ok (.istore 6, 2) := by decide +kernel
theorem dX9_wordOf_27 : decode cX9_wordOf 27 = .ok (.iload 6, 2) := by decide +kernel
theorem dX9_wordOf_29 : decode cX9_wordOf 29 = .ok (.bipush 32, 2) := by decide +kernel
theorem dX9_wordOf_31 : decode cX9_wordOf 31 = .ok (.if_icmp .ne 22, 3) := by decide +kernel
theorem dX9_wordOf_34 : decode cX9_wordOf 34 = .ok (.iload 4, 2) := by decide +kernel
theorem dX9_wordOf_36 : decode cX9_wordOf 36 = .ok (.iload_n 2, 1) := by decide +kernel
theorem dX9_wordOf_37 : decode cX9_wordOf 37 = .ok (.iload_n 1, 1) := by decide +kernel
theorem dX9_wordOf_38 : decode cX9_wordOf 38 = .ok (.isub, 1) := by decide +kernel
theorem dX9_wordOf_39 : decode cX9_wordOf 39 = .ok (.if_icmp .ne 5, 3) := by decide +kernel
theorem dX9_wordOf_42 : decode cX9_wordOf 42 = .ok (.iload_n 3, 1) := by decide +kernel
theorem dX9_wordOf_43 : decode cX9_wordOf 43 = .ok (.ireturn, 1) := by decide +kernel
theorem dX9_wordOf_44 : decode cX9_wordOf 44 = .ok (.iinc 3 1, 3) := by decide +kernel
theorem dX9_wordOf_47 : decode cX9_wordOf 47 = .ok (.iconst 0, 1) := by decide +kernel
theorem dX9_wordOf_48 : decode cX9_wordOf 48 = .ok (.istore 4, 2) := by decide +kernel
theorem dX9_wordOf_50 : decode cX9_wordOf 50 = .ok (.goto 31, 3) := by decide +kernel
theorem dX9_wordOf_53 : decode cX9_wordOf 53 = .ok (.iload 4, 2) := by decide +kernel
theorem dX9_wordOf_55 : decode cX9_wordOf 55 = .ok (.ifCond .lt 26, 3) := by decide +kernel
theorem dX9_wordOf_58 : decode cX9_wordOf 58 = .ok (.aload_n 0, 1) := by decide +kernel
theorem dX9_wordOf_59 : decode cX9_wordOf 59 = .ok (.iload_n 1, 1) := by decide +kernel
theorem dX9_wordOf_60 : decode cX9_wordOf 60 = .ok (.iload 4, 2) := by decide +kernel
theorem dX9_wordOf_62 : decode cX9_wordOf 62 = .ok (.iadd, 1) := by decide +kernel
theorem dX9_wordOf_63 : decode cX9_wordOf 63 = .ok (.invokevirtual 30, 3) := by decide +kernel
theorem dX9_wordOf_66 : decode cX9_wordOf 66 = .ok (.iload 6, 2) := by decide +kernel
theorem dX9_wordOf_68 : decode cX9_wordOf 68 = .ok (.if_icmp .ne 10, 3) := by decide +kernel
theorem dX9_wordOf_71 : decode cX9_wordOf 71 = .ok (.iload 4, 2) := by decide +kernel
theorem dX9_wordOf_73 : decode cX9_wordOf 73 = .ok (.iconst 1, 1) := by decide +kernel
theorem dX9_wordOf_74 : decode cX9_wordOf 74 = .ok (.iadd, 1) := by decide +kernel
theorem dX9_wordOf_75 : decode cX9_wordOf 75 = .ok (.goto 4, 3) := by decide +kernel
theorem dX9_wordOf_78 : decode cX9_wordOf 78 = .ok (.iconst (-1), 1) := by decide +kernel
theorem dX9_wordOf_79 : decode cX9_wordOf 79 = .ok (.istore 4, 2) := by decide +kernel
theorem dX9_wordOf_81 : decode cX9_wordOf 81 = .ok (.iinc 5 1, 3) := by decide +kernel
theorem dX9_wordOf_84 : decode cX9_wordOf 84 = .ok (.goto (-76), 3) := by decide +kernel
theorem dX9_wordOf_87 : decode cX9_wordOf 87 = .ok (.bipush 32, 2) := by decide +kernel
theorem dX9_wordOf_89 : decode cX9_wordOf 89 = .ok (.ireturn, 1) := by decide +kernel
theorem dX9_numberOf_0 : decode cX9_numberOf 0 = .ok (.iload_n 2, 1) := by decide +kernel
theorem dX9_numberOf_1 : decode cX9_numberOf 1 = .ok (.iload_n 1, 1) := by decide +kernel
theorem dX9_numberOf_2 : decode cX9_numberOf 2 = .ok (.isub, 1) := by decide +kernel
theorem dX9_numberOf_3 : decode cX9_numberOf 3 = .ok (.iconst 4, 1) := by decide +kernel
theorem dX9_numberOf_4 : decode cX9_numberOf 4 = .ok (.if_icmp .le 5, 3) := by decide +kernel
theorem dX9_numberOf_7 : decode cX9_numberOf 7 = .ok (.iconst (-1), 1) := by decide +kernel
theorem dX9_numberOf_8 : decode cX9_numberOf 8 = .ok (.ireturn, 1) := by decide +kernel
theorem dX9_numberOf_9 : decode cX9_numberOf 9 = .ok (.iconst 0, 1) := by decide +kernel
theorem dX9_numberOf_10 : decode cX9_numberOf 10 = .ok (.istore_n 3, 1) := by decide +kernel
theorem dX9_numberOf_11 : decode cX9_numberOf 11 = .ok (.iload_n 1, 1) := by decide +kernel
theorem dX9_numberOf_12 : decode cX9_numberOf 12 = .ok (.istore 4, 2) := by decide +kernel
theorem dX9_numberOf_14 : decode cX9_numberOf 14 = .ok (.iload 4, 2) := by decide +kernel
theorem dX9_numberOf_16 : decode cX9_numberOf 16 = .ok (.iload_n 2, 1) := by decide +kernel
theorem dX9_numberOf_17 : decode cX9_numberOf 17 = .ok (.if_icmp .ge 24, 3) := by decide +kernel
theorem dX9_numberOf_20 : decode cX9_numberOf 20 = .ok (.iload_n 3, 1) := by decide +kernel
theorem dX9_numberOf_21 : decode cX9_numberOf 21 = .ok (.bipush 10, 2) := by decide +kernel
theorem dX9_numberOf_23 : decode cX9_numberOf 23 = .ok (.imul, 1) := by decide +kernel
theorem dX9_numberOf_24 : decode cX9_numberOf 24 = .ok (.aload_n 0, 1) := by decide +kernel
theorem dX9_numberOf_25 : decode cX9_numberOf 25 = .ok (.iload 4, 2) := by decide +kernel
theorem dX9_numberOf_27 : decode cX9_numberOf 27 = .ok (.invokevirtual 30, 3) := by decide +kernel
theorem dX9_numberOf_30 : decode cX9_numberOf 30 = .ok (.iadd, 1) := by decide +kernel
theorem dX9_numberOf_31 : decode cX9_numberOf 31 = .ok (.bipush 48, 2) := by decide +kernel
theorem dX9_numberOf_33 : decode cX9_numberOf 33 = .ok (.isub, 1) := by decide +kernel
theorem dX9_numberOf_34 : decode cX9_numberOf 34 = .ok (.istore_n 3, 1) := by decide +kernel
theorem dX9_numberOf_35 : decode cX9_numberOf 35 = .ok (.iinc 4 1, 3) := by decide +kernel
theorem dX9_numberOf_38 : decode cX9_numberOf 38 = .ok (.goto (-24), 3) := by decide +kernel
theorem dX9_numberOf_41 : decode cX9_numberOf 41 = .ok (.iload_n 3, 1) := by decide +kernel
theorem dX9_numberOf_42 : decode cX9_numberOf 42 = .ok (.ireturn, 1) := by decide +kernel
theorem dX9_signOf_0 : decode cX9_signOf 0 = .ok (.iload_n 0, 1) := by decide +kernel
theorem dX9_signOf_1 : decode cX9_signOf 1 = .ok (.lookupswitch 101 #[(43, 95), (45, 95), (59, 95), (60, 75), (61, 95), (62, 75), (91, 95), (93, 95)], 75) := by decide +kernel
theorem dX9_signOf_76 : decode cX9_signOf 76 = .ok (.iload_n 1, 1) := by decide +kernel
theorem dX9_signOf_77 : decode cX9_signOf 77 = .ok (.bipush 61, 2) := by decide +kernel
theorem dX9_signOf_79 : decode cX9_signOf 79 = .ok (.if_icmp .ne 11, 3) := by decide +kernel
theorem dX9_signOf_82 : decode cX9_signOf 82 = .ok (.sipush 512, 3) := by decide +kernel
theorem dX9_signOf_85 : decode cX9_signOf 85 = .ok (.iload_n 0, 1) := by decide +kernel
theorem dX9_signOf_86 : decode cX9_signOf 86 = .ok (.iadd, 1) := by decide +kernel
theorem dX9_signOf_87 : decode cX9_signOf 87 = .ok (.goto 8, 3) := by decide +kernel
theorem dX9_signOf_90 : decode cX9_signOf 90 = .ok (.sipush 256, 3) := by decide +kernel
theorem dX9_signOf_93 : decode cX9_signOf 93 = .ok (.iload_n 0, 1) := by decide +kernel
theorem dX9_signOf_94 : decode cX9_signOf 94 = .ok (.iadd, 1) := by decide +kernel
theorem dX9_signOf_95 : decode cX9_signOf 95 = .ok (.ireturn, 1) := by decide +kernel
theorem dX9_signOf_96 : decode cX9_signOf 96 = .ok (.sipush 256, 3) := by decide +kernel
theorem dX9_signOf_99 : decode cX9_signOf 99 = .ok (.iload_n 0, 1) := by decide +kernel
theorem dX9_signOf_100 : decode cX9_signOf 100 = .ok (.iadd, 1) := by decide +kernel
theorem dX9_signOf_101 : decode cX9_signOf 101 = .ok (.ireturn, 1) := by decide +kernel
theorem dX9_signOf_102 : decode cX9_signOf 102 = .ok (.bipush 32, 2) := by decide +kernel
theorem dX9_signOf_104 : decode cX9_signOf 104 = .ok (.ireturn, 1) := by decide +kernel
theorem dX9_isLetter_0 : decode cX9_isLetter 0 = .ok (.iload_n 0, 1) := by decide +kernel
theorem dX9_isLetter_1 : decode cX9_isLetter 1 = .ok (.bipush 97, 2) := by decide +kernel
theorem dX9_isLetter_3 : decode cX9_isLetter 3 = .ok (.if_icmp .lt 13, 3) := by decide +kernel
theorem dX9_isLetter_6 : decode cX9_isLetter 6 = .ok (.iload_n 0, 1) := by decide +kernel
theorem dX9_isLetter_7 : decode cX9_isLetter 7 = .ok (.bipush 122, 2) := by decide +kernel
theorem dX9_isLetter_9 : decode cX9_isLetter 9 = .ok (.if_icmp .gt 7, 3) := by decide +kernel
theorem dX9_isLetter_12 : decode cX9_isLetter 12 = .ok (.iconst 1, 1) := by decide +kernel
theorem dX9_isLetter_13 : decode cX9_isLetter 13 = .ok (.goto 4, 3) := by decide +kernel
theorem dX9_isLetter_16 : decode cX9_isLetter 16 = .ok (.iconst 0, 1) := by decide +kernel
theorem dX9_isLetter_17 : decode cX9_isLetter 17 = .ok (.ireturn, 1) := by decide +kernel
theorem dX9_isDigit_0 : decode cX9_isDigit 0 = .ok (.iload_n 0, 1) := by decide +kernel
theorem dX9_isDigit_1 : decode cX9_isDigit 1 = .ok (.bipush 48, 2) := by decide +kernel
theorem dX9_isDigit_3 : decode cX9_isDigit 3 = .ok (.if_icmp .lt 13, 3) := by decide +kernel
theorem dX9_isDigit_6 : decode cX9_isDigit 6 = .ok (.iload_n 0, 1) := by decide +kernel
theorem dX9_isDigit_7 : decode cX9_isDigit 7 = .ok (.bipush 57, 2) := by decide +kernel
theorem dX9_isDigit_9 : decode cX9_isDigit 9 = .ok (.if_icmp .gt 7, 3) := by decide +kernel
theorem dX9_isDigit_12 : decode cX9_isDigit 12 = .ok (.iconst 1, 1) := by decide +kernel
theorem dX9_isDigit_13 : decode cX9_isDigit 13 = .ok (.goto 4, 3) := by decide +kernel
theorem dX9_isDigit_16 : decode cX9_isDigit 16 = .ok (.iconst 0, 1) := by decide +kernel
theorem dX9_isDigit_17 : decode cX9_isDigit 17 = .ok (.ireturn, 1) := by decide +kernel
