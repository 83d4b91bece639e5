theorem dX12_again_1 : decode cX12_again 1 = .ok (.iload_n 1, 1) := by decide +kernel
theorem dX12_again_2 : decode cX12_again 2 = .ok (.invokevirtual 396, 3) := by decide +kernel
theorem dX12_again_5 : decode cX12_again 5 = .ok (.aload_n 0, 1) := by decide +kernel
theorem dX12_again_6 : decode cX12_again 6 = .ok (.getfield 82, 3) := by decide +kernel
theorem dX12_again_9 : decode cX12_again 9 = .ok (.bipush 64, 2) := by decide +kernel
theorem dX12_again_11 : decode cX12_again 11 = .ok (.iload_n 1, 1) := by decide +kernel
theorem dX12_again_12 : decode cX12_again 12 = .ok (.imul, 1) := by decide +kernel
theorem dX12_again_13 : decode cX12_again 13 = .ok (.iconst 5, 1) := by decide +kernel
theorem dX12_again_14 : decode cX12_again 14 = .ok (.iadd, 1) := by decide +kernel
theorem dX12_again_15 : decode cX12_again 15 = .ok (.iaload, 1) := by decide +kernel
theorem dX12_again_16 : decode cX12_again 16 = .ok (.istore_n 3, 1) := by decide +kernel
theorem dX12_again_17 : decode cX12_again 17 = .ok (.aload_n 0, 1) := by decide +kernel
theorem dX12_again_18 : decode cX12_again 18 = .ok (.aload_n 0, 1) := by decide +kernel
theorem dX12_again_19 : decode cX12_again 19 = .ok (.getfield 82, 3) := by decide +kernel
theorem dX12_again_22 : decode cX12_again 22 = .ok (.bipush 64, 2) := by decide +kernel
theorem dX12_again_24 : decode cX12_again 24 = .ok (.iload_n 1, 1) := by decide +kernel
theorem dX12_again_25 : decode cX12_again 25 = .ok (.imul, 1) := by decide +kernel
theorem dX12_again_26 : decode cX12_again 26 = .ok (.bipush 8, 2) := by decide +kernel
theorem dX12_again_28 : decode cX12_again 28 = .ok (.iadd, 1) := by decide +kernel
theorem dX12_again_29 : decode cX12_again 29 = .ok (.iaload, 1) := by decide +kernel
theorem dX12_again_30 : decode cX12_again 30 = .ok (.iload_n 2, 1) := by decide +kernel
theorem dX12_again_31 : decode cX12_again 31 = .ok (.iconst 1, 1) := by decide +kernel
theorem dX12_again_32 : decode cX12_again 32 = .ok (.iand, 1) := by decide +kernel
theorem dX12_again_33 : decode cX12_again 33 = .ok (.ifCond .ne 7, 3) := by decide +kernel
theorem dX12_again_36 : decode cX12_again 36 = .ok (.iconst 1, 1) := by decide +kernel
theorem dX12_again_37 : decode cX12_again 37 = .ok (.goto 4, 3) := by decide +kernel
theorem dX12_again_40 : decode cX12_again 40 = .ok (.iconst 0, 1) := by decide +kernel
theorem dX12_again_41 : decode cX12_again 41 = .ok (.invokevirtual 402, 3) := by decide +kernel
theorem dX12_again_44 : decode cX12_again 44 = .ok (.iconst 1, 1) := by decide +kernel
theorem dX12_again_45 : decode cX12_again 45 = .ok (.istore 4, 2) := by decide +kernel
theorem dX12_again_47 : decode cX12_again 47 = .ok (.iload 4, 2) := by decide +kernel
theorem dX12_again_49 : decode cX12_again 49 = .ok (.iload_n 3, 1) := by decide +kernel
theorem dX12_again_50 : decode cX12_again 50 = .ok (.if_icmp .ge 64, 3) := by decide +kernel
theorem dX12_again_53 : decode cX12_again 53 = .ok (.aload_n 0, 1) := by decide +kernel
theorem dX12_again_54 : decode cX12_again 54 = .ok (.aload_n 0, 1) := by decide +kernel
theorem dX12_again_55 : decode cX12_again 55 = .ok (.getfield 82, 3) := by decide +kernel
theorem dX12_again_58 : decode cX12_again 58 = .ok (.bipush 64, 2) := by decide +kernel
theorem dX12_again_60 : decode cX12_again 60 = .ok (.iload_n 1, 1) := by decide +kernel
theorem dX12_again_61 : decode cX12_again 61 = .ok (.imul, 1) := by decide +kernel
theorem dX12_again_62 : decode cX12_again 62 = .ok (.bipush 8, 2) := by decide +kernel
theorem dX12_again_64 : decode cX12_again 64 = .ok (.iadd, 1) := by decide +kernel
theorem dX12_again_65 : decode cX12_again 65 = .ok (.iload 4, 2) := by decide +kernel
theorem dX12_again_67 : decode cX12_again 67 = .ok (.iadd, 1) := by decide +kernel
theorem dX12_again_68 : decode cX12_again 68 = .ok (.iaload, 1) := by decide +kernel
theorem dX12_again_69 : decode cX12_again 69 = .ok (.invokevirtual 364, 3) := by decide +kernel
theorem dX12_again_72 : decode cX12_again 72 = .ok (.ifCond .eq 42, 3) := by decide +kernel
theorem dX12_again_75 : decode cX12_again 75 = .ok (.aload_n 0, 1) := by decide +kernel
theorem dX12_again_76 : decode cX12_again 76 = .ok (.aload_n 0, 1) := by decide +kernel
theorem dX12_again_77 : decode cX12_again 77 = .ok (.getfield 82, 3) := by decide +kernel
theorem dX12_again_80 : decode cX12_again 80 = .ok (.bipush 64, 2) := by decide +kernel
theorem dX12_again_82 : decode cX12_again 82 = .ok (.iload_n 1, 1) := by decide +kernel
theorem dX12_again_83 : decode cX12_again 83 = .ok (.imul, 1) := by decide +kernel
theorem dX12_again_84 : decode cX12_again 84 = .ok (.bipush 8, 2) := by decide +kernel
theorem dX12_again_86 : decode cX12_again 86 = .ok (.iadd, 1) := by decide +kernel
theorem dX12_again_87 : decode cX12_again 87 = .ok (.iload 4, 2) := by decide +kernel
theorem dX12_again_89 : decode cX12_again 89 = .ok (.iadd, 1) := by decide +kernel
theorem dX12_again_90 : decode cX12_again 90 = .ok (.iaload, 1) := by decide +kernel
theorem dX12_again_91 : decode cX12_again 91 = .ok (.iload_n 2, 1) := by decide +kernel
theorem dX12_again_92 : decode cX12_again 92 = .ok (.iload 4, 2) := by decide +kernel
theorem dX12_again_94 : decode cX12_again 94 = .ok (.ishr, 1) := by decide +kernel
theorem dX12_again_95 : decode cX12_again 95 = .ok (.iconst 1, 1) := by decide +kernel
theorem dX12_again_96 : decode cX12_again 96 = .ok (.iand, 1) := by decide +kernel
theorem dX12_again_97 : decode cX12_again 97 = .ok (.ifCond .ne 7, 3) := by decide +kernel
theorem dX12_again_100 : decode cX12_again 100 = .ok (.iconst 1, 1) := by decide +kernel
theorem dX12_again_101 : decode cX12_again 101 = .ok (.goto 4, 3) := by decide +kernel
theorem dX12_again_104 : decode cX12_again 104 = .ok (.iconst 0, 1) := by decide +kernel
theorem dX12_again_105 : decode cX12_again 105 = .ok (.invokevirtual 367, 3) := by decide +kernel
theorem dX12_again_108 : decode cX12_again 108 = .ok (.iinc 4 1, 3) := by decide +kernel
theorem dX12_again_111 : decode cX12_again 111 = .ok (.goto (-64), 3) := by decide +kernel
theorem dX12_again_114 : decode cX12_again 114 = .ok (.return_, 1) := by decide +kernel
theorem dX12_doubt_0 : decode cX12_doubt 0 = .ok (.aload_n 0, 1) := by decide +kernel
theorem dX12_doubt_1 : decode cX12_doubt 1 = .ok (.iload_n 1, 1) := by decide +kernel
theorem dX12_doubt_2 : decode cX12_doubt 2 = .ok (.invokevirtual 408, 3) := by decide +kernel
theorem dX12_doubt_5 : decode cX12_doubt 5 = .ok (.ifCond .eq 28, 3) := by decide +kernel
theorem dX12_doubt_8 : decode cX12_doubt 8 = .ok (.iload_n 2, 1) := by decide +kernel
theorem dX12_doubt_9 : decode cX12_doubt 9 = .ok (.i2l, 1) := by decide +kernel
theorem dX12_doubt_10 : decode cX12_doubt 10 = .ok (.lconst 0, 1) := by decide +kernel
theorem dX12_doubt_11 : decode cX12_doubt 11 = .ok (.iconst 1, 1) := by decide +kernel
theorem dX12_doubt_12 : decode cX12_doubt 12 = .ok (.aload_n 0, 1) := by decide +kernel
theorem dX12_doubt_13 : decode cX12_doubt 13 = .ok (.getfield 82, 3) := by decide +kernel
theorem dX12_doubt_16 : decode cX12_doubt 16 = .ok (.bipush 64, 2) := by decide +kernel
theorem dX12_doubt_18 : decode cX12_doubt 18 = .ok (.iload_n 1, 1) := by decide +kernel
theorem dX12_doubt_19 : decode cX12_doubt 19 = .ok (.imul, 1) := by decide +kernel
theorem dX12_doubt_20 : decode cX12_doubt 20 = .ok (.iconst 5, 1) := by decide +kernel
theorem dX12_doubt_21 : decode cX12_doubt 21 = .ok (.iadd, 1) := by decide +kernel
theorem dX12_doubt_22 : decode cX12_doubt 22 = .ok (.iaload, 1) := by decide +kernel
theorem dX12_doubt_23 : decode cX12_doubt 23 = .ok (.ishl, 1) := by decide +kernel
theorem dX12_doubt_24 : decode cX12_doubt 24 = .ok (.iconst 1, 1) := by decide +kernel
theorem dX12_doubt_25 : decode cX12_doubt 25 = .ok (.isub, 1) := by decide +kernel
theorem dX12_doubt_26 : decode cX12_doubt 26 = .ok (.i2l, 1) := by decide +kernel
theorem dX12_doubt_27 : decode cX12_doubt 27 = .ok (.invokestatic 97, 3) := by decide +kernel
theorem dX12_doubt_30 : decode cX12_doubt 30 = .ok (.ifCond .ne 5, 3) := by decide +kernel
theorem dX12_doubt_33 : decode cX12_doubt 33 = .ok (.iconst (-1), 1) := by decide +kernel
theorem dX12_doubt_34 : decode cX12_doubt 34 = .ok (.ireturn, 1) := by decide +kernel
theorem dX12_doubt_35 : decode cX12_doubt 35 = .ok (.iconst 0, 1) := by decide +kernel
theorem dX12_doubt_36 : decode cX12_doubt 36 = .ok (.istore_n 3, 1) := by decide +kernel
theorem dX12_doubt_37 : decode cX12_doubt 37 = .ok (.aload_n 0, 1) := by decide +kernel
theorem dX12_doubt_38 : decode cX12_doubt 38 = .ok (.invokevirtual 383, 3) := by decide +kernel
theorem dX12_doubt_41 : decode cX12_doubt 41 = .ok (.iconst 0, 1) := by decide +kernel
theorem dX12_doubt_42 : decode cX12_doubt 42 = .ok (.istore 4, 2) := by decide +kernel
theorem dX12_doubt_44 : decode cX12_doubt 44 = .ok (.iload 4, 2) := by decide +kernel
theorem dX12_doubt_46 : decode cX12_doubt 46 = .ok (.iload_n 2, 1) := by decide +kernel
theorem dX12_doubt_47 : decode cX12_doubt 47 = .ok (.if_icmp .gt 57, 3) := by decide +kernel
theorem dX12_doubt_50 : decode cX12_doubt 50 = .ok (.iload 4, 2) := by decide +kernel
theorem dX12_doubt_52 : decode cX12_doubt 52 = .ok (.iload_n 2, 1) := by decide +kernel
theorem dX12_doubt_53 : decode cX12_doubt 53 = .ok (.iconst (-1), 1) := by decide +kernel
theorem dX12_doubt_54 : decode cX12_doubt 54 = .ok (.ixor, 1) := by decide +kernel
theorem dX12_doubt_55 : decode cX12_doubt 55 = .ok (.iand, 1) := by decide +kernel
theorem dX12_doubt_56 : decode cX12_doubt 56 = .ok (.ifCond .eq 6, 3) := by decide +kernel
theorem dX12_doubt_59 : decode cX12_doubt 59 = .ok (.goto 39, 3) := by decide +kernel
theorem dX12_doubt_62 : decode cX12_doubt 62 = .ok (.aload_n 0, 1) := by decide +kernel
theorem dX12_doubt_63 : decode cX12_doubt 63 = .ok (.iload_n 1, 1) := by decide +kernel
theorem dX12_doubt_64 : decode cX12_doubt 64 = .ok (.iload 4, 2) := by decide +kernel
theorem dX12_doubt_66 : decode cX12_doubt 66 = .ok (.invokevirtual 429, 3) := by decide +kernel
theorem dX12_doubt_69 : decode cX12_doubt 69 = .ok (.aload_n 0, 1) := by decide +kernel
theorem dX12_doubt_70 : decode cX12_doubt 70 = .ok (.getfield 347, 3) := by decide +kernel
theorem dX12_doubt_73 : decode cX12_doubt 73 = .ok (.ifCond .le 15, 3) := by decide +kernel
theorem dX12_doubt_76 : decode cX12_doubt 76 = .ok (.iload_n 3, 1) := by decide +kernel
theorem dX12_doubt_77 : decode cX12_doubt 77 = .ok (.iconst 1, 1) := by decide +kernel
theorem dX12_doubt_78 : decode cX12_doubt 78 = .ok (.aload_n 0, 1) := by decide +kernel
theorem dX12_doubt_79 : decode cX12_doubt 79 = .ok (.invokevirtual 377, 3) := by decide +kernel
theorem dX12_doubt_82 : decode cX12_doubt 82 = .ok (.ishl, 1) := by decide +kernel
theorem dX12_doubt_83 : decode cX12_doubt 83 = .ok (.ior, 1) := by decide +kernel
theorem dX12_doubt_84 : decode cX12_doubt 84 = .ok (.istore_n 3, 1) := by decide +kernel
theorem dX12_doubt_85 : decode cX12_doubt 85 = .ok (.goto 13, 3) := by decide +kernel
theorem dX12_doubt_88 : decode cX12_doubt 88 = .ok (.aload_n 0, 1) := by decide +kernel
theorem dX12_doubt_89 : decode cX12_doubt 89 = .ok (.getfield 62, 3) := by decide +kernel
theorem dX12_doubt_92 : decode cX12_doubt 92 = .ok (.aload_n 0, 1) := by decide +kernel
theorem dX12_doubt_93 : decode cX12_doubt 93 = .ok (.invokevirtual 371, 3) := by decide +kernel
theorem dX12_doubt_96 : decode cX12_doubt 96 = .ok (.iconst 1, 1) := by decide +kernel
theorem dX12_doubt_97 : decode cX12_doubt 97 = .ok (.bastore, 1) := by decide +kernel
theorem dX12_doubt_98 : decode cX12_doubt 98 = .ok (.iinc 4 1, 3) := by decide +kernel
theorem dX12_doubt_101 : decode cX12_doubt 101 = .ok (.goto (-57), 3) := by decide +kernel
theorem dX12_doubt_104 : decode cX12_doubt 104 = .ok (.aload_n 0, 1) := by decide +kernel
theorem dX12_doubt_105 : decode cX12_doubt 105 = .ok (.iconst (-1), 1) := by decide +kernel
theorem dX12_doubt_106 : decode cX12_doubt 106 = .ok (.invokevirtual 386, 3) := by decide +kernel
theorem dX12_doubt_109 : decode cX12_doubt 109 = .ok (.iconst 0, 1) := by decide +kernel
theorem dX12_doubt_110 : decode cX12_doubt 110 = .ok (.istore 4, 2) := by decide +kernel
theorem dX12_doubt_112 : decode cX12_doubt 112 = .ok (.iload 4, 2) := by decide +kernel
theorem dX12_doubt_114 : decode cX12_doubt 114 = .ok (.iload_n 2, 1) := by decide +kernel
theorem dX12_doubt_115 : decode cX12_doubt 115 = .ok (.if_icmp .gt 49, 3) := by decide +kernel
theorem dX12_doubt_118 : decode cX12_doubt 118 = .ok (.iload 4, 2) := by decide +kernel
theorem dX12_doubt_120 : decode cX12_doubt 120 = .ok (.iload_n 2, 1) := by decide +kernel
theorem dX12_doubt_121 : decode cX12_doubt 121 = .ok (.iconst (-1), 1) := by decide +kernel
theorem dX12_doubt_122 : decode cX12_doubt 122 = .ok (.ixor, 1) := by decide +kernel
theorem dX12_doubt_123 : decode cX12_doubt 123 = .ok (.iand, 1) := by decide +kernel
theorem dX12_doubt_124 : decode cX12_doubt 124 = .ok (.ifCond .eq 6, 3) := by decide +kernel
theorem dX12_doubt_127 : decode cX12_doubt 127 = .ok (.goto 31, 3) := by decide +kernel
theorem dX12_doubt_130 : decode cX12_doubt 130 = .ok (.aload_n 0, 1) := by decide +kernel
theorem dX12_doubt_131 : decode cX12_doubt 131 = .ok (.iload_n 1, 1) := by decide +kernel
theorem dX12_doubt_132 : decode cX12_doubt 132 = .ok (.iload 4, 2) := by decide +kernel
theorem dX12_doubt_134 : decode cX12_doubt 134 = .ok (.invokevirtual 429, 3) := by decide +kernel
theorem dX12_doubt_137 : decode cX12_doubt 137 = .ok (.aload_n 0, 1) := by decide +kernel
theorem dX12_doubt_138 : decode cX12_doubt 138 = .ok (.getfield 347, 3) := by decide +kernel
theorem dX12_doubt_141 : decode cX12_doubt 141 = .ok (.ifCond .ne 17, 3) := by decide +kernel
theorem dX12_doubt_144 : decode cX12_doubt 144 = .ok (.iload_n 3, 1) := by decide +kernel
theorem dX12_doubt_145 : decode cX12_doubt 145 = .ok (.iconst 1, 1) := by decide +kernel
theorem dX12_doubt_146 : decode cX12_doubt 146 = .ok (.aload_n 0, 1) := by decide +kernel
theorem dX12_doubt_147 : decode cX12_doubt 147 = .ok (.getfield 66, 3) := by decide +kernel
theorem dX12_doubt_150 : decode cX12_doubt 150 = .ok (.aload_n 0, 1) := by decide +kernel
theorem dX12_doubt_151 : decode cX12_doubt 151 = .ok (.invokevirtual 371, 3) := by decide +kernel
theorem dX12_doubt_154 : decode cX12_doubt 154 = .ok (.iaload, 1) := by decide +kernel
theorem dX12_doubt_155 : decode cX12_doubt 155 = .ok (.ishl, 1) := by decide +kernel
theorem dX12_doubt_156 : decode cX12_doubt 156 = .ok (.ior, 1) := by decide +kernel
theorem dX12_doubt_157 : decode cX12_doubt 157 = .ok (.istore_n 3, 1) := by decide +kernel
theorem dX12_doubt_158 : decode cX12_doubt 158 = .ok (.iinc 4 1, 3) := by decide +kernel
theorem dX12_doubt_161 : decode cX12_doubt 161 = .ok (.goto (-49), 3) := by decide +kernel
theorem dX12_doubt_164 : decode cX12_doubt 164 = .ok (.iload_n 3, 1) := by decide +kernel
theorem dX12_doubt_165 : decode cX12_doubt 165 = .ok (.ireturn, 1) := by decide +kernel
theorem dX12_hangs_0 : decode cX12_hangs 0 = .ok (.aload_n 0, 1) := by decide +kernel
theorem dX12_hangs_1 : decode cX12_hangs 1 = .ok (.iload_n 1, 1) := by decide +kernel
theorem dX12_hangs_2 : decode cX12_hangs 2 = .ok (.invokevirtual 408, 3) := by decide +kernel
theorem dX12_hangs_5 : decode cX12_hangs 5 = .ok (.ifCond .ne 5, 3) := by decide +kernel
theorem dX12_hangs_8 : decode cX12_hangs 8 = .ok (.iconst (-1), 1) := by decide +kernel
theorem dX12_hangs_9 : decode cX12_hangs 9 = .ok (.ireturn, 1) := by decide +kernel
theorem dX12_hangs_10 : decode cX12_hangs 10 = .ok (.aload_n 0, 1) := by decide +kernel
theorem dX12_hangs_11 : decode cX12_hangs 11 = .ok (.iload_n 1, 1) := by decide +kernel
theorem dX12_hangs_12 : decode cX12_hangs 12 = .ok (.iconst 0, 1) := by decide +kernel
theorem dX12_hangs_13 : decode cX12_hangs 13 = .ok (.invokevirtual 429, 3) := by decide +kernel
theorem dX12_hangs_16 : decode cX12_hangs 16 = .ok (.aload_n 0, 1) := by decide +kernel
theorem dX12_hangs_17 : decode cX12_hangs 17 = .ok (.invokevirtual 426, 3) := by decide +kernel
theorem dX12_hangs_20 : decode cX12_hangs 20 = .ok (.istore_n 2, 1) := by decide +kernel
theorem dX12_hangs_21 : decode cX12_hangs 21 = .ok (.iconst 0, 1) := by decide +kernel
theorem dX12_hangs_22 : decode cX12_hangs 22 = .ok (.istore_n 3, 1) := by decide +kernel
theorem dX12_hangs_23 : decode cX12_hangs 23 = .ok (.iconst 0, 1) := by decide +kernel
theorem dX12_hangs_24 : decode cX12_hangs 24 = .ok (.istore 4, 2) := by decide +kernel
theorem dX12_hangs_26 : decode cX12_hangs 26 = .ok (.iload 4, 2) := by decide +kernel
theorem dX12_hangs_28 : decode cX12_hangs 28 = .ok (.aload_n 0, 1) := by decide +kernel
theorem dX12_hangs_29 : decode cX12_hangs 29 = .ok (.getfield 82, 3) := by decide +kernel
theorem dX12_hangs_32 : decode cX12_hangs 32 = .ok (.bipush 64, 2) := by decide +kernel
theorem dX12_hangs_34 : decode cX12_hangs 34 = .ok (.iload_n 1, 1) := by decide +kernel
theorem dX12_hangs_35 : decode cX12_hangs 35 = .ok (.imul, 1) := by decide +kernel
theorem dX12_hangs_36 : decode cX12_hangs 36 = .ok (.iconst 5, 1) := by decide +kernel
theorem dX12_hangs_37 : decode cX12_hangs 37 = .ok (.iadd, 1) := by decide +kernel
theorem dX12_hangs_38 : decode cX12_hangs 38 = .ok (.iaload, 1) := by decide +kernel
theorem dX12_hangs_39 : decode cX12_hangs 39 = .ok (.if_icmp .ge 37, 3) := by decide +kernel
theorem dX12_hangs_42 : decode cX12_hangs 42 = .ok (.aload_n 0, 1) := by decide +kernel
theorem dX12_hangs_43 : decode cX12_hangs 43 = .ok (.iload_n 1, 1) := by decide +kernel
theorem dX12_hangs_44 : decode cX12_hangs 44 = .ok (.iconst 1, 1) := by decide +kernel
theorem dX12_hangs_45 : decode cX12_hangs 45 = .ok (.iload 4, 2) := by decide +kernel
theorem dX12_hangs_47 : decode cX12_hangs 47 = .ok (.ishl, 1) := by decide +kernel
theorem dX12_hangs_48 : decode cX12_hangs 48 = .ok (.invokevirtual 429, 3) := by decide +kernel
theorem dX12_hangs_51 : decode cX12_hangs 51 = .ok (.iload_n 3, 1) := by decide +kernel
theorem dX12_hangs_52 : decode cX12_hangs 52 = .ok (.aload_n 0, 1) := by decide +kernel
theorem dX12_hangs_53 : decode cX12_hangs 53 = .ok (.invokevirtual 426, 3) := by decide +kernel
theorem dX12_hangs_56 : decode cX12_hangs 56 = .ok (.iload_n 2, 1) := by decide +kernel
theorem dX12_hangs_57 : decode cX12_hangs 57 = .ok (.if_icmp .eq 10, 3) := by decide +kernel
theorem dX12_hangs_60 : decode cX12_hangs 60 = .ok (.iconst 1, 1) := by decide +kernel
theorem dX12_hangs_61 : decode cX12_hangs 61 = .ok (.iload 4, 2) := by decide +kernel
theorem dX12_hangs_63 : decode cX12_hangs 63 = .ok (.ishl, 1) := by decide +kernel
theorem dX12_hangs_64 : decode cX12_hangs 64 = .ok (.goto 4, 3) := by decide +kernel
theorem dX12_hangs_67 : decode cX12_hangs 67 = .ok (.iconst 0, 1) := by decide +kernel
theorem dX12_hangs_68 : decode cX12_hangs 68 = .ok (.ior, 1) := by decide +kernel
theorem dX12_hangs_69 : decode cX12_hangs 69 = .ok (.istore_n 3, 1) := by decide +kernel
theorem dX12_hangs_70 : decode cX12_hangs 70 = .ok (.iinc 4 1, 3) := by decide +kernel
theorem dX12_hangs_73 : decode cX12_hangs 73 = .ok (.goto (-47), 3) := by decide +kernel
theorem dX12_hangs_76 : decode cX12_hangs 76 = .ok (.iload_n 3, 1) := by decide +kernel
theorem dX12_hangs_77 : decode cX12_hangs 77 = .ok (.ireturn, 1) := by decide +kernel
theorem dX12_thinks_0 : decode cX12_thinks 0 = .ok (.aload_n 0, 1) := by decide +kernel
theorem dX12_thinks_1 : decode cX12_thinks 1 = .ok (.iload_n 1, 1) := by decide +kernel
theorem dX12_thinks_2 : decode cX12_thinks 2 = .ok (.invokevirtual 408, 3) := by decide +kernel
theorem dX12_thinks_5 : decode cX12_thinks 5 = .ok (.ifCond .eq 23, 3) := by decide +kernel
theorem dX12_thinks_8 : decode cX12_thinks 8 = .ok (.iload_n 2, 1) := by decide +kernel
theorem dX12_thinks_9 : decode cX12_thinks 9 = .ok (.i2l, 1) := by decide +kernel
theorem dX12_thinks_10 : decode cX12_thinks 10 = .ok (.lconst 0, 1) := by decide +kernel
theorem dX12_thinks_11 : decode cX12_thinks 11 = .ok (.lconst 1, 1) := by decide +kernel
theorem dX12_thinks_12 : decode cX12_thinks 12 = .ok (.invokestatic 97, 3) := by decide +kernel
theorem dX12_thinks_15 : decode cX12_thinks 15 = .ok (.ifCond .eq 13, 3) := by decide +kernel
theorem dX12_thinks_18 : decode cX12_thinks 18 = .ok (.iload_n 3, 1) := by decide +kernel
theorem dX12_thinks_19 : decode cX12_thinks 19 = .ok (.i2l, 1) := by decide +kernel
theorem dX12_thinks_20 : decode cX12_thinks 20 = .ok (.lconst 0, 1) := by decide +kernel
theorem dX12_thinks_21 : decode cX12_thinks 21 = .ok (.lconst 1, 1) := by decide +kernel
theorem dX12_thinks_22 : decode cX12_thinks 22 = .ok (.invokestatic 97, 3) := by decide +kernel
theorem dX12_thinks_25 : decode cX12_thinks 25 = .ok (.ifCond .ne 5, 3) := by decide +kernel
theorem dX12_thinks_28 : decode cX12_thinks 28 = .ok (.iconst (-1), 1) := by decide +kernel
theorem dX12_thinks_29 : decode cX12_thinks 29 = .ok (.ireturn, 1) := by decide +kernel
theorem dX12_thinks_30 : decode cX12_thinks 30 = .ok (.aload_n 0, 1) := by decide +kernel
theorem dX12_thinks_31 : decode cX12_thinks 31 = .ok (.iload_n 1, 1) := by decide +kernel
theorem dX12_thinks_32 : decode cX12_thinks 32 = .ok (.invokevirtual 396, 3) := by decide +kernel
theorem dX12_thinks_35 : decode cX12_thinks 35 = .ok (.aload_n 0, 1) := by decide +kernel
theorem dX12_thinks_36 : decode cX12_thinks 36 = .ok (.getfield 56, 3) := by decide +kernel
theorem dX12_thinks_39 : decode cX12_thinks 39 = .ok (.iload_n 2, 1) := by decide +kernel
theorem dX12_thinks_40 : decode cX12_thinks 40 = .ok (.iaload, 1) := by decide +kernel
theorem dX12_thinks_41 : decode cX12_thinks 41 = .ok (.istore 4, 2) := by decide +kernel
theorem dX12_thinks_43 : decode cX12_thinks 43 = .ok (.aload_n 0, 1) := by decide +kernel
theorem dX12_thinks_44 : decode cX12_thinks 44 = .ok (.getfield 59, 3) := by decide +kernel
theorem dX12_thinks_47 : decode cX12_thinks 47 = .ok (.iconst 0, 1) := by decide +kernel
theorem dX12_thinks_48 : decode cX12_thinks 48 = .ok (.iconst 0, 1) := by decide +kernel
theorem dX12_thinks_49 : decode cX12_thinks 49 = .ok (.iastore, 1) := by decide +kernel
theorem dX12_thinks_50 : decode cX12_thinks 50 = .ok (.aload_n 0, 1) := by decide +kernel
theorem dX12_thinks_51 : decode cX12_thinks 51 = .ok (.getfield 59, 3) := by decide +kernel
theorem dX12_thinks_54 : decode cX12_thinks 54 = .ok (.iconst 1, 1) := by decide +kernel
theorem dX12_thinks_55 : decode cX12_thinks 55 = .ok (.iconst 0, 1) := by decide +kernel
theorem dX12_thinks_56 : decode cX12_thinks 56 = .ok (.iastore, 1) := by decide +kernel
theorem dX12_thinks_57 : decode cX12_thinks 57 = .ok (.aload_n 0, 1) := by decide +kernel
theorem dX12_thinks_58 : decode cX12_thinks 58 = .ok (.iconst 0, 1) := by decide +kernel
theorem dX12_thinks_59 : decode cX12_thinks 59 = .ok (.putfield 338, 3) := by decide +kernel
theorem dX12_thinks_62 : decode cX12_thinks 62 = .ok (.aload_n 0, 1) := by decide +kernel
theorem dX12_thinks_63 : decode cX12_thinks 63 = .ok (.aload_n 0, 1) := by decide +kernel
theorem dX12_thinks_64 : decode cX12_thinks 64 = .ok (.getfield 335, 3) := by decide +kernel
theorem dX12_thinks_67 : decode cX12_thinks 67 = .ok (.putfield 341, 3) := by decide +kernel
theorem dX12_thinks_70 : decode cX12_thinks 70 = .ok (.iconst 0, 1) := by decide +kernel
theorem dX12_thinks_71 : decode cX12_thinks 71 = .ok (.istore 5, 2) := by decide +kernel
theorem dX12_thinks_73 : decode cX12_thinks 73 = .ok (.iload 5, 2) := by decide +kernel
theorem dX12_thinks_75 : decode cX12_thinks 75 = .ok (.aload_n 0, 1) := by decide +kernel
theorem dX12_thinks_76 : decode cX12_thinks 76 = .ok (.getfield 82, 3) := by decide +kernel
theorem dX12_thinks_79 : decode cX12_thinks 79 = .ok (.bipush 64, 2) := by decide +kernel
theorem dX12_thinks_81 : decode cX12_thinks 81 = .ok (.iload_n 1, 1) := by decide +kernel
theorem dX12_thinks_82 : decode cX12_thinks 82 = .ok (.imul, 1) := by decide +kernel
theorem dX12_thinks_83 : decode cX12_thinks 83 = .ok (.iconst 5, 1) := by decide +kernel
theorem dX12_thinks_84 : decode cX12_thinks 84 = .ok (.iadd, 1) := by decide +kernel
theorem dX12_thinks_85 : decode cX12_thinks 85 = .ok (.iaload, 1) := by decide +kernel
theorem dX12_thinks_86 : decode cX12_thinks 86 = .ok (.if_icmp .ge 142, 3) := by decide +kernel
theorem dX12_thinks_89 : decode cX12_thinks 89 = .ok (.aload_n 0, 1) := by decide +kernel
theorem dX12_thinks_90 : decode cX12_thinks 90 = .ok (.getfield 82, 3) := by decide +kernel
theorem dX12_thinks_93 : decode cX12_thinks 93 = .ok (.bipush 64, 2) := by decide +kernel
theorem dX12_thinks_95 : decode cX12_thinks 95 = .ok (.iload_n 1, 1) := by decide +kernel
theorem dX12_thinks_96 : decode cX12_thinks 96 = .ok (.imul, 1) := by decide +kernel
theorem dX12_thinks_97 : decode cX12_thinks 97 = .ok (.bipush 8, 2) := by decide +kernel
theorem dX12_thinks_99 : decode cX12_thinks 99 = .ok (.iadd, 1) := by decide +kernel
theorem dX12_thinks_100 : decode cX12_thinks 100 = .ok (.iload 5, 2) := by decide +kernel
theorem dX12_thinks_102 : decode cX12_thinks 102 = .ok (.iadd, 1) := by decide +kernel
theorem dX12_thinks_103 : decode cX12_thinks 103 = .ok (.iaload, 1) := by decide +kernel
theorem dX12_thinks_104 : decode cX12_thinks 104 = .ok (.istore 6, 2) := by decide +kernel
theorem dX12_thinks_106 : decode cX12_thinks 106 = .ok (.iconst 1, 1) := by decide +kernel
theorem dX12_thinks_107 : decode cX12_thinks 107 = .ok (.aload_n 0, 1) := by decide +kernel
theorem dX12_thinks_108 : decode cX12_thinks 108 = .ok (.getfield 338, 3) := by decide +kernel
theorem dX12_thinks_111 : decode cX12_thinks 111 = .ok (.isub, 1) := by decide +kernel
theorem dX12_thinks_112 : decode cX12_thinks 112 = .ok (.istore 7, 2) := by decide +kernel
theorem dX12_thinks_114 : decode cX12_thinks 114 = .ok (.aload_n 0, 1) := by decide +kernel
theorem dX12_thinks_115 : decode cX12_thinks 115 = .ok (.invokevirtual 353, 3) := by decide +kernel
theorem dX12_thinks_118 : decode cX12_thinks 118 = .ok (.aload_n 0, 1) := by decide +kernel
theorem dX12_thinks_119 : decode cX12_thinks 119 = .ok (.getfield 59, 3) := by decide +kernel
theorem dX12_thinks_122 : decode cX12_thinks 122 = .ok (.iload 7, 2) := by decide +kernel
theorem dX12_thinks_124 : decode cX12_thinks 124 = .ok (.iaload, 1) := by decide +kernel
theorem dX12_thinks_125 : decode cX12_thinks 125 = .ok (.iload 6, 2) := by decide +kernel
theorem dX12_thinks_127 : decode cX12_thinks 127 = .ok (.iconst 4, 1) := by decide +kernel
theorem dX12_thinks_128 : decode cX12_thinks 128 = .ok (.if_icmp .ge 14, 3) := by decide +kernel
theorem dX12_thinks_131 : decode cX12_thinks 131 = .ok (.aload_n 0, 1) := by decide +kernel
theorem dX12_thinks_132 : decode cX12_thinks 132 = .ok (.iload 4, 2) := by decide +kernel
theorem dX12_thinks_134 : decode cX12_thinks 134 = .ok (.iload 6, 2) := by decide +kernel
theorem dX12_thinks_136 : decode cX12_thinks 136 = .ok (.invokevirtual 322, 3) := by decide +kernel
theorem dX12_thinks_139 : decode cX12_thinks 139 = .ok (.goto 25, 3) := by decide +kernel
theorem dX12_thinks_142 : decode cX12_thinks 142 = .ok (.iload 6, 2) := by decide +kernel
theorem dX12_thinks_144 : decode cX12_thinks 144 = .ok (.bipush 8, 2) := by decide +kernel
theorem dX12_thinks_146 : decode cX12_thinks 146 = .ok (.if_icmp .ge 17, 3) := by decide +kernel
theorem dX12_thinks_149 : decode cX12_thinks 149 = .ok (.aload_n 0, 1) := by decide +kernel
theorem dX12_thinks_150 : decode cX12_thinks 150 = .ok (.iload 4, 2) := by decide +kernel
theorem dX12_thinks_152 : decode cX12_thinks 152 = .ok (.iload 6, 2) := by decide +kernel
theorem dX12_thinks_154 : decode cX12_thinks 154 = .ok (.iconst 4, 1) := by decide +kernel
theorem dX12_thinks_155 : decode cX12_thinks 155 = .ok (.isub, 1) := by decide +kernel
theorem dX12_thinks_156 : decode cX12_thinks 156 = .ok (.invokevirtual 326, 3) := by decide +kernel
theorem dX12_thinks_159 : decode cX12_thinks 159 = .ok (.ineg, 1) := by decide +kernel
theorem dX12_thinks_160 : decode cX12_thinks 160 = .ok (.goto 4, 3) := by decide +kernel
theorem dX12_thinks_163 : decode cX12_thinks 163 = .ok (.iconst 0, 1) := by decide +kernel
theorem dX12_thinks_164 : decode cX12_thinks 164 = .ok (.iadd, 1) := by decide +kernel
theorem dX12_thinks_165 : decode cX12_thinks 165 = .ok (.istore 8, 2) := by decide +kernel
theorem dX12_thinks_167 : decode cX12_thinks 167 = .ok (.aload_n 0, 1) := by decide +kernel
theorem dX12_thinks_168 : decode cX12_thinks 168 = .ok (.getfield 59, 3) := by decide +kernel
theorem dX12_thinks_171 : decode cX12_thinks 171 = .ok (.iload 7, 2) := by decide +kernel
theorem dX12_thinks_173 : decode cX12_thinks 173 = .ok (.iload 8, 2) := by decide +kernel
theorem dX12_thinks_175 : decode cX12_thinks 175 = .ok (.ifCond .ge 7, 3) := by decide +kernel
theorem dX12_thinks_178 : decode cX12_thinks 178 = .ok (.iconst 0, 1) := by decide +kernel
theorem dX12_thinks_179 : decode cX12_thinks 179 = .ok (.goto 17, 3) := by decide +kernel
theorem dX12_thinks_182 : decode cX12_thinks 182 = .ok (.iload 8, 2) := by decide +kernel
theorem dX12_thinks_184 : decode cX12_thinks 184 = .ok (.bipush 15, 2) := by decide +kernel
theorem dX12_thinks_186 : decode cX12_thinks 186 = .ok (.if_icmp .le 8, 3) := by decide +kernel
theorem dX12_thinks_189 : decode cX12_thinks 189 = .ok (.bipush 15, 2) := by decide +kernel
theorem dX12_thinks_191 : decode cX12_thinks 191 = .ok (.goto 5, 3) := by decide +kernel
theorem dX12_thinks_194 : decode cX12_thinks 194 = .ok (.iload 8, 2) := by decide +kernel
theorem dX12_thinks_196 : decode cX12_thinks 196 = .ok (.iastore, 1) := by decide +kernel
theorem dX12_thinks_197 : decode cX12_thinks 197 = .ok (.aload_n 0, 1) := by decide +kernel
theorem dX12_thinks_198 : decode cX12_thinks 198 = .ok (.iload 7, 2) := by decide +kernel
theorem dX12_thinks_200 : decode cX12_thinks 200 = .ok (.putfield 338, 3) := by decide +kernel
theorem dX12_thinks_203 : decode cX12_thinks 203 = .ok (.aload_n 0, 1) := by decide +kernel
theorem dX12_thinks_204 : decode cX12_thinks 204 = .ok (.dup, 1) := by decide +kernel
theorem dX12_thinks_205 : decode cX12_thinks 205 = .ok (.getfield 341, 3) := by decide +kernel
theorem dX12_thinks_208 : decode cX12_thinks 208 = .ok (.iload 5, 2) := by decide +kernel
theorem dX12_thinks_210 : decode cX12_thinks 210 = .ok (.ifCond .le 7, 3) := by decide +kernel
theorem dX12_thinks_213 : decode cX12_thinks 213 = .ok (.iconst 1, 1) := by decide +kernel
theorem dX12_thinks_214 : decode cX12_thinks 214 = .ok (.goto 4, 3) := by decide +kernel
theorem dX12_thinks_217 : decode cX12_thinks 217 = .ok (.iconst 0, 1) := by decide +kernel
theorem dX12_thinks_218 : decode cX12_thinks 218 = .ok (.isub, 1) := by decide +kernel
theorem dX12_thinks_219 : decode cX12_thinks 219 = .ok (.putfield 341, 3) := by decide +kernel
theorem dX12_thinks_222 : decode cX12_thinks 222 = .ok (.iinc 5 1, 3) := by decide +kernel
theorem dX12_thinks_225 : decode cX12_thinks 225 = .ok (.goto (-152), 3) := by decide +kernel
theorem dX12_thinks_228 : decode cX12_thinks 228 = .ok (.aload_n 0, 1) := by decide +kernel
theorem dX12_thinks_229 : decode cX12_thinks 229 = .ok (.getfield 59, 3) := by decide +kernel
theorem dX12_thinks_232 : decode cX12_thinks 232 = .ok (.iload_n 3, 1) := by decide +kernel
theorem dX12_thinks_233 : decode cX12_thinks 233 = .ok (.iaload, 1) := by decide +kernel
theorem dX12_thinks_234 : decode cX12_thinks 234 = .ok (.ireturn, 1) := by decide +kernel
theorem dX12_firstOf_0 : decode cX12_firstOf 0 = .ok (.iconst (-1), 1) := by decide +kernel
theorem dX12_firstOf_1 : decode cX12_firstOf 1 = .ok (.istore_n 2, 1) := by decide +kernel
theorem dX12_firstOf_2 : decode cX12_firstOf 2 = .ok (.iconst 0, 1) := by decide +kernel
theorem dX12_firstOf_3 : decode cX12_firstOf 3 = .ok (.istore_n 3, 1) := by decide +kernel
theorem dX12_firstOf_4 : decode cX12_firstOf 4 = .ok (.iconst 0, 1) := by decide +kernel
theorem dX12_firstOf_5 : decode cX12_firstOf 5 = .ok (.istore 4, 2) := by decide +kernel
theorem dX12_firstOf_7 : decode cX12_firstOf 7 = .ok (.iload 4, 2) := by decide +kernel
theorem dX12_firstOf_9 : decode cX12_firstOf 9 = .ok (.aload_n 0, 1) := by decide +kernel
theorem dX12_firstOf_10 : decode cX12_firstOf 10 = .ok (.getfield 389, 3) := by decide +kernel
theorem dX12_firstOf_13 : decode cX12_firstOf 13 = .ok (.if_icmp .ge 154, 3) := by decide +kernel
theorem dX12_firstOf_16 : decode cX12_firstOf 16 = .ok (.aload_n 0, 1) := by decide +kernel
theorem dX12_firstOf_17 : decode cX12_firstOf 17 = .ok (.iload 4, 2) := by decide +kernel
theorem dX12_firstOf_19 : decode cX12_firstOf 19 = .ok (.invokevirtual 432, 3) := by decide +kernel
theorem dX12_firstOf_22 : decode cX12_firstOf 22 = .ok (.ifCond .eq 139, 3) := by decide +kernel
theorem dX12_firstOf_25 : decode cX12_firstOf 25 = .ok (.aload_n 0, 1) := by decide +kernel
theorem dX12_firstOf_26 : decode cX12_firstOf 26 = .ok (.getfield 82, 3) := by decide +kernel
theorem dX12_firstOf_29 : decode cX12_firstOf 29 = .ok (.bipush 64, 2) := by decide +kernel
theorem dX12_firstOf_31 : decode cX12_firstOf 31 = .ok (.iload 4, 2) := by decide +kernel
theorem dX12_firstOf_33 : decode cX12_firstOf 33 = .ok (.imul, 1) := by decide +kernel
theorem dX12_firstOf_34 : decode cX12_firstOf 34 = .ok (.iaload, 1) := by decide +kernel
theorem dX12_firstOf_35 : decode cX12_firstOf 35 = .ok (.iload_n 1, 1) := by decide +kernel
theorem dX12_firstOf_36 : decode cX12_firstOf 36 = .ok (.if_icmp .eq 22, 3) := by decide +kernel
theorem dX12_firstOf_39 : decode cX12_firstOf 39 = .ok (.aload_n 0, 1) := by decide +kernel
theorem dX12_firstOf_40 : decode cX12_firstOf 40 = .ok (.getfield 82, 3) := by decide +kernel
theorem dX12_firstOf_43 : decode cX12_firstOf 43 = .ok (.bipush 64, 2) := by decide +kernel
theorem dX12_firstOf_45 : decode cX12_firstOf 45 = .ok (.iload 4, 2) := by decide +kernel
theorem dX12_firstOf_47 : decode cX12_firstOf 47 = .ok (.imul, 1) := by decide +kernel
theorem dX12_firstOf_48 : decode cX12_firstOf 48 = .ok (.iconst 1, 1) := by decide +kernel
theorem dX12_firstOf_49 : decode cX12_firstOf 49 = .ok (.iadd, 1) := by decide +kernel
theorem dX12_firstOf_50 : decode cX12_firstOf 50 = .ok (.iaload, 1) := by decide +kernel
theorem dX12_firstOf_51 : decode cX12_firstOf 51 = .ok (.iload_n 1, 1) := by decide +kernel
theorem dX12_firstOf_52 : decode cX12_firstOf 52 = .ok (.if_icmp .eq 6, 3) := by decide +kernel
theorem dX12_firstOf_55 : decode cX12_firstOf 55 = .ok (.goto 106, 3) := by decide +kernel
theorem dX12_firstOf_58 : decode cX12_firstOf 58 = .ok (.aload_n 0, 1) := by decide +kernel
theorem dX12_firstOf_59 : decode cX12_firstOf 59 = .ok (.getfield 82, 3) := by decide +kernel
theorem dX12_firstOf_62 : decode cX12_firstOf 62 = .ok (.bipush 64, 2) := by decide +kernel
theorem dX12_firstOf_64 : decode cX12_firstOf 64 = .ok (.iload 4, 2) := by decide +kernel
theorem dX12_firstOf_66 : decode cX12_firstOf 66 = .ok (.imul, 1) := by decide +kernel
theorem dX12_firstOf_67 : decode cX12_firstOf 67 = .ok (.iaload, 1) := by decide +kernel
theorem dX12_firstOf_68 : decode cX12_firstOf 68 = .ok (.iload_n 1, 1) := by decide +kernel
theorem dX12_firstOf_69 : decode cX12_firstOf 69 = .ok (.if_icmp .ne 7, 3) := by decide +kernel
theorem dX12_firstOf_72 : decode cX12_firstOf 72 = .ok (.iconst 0, 1) := by decide +kernel
theorem dX12_firstOf_73 : decode cX12_firstOf 73 = .ok (.goto 4, 3) := by decide +kernel
theorem dX12_firstOf_76 : decode cX12_firstOf 76 = .ok (.iconst 1, 1) := by decide +kernel
theorem dX12_firstOf_77 : decode cX12_firstOf 77 = .ok (.istore 5, 2) := by decide +kernel
theorem dX12_firstOf_79 : decode cX12_firstOf 79 = .ok (.bipush 10, 2) := by decide +kernel
theorem dX12_firstOf_81 : decode cX12_firstOf 81 = .ok (.aload_n 0, 1) := by decide +kernel
theorem dX12_firstOf_82 : decode cX12_firstOf 82 = .ok (.getfield 82, 3) := by decide +kernel
theorem dX12_firstOf_85 : decode cX12_firstOf 85 = .ok (.bipush 64, 2) := by decide +kernel
theorem dX12_firstOf_87 : decode cX12_firstOf 87 = .ok (.iload 4, 2) := by decide +kernel
theorem dX12_firstOf_89 : decode cX12_firstOf 89 = .ok (.imul, 1) := by decide +kernel
theorem dX12_firstOf_90 : decode cX12_firstOf 90 = .ok (.bipush 17, 2) := by decide +kernel
theorem dX12_firstOf_92 : decode cX12_firstOf 92 = .ok (.iadd, 1) := by decide +kernel
theorem dX12_firstOf_93 : decode cX12_firstOf 93 = .ok (.iconst 5, 1) := by decide +kernel
theorem dX12_firstOf_94 : decode cX12_firstOf 94 = .ok (.aload_n 0, 1) := by decide +kernel
theorem dX12_firstOf_95 : decode cX12_firstOf 95 = .ok (.getfield 82, 3) := by decide +kernel
theorem dX12_firstOf_98 : decode cX12_firstOf 98 = .ok (.bipush 64, 2) := by decide +kernel
theorem dX12_firstOf_100 : decode cX12_firstOf 100 = .ok (.iload 4, 2) := by decide +kernel
theorem dX12_firstOf_102 : decode cX12_firstOf 102 = .ok (.imul, 1) := by decide +kernel
theorem dX12_firstOf_103 : decode cX12_firstOf 103 = .ok (.iconst 5, 1) := by decide +kernel
theorem dX12_firstOf_104 : decode cX12_firstOf 104 = .ok (.iadd, 1) := by decide +kernel
theorem dX12_firstOf_105 : decode cX12_firstOf 105 = .ok (.iaload, 1) := by decide +kernel
theorem dX12_firstOf_106 : decode cX12_firstOf 106 = .ok (.iconst 1, 1) := by decide +kernel
theorem dX12_firstOf_107 : decode cX12_firstOf 107 = .ok (.isub, 1) := by decide +kernel
theorem dX12_firstOf_108 : decode cX12_firstOf 108 = .ok (.imul, 1) := by decide +kernel
theorem dX12_firstOf_109 : decode cX12_firstOf 109 = .ok (.iadd, 1) := by decide +kernel
theorem dX12_firstOf_110 : decode cX12_firstOf 110 = .ok (.iload 5, 2) := by decide +kernel
theorem dX12_firstOf_112 : decode cX12_firstOf 112 = .ok (.iadd, 1) := by decide +kernel
theorem dX12_firstOf_113 : decode cX12_firstOf 113 = .ok (.iaload, 1) := by decide +kernel
theorem dX12_firstOf_114 : decode cX12_firstOf 114 = .ok (.imul, 1) := by decide +kernel
theorem dX12_firstOf_115 : decode cX12_firstOf 115 = .ok (.aload_n 0, 1) := by decide +kernel
theorem dX12_firstOf_116 : decode cX12_firstOf 116 = .ok (.getfield 7, 3) := by decide +kernel
theorem dX12_firstOf_119 : decode cX12_firstOf 119 = .ok (.iconst 4, 1) := by decide +kernel
theorem dX12_firstOf_120 : decode cX12_firstOf 120 = .ok (.aload_n 0, 1) := by decide +kernel
theorem dX12_firstOf_121 : decode cX12_firstOf 121 = .ok (.getfield 82, 3) := by decide +kernel
theorem dX12_firstOf_124 : decode cX12_firstOf 124 = .ok (.bipush 64, 2) := by decide +kernel
theorem dX12_firstOf_126 : decode cX12_firstOf 126 = .ok (.iload 4, 2) := by decide +kernel
theorem dX12_firstOf_128 : decode cX12_firstOf 128 = .ok (.imul, 1) := by decide +kernel
theorem dX12_firstOf_129 : decode cX12_firstOf 129 = .ok (.iconst 1, 1) := by decide +kernel
theorem dX12_firstOf_130 : decode cX12_firstOf 130 = .ok (.iadd, 1) := by decide +kernel
theorem dX12_firstOf_131 : decode cX12_firstOf 131 = .ok (.iload 5, 2) := by decide +kernel
theorem dX12_firstOf_133 : decode cX12_firstOf 133 = .ok (.isub, 1) := by decide +kernel
theorem dX12_firstOf_134 : decode cX12_firstOf 134 = .ok (.iaload, 1) := by decide +kernel
theorem dX12_firstOf_135 : decode cX12_firstOf 135 = .ok (.imul, 1) := by decide +kernel
theorem dX12_firstOf_136 : decode cX12_firstOf 136 = .ok (.iconst 1, 1) := by decide +kernel
theorem dX12_firstOf_137 : decode cX12_firstOf 137 = .ok (.iadd, 1) := by decide +kernel
theorem dX12_firstOf_138 : decode cX12_firstOf 138 = .ok (.iaload, 1) := by decide +kernel
theorem dX12_firstOf_139 : decode cX12_firstOf 139 = .ok (.iadd, 1) := by decide +kernel
theorem dX12_firstOf_140 : decode cX12_firstOf 140 = .ok (.istore 6, 2) := by decide +kernel
theorem dX12_firstOf_142 : decode cX12_firstOf 142 = .ok (.iload_n 2, 1) := by decide +kernel
theorem dX12_firstOf_143 : decode cX12_firstOf 143 = .ok (.ifCond .lt 12, 3) := by decide +kernel
theorem dX12_firstOf_146 : decode cX12_firstOf 146 = .ok (.iload 6, 2) := by decide +kernel
theorem dX12_firstOf_148 : decode cX12_firstOf 148 = .ok (.iload_n 3, 1) := by decide +kernel
theorem dX12_firstOf_149 : decode cX12_firstOf 149 = .ok (.if_icmp .gt 6, 3) := by decide +kernel
theorem dX12_firstOf_152 : decode cX12_firstOf 152 = .ok (.goto 9, 3) := by decide +kernel
theorem dX12_firstOf_155 : decode cX12_firstOf 155 = .ok (.iload 4, 2) := by decide +kernel
theorem dX12_firstOf_157 : decode cX12_firstOf 157 = .ok (.istore_n 2, 1) := by decide +kernel
theorem dX12_firstOf_158 : decode cX12_firstOf 158 = .ok (.iload 6, 2) := by decide +kernel
theorem dX12_firstOf_160 : decode cX12_firstOf 160 = .ok (.istore_n 3, 1) := by decide +kernel
theorem dX12_firstOf_161 : decode cX12_firstOf 161 = .ok (.iinc 4 1, 3) := by decide +kernel
theorem dX12_firstOf_164 : decode cX12_firstOf 164 = .ok (.goto (-157), 3) := by decide +kernel
theorem dX12_firstOf_167 : decode cX12_firstOf 167 = .ok (.iload_n 2, 1) := by decide +kernel
theorem dX12_firstOf_168 : decode cX12_firstOf 168 = .ok (.ireturn, 1) := by decide +kernel
theorem dX12_waitsFor_0 : decode cX12_waitsFor 0 = .ok (.aload_n 0, 1) := by decide +kernel
theorem dX12_waitsFor_1 : decode cX12_waitsFor 1 = .ok (.iload_n 1, 1) := by decide +kernel
theorem dX12_waitsFor_2 : decode cX12_waitsFor 2 = .ok (.invokevirtual 432, 3) := by decide +kernel
theorem dX12_waitsFor_5 : decode cX12_waitsFor 5 = .ok (.ifCond .eq 39, 3) := by decide +kernel
theorem dX12_waitsFor_8 : decode cX12_waitsFor 8 = .ok (.iconst 1, 1) := by decide +kernel
theorem dX12_waitsFor_9 : decode cX12_waitsFor 9 = .ok (.aload_n 0, 1) := by decide +kernel
theorem dX12_waitsFor_10 : decode cX12_waitsFor 10 = .ok (.aload_n 0, 1) := by decide +kernel
theorem dX12_waitsFor_11 : decode cX12_waitsFor 11 = .ok (.getfield 82, 3) := by decide +kernel
theorem dX12_waitsFor_14 : decode cX12_waitsFor 14 = .ok (.bipush 64, 2) := by decide +kernel
theorem dX12_waitsFor_16 : decode cX12_waitsFor 16 = .ok (.iload_n 1, 1) := by decide +kernel
theorem dX12_waitsFor_17 : decode cX12_waitsFor 17 = .ok (.imul, 1) := by decide +kernel
theorem dX12_waitsFor_18 : decode cX12_waitsFor 18 = .ok (.iaload, 1) := by decide +kernel
theorem dX12_waitsFor_19 : decode cX12_waitsFor 19 = .ok (.invokevirtual 435, 3) := by decide +kernel
theorem dX12_waitsFor_22 : decode cX12_waitsFor 22 = .ok (.ishl, 1) := by decide +kernel
theorem dX12_waitsFor_23 : decode cX12_waitsFor 23 = .ok (.iconst 1, 1) := by decide +kernel
theorem dX12_waitsFor_24 : decode cX12_waitsFor 24 = .ok (.aload_n 0, 1) := by decide +kernel
theorem dX12_waitsFor_25 : decode cX12_waitsFor 25 = .ok (.aload_n 0, 1) := by decide +kernel
theorem dX12_waitsFor_26 : decode cX12_waitsFor 26 = .ok (.getfield 82, 3) := by decide +kernel
theorem dX12_waitsFor_29 : decode cX12_waitsFor 29 = .ok (.bipush 64, 2) := by decide +kernel
theorem dX12_waitsFor_31 : decode cX12_waitsFor 31 = .ok (.iload_n 1, 1) := by decide +kernel
theorem dX12_waitsFor_32 : decode cX12_waitsFor 32 = .ok (.imul, 1) := by decide +kernel
theorem dX12_waitsFor_33 : decode cX12_waitsFor 33 = .ok (.iconst 1, 1) := by decide +kernel
theorem dX12_waitsFor_34 : decode cX12_waitsFor 34 = .ok (.iadd, 1) := by decide +kernel
theorem dX12_waitsFor_35 : decode cX12_waitsFor 35 = .ok (.iaload, 1) := by decide +kernel
theorem dX12_waitsFor_36 : decode cX12_waitsFor 36 = .ok (.invokevirtual 435, 3) := by decide +kernel
theorem dX12_waitsFor_39 : decode cX12_waitsFor 39 = .ok (.ishl, 1) := by decide +kernel
theorem dX12_waitsFor_40 : decode cX12_waitsFor 40 = .ok (.ior, 1) := by decide +kernel
theorem dX12_waitsFor_41 : decode cX12_waitsFor 41 = .ok (.goto 4, 3) := by decide +kernel
theorem dX12_waitsFor_44 : decode cX12_waitsFor 44 = .ok (.iconst 0, 1) := by decide +kernel
theorem dX12_waitsFor_45 : decode cX12_waitsFor 45 = .ok (.istore_n 2, 1) := by decide +kernel
theorem dX12_waitsFor_46 : decode cX12_waitsFor 46 = .ok (.iload_n 2, 1) := by decide +kernel
theorem dX12_waitsFor_47 : decode cX12_waitsFor 47 = .ok (.iconst 1, 1) := by decide +kernel
theorem dX12_waitsFor_48 : decode cX12_waitsFor 48 = .ok (.iload_n 1, 1) := by decide +kernel
theorem dX12_waitsFor_49 : decode cX12_waitsFor 49 = .ok (.ishl, 1) := by decide +kernel
theorem dX12_waitsFor_50 : decode cX12_waitsFor 50 = .ok (.iconst (-1), 1) := by decide +kernel
theorem dX12_waitsFor_51 : decode cX12_waitsFor 51 = .ok (.ixor, 1) := by decide +kernel
theorem dX12_waitsFor_52 : decode cX12_waitsFor 52 = .ok (.iand, 1) := by decide +kernel
theorem dX12_waitsFor_53 : decode cX12_waitsFor 53 = .ok (.ireturn, 1) := by decide +kernel
theorem dX12_waits_0 : decode cX12_waits 0 = .ok (.aload_n 0, 1) := by decide +kernel
theorem dX12_waits_1 : decode cX12_waits 1 = .ok (.iload_n 1, 1) := by decide +kernel
theorem dX12_waits_2 : decode cX12_waits 2 = .ok (.invokevirtual 408, 3) := by decide +kernel
theorem dX12_waits_5 : decode cX12_waits 5 = .ok (.ifCond .eq 11, 3) := by decide +kernel
theorem dX12_waits_8 : decode cX12_waits 8 = .ok (.aload_n 0, 1) := by decide +kernel
theorem dX12_waits_9 : decode cX12_waits 9 = .ok (.iload_n 1, 1) := by decide +kernel
theorem dX12_waits_10 : decode cX12_waits 10 = .ok (.invokevirtual 438, 3) := by decide +kernel
theorem dX12_waits_13 : decode cX12_waits 13 = .ok (.goto 4, 3) := by decide +kernel
theorem dX12_waits_16 : decode cX12_waits 16 = .ok (.iconst (-1), 1) := by decide +kernel
theorem dX12_waits_17 : decode cX12_waits 17 = .ok (.ireturn, 1) := by decide +kernel
theorem dX12_ring_0 : decode cX12_ring 0 = .ok (.aload_n 0, 1) := by decide +kernel
theorem dX12_ring_1 : decode cX12_ring 1 = .ok (.iload_n 1, 1) := by decide +kernel
theorem dX12_ring_2 : decode cX12_ring 2 = .ok (.invokevirtual 408, 3) := by decide +kernel
theorem dX12_ring_5 : decode cX12_ring 5 = .ok (.ifCond .ne 5, 3) := by decide +kernel
theorem dX12_ring_8 : decode cX12_ring 8 = .ok (.iconst (-1), 1) := by decide +kernel
theorem dX12_ring_9 : decode cX12_ring 9 = .ok (.ireturn, 1) := by decide +kernel
theorem dX12_ring_10 : decode cX12_ring 10 = .ok (.aload_n 0, 1) := by decide +kernel
theorem dX12_ring_11 : decode cX12_ring 11 = .ok (.iload_n 1, 1) := by decide +kernel
theorem dX12_ring_12 : decode cX12_ring 12 = .ok (.invokevirtual 438, 3) := by decide +kernel
theorem dX12_ring_15 : decode cX12_ring 15 = .ok (.istore_n 2, 1) := by decide +kernel
theorem dX12_ring_16 : decode cX12_ring 16 = .ok (.iconst 0, 1) := by decide +kernel
theorem dX12_ring_17 : decode cX12_ring 17 = .ok (.istore_n 3, 1) := by decide +kernel
theorem dX12_ring_18 : decode cX12_ring 18 = .ok (.iload_n 3, 1) := by decide +kernel
theorem dX12_ring_19 : decode cX12_ring 19 = .ok (.bipush 24, 2) := by decide +kernel
theorem dX12_ring_21 : decode cX12_ring 21 = .ok (.if_icmp .ge 50, 3) := by decide +kernel
theorem dX12_ring_24 : decode cX12_ring 24 = .ok (.iconst 0, 1) := by decide +kernel
theorem dX12_ring_25 : decode cX12_ring 25 = .ok (.istore 4, 2) := by decide +kernel
theorem dX12_ring_27 : decode cX12_ring 27 = .ok (.iload 4, 2) := by decide +kernel
theorem dX12_ring_29 : decode cX12_ring 29 = .ok (.aload_n 0, 1) := by decide +kernel
theorem dX12_ring_30 : decode cX12_ring 30 = .ok (.getfield 389, 3) := by decide +kernel
theorem dX12_ring_33 : decode cX12_ring 33 = .ok (.if_icmp .ge 32, 3) := by decide +kernel
theorem dX12_ring_36 : decode cX12_ring 36 = .ok (.iload_n 2, 1) := by decide +kernel
theorem dX12_ring_37 : decode cX12_ring 37 = .ok (.iload_n 2, 1) := by decide +kernel
theorem dX12_ring_38 : decode cX12_ring 38 = .ok (.iload 4, 2) := by decide +kernel
theorem dX12_ring_40 : decode cX12_ring 40 = .ok (.ishr, 1) := by decide +kernel
theorem dX12_ring_41 : decode cX12_ring 41 = .ok (.iconst 1, 1) := by decide +kernel
theorem dX12_ring_42 : decode cX12_ring 42 = .ok (.iand, 1) := by decide +kernel
theorem dX12_ring_43 : decode cX12_ring 43 = .ok (.iconst 1, 1) := by decide +kernel
theorem dX12_ring_44 : decode cX12_ring 44 = .ok (.if_icmp .ne 12, 3) := by decide +kernel
theorem dX12_ring_47 : decode cX12_ring 47 = .ok (.aload_n 0, 1) := by decide +kernel
theorem dX12_ring_48 : decode cX12_ring 48 = .ok (.iload 4, 2) := by decide +kernel
theorem dX12_ring_50 : decode cX12_ring 50 = .ok (.invokevirtual 438, 3) := by decide +kernel
theorem dX12_ring_53 : decode cX12_ring 53 = .ok (.goto 4, 3) := by decide +kernel
theorem dX12_ring_56 : decode cX12_ring 56 = .ok (.iconst 0, 1) := by decide +kernel
theorem dX12_ring_57 : decode cX12_ring 57 = .ok (.ior, 1) := by decide +kernel
theorem dX12_ring_58 : decode cX12_ring 58 = .ok (.istore_n 2, 1) := by decide +kernel
theorem dX12_ring_59 : decode cX12_ring 59 = .ok (.iinc 4 1, 3) := by decide +kernel
theorem dX12_ring_62 : decode cX12_ring 62 = .ok (.goto (-35), 3) := by decide +kernel
theorem dX12_ring_65 : decode cX12_ring 65 = .ok (.iinc 3 1, 3) := by decide +kernel
theorem dX12_ring_68 : decode cX12_ring 68 = .ok (.goto (-50), 3) := by decide +kernel
theorem dX12_ring_71 : decode cX12_ring 71 = .ok (.iload_n 2, 1) := by decide +kernel
theorem dX12_ring_72 : decode cX12_ring 72 = .ok (.iload_n 1, 1) := by decide +kernel
theorem dX12_ring_73 : decode cX12_ring 73 = .ok (.ishr, 1) := by decide +kernel
theorem dX12_ring_74 : decode cX12_ring 74 = .ok (.iconst 1, 1) := by decide +kernel
theorem dX12_ring_75 : decode cX12_ring 75 = .ok (.iand, 1) := by decide +kernel
theorem dX12_ring_76 : decode cX12_ring 76 = .ok (.ireturn, 1) := by decide +kernel
theorem dX12_first_0 : decode cX12_first 0 = .ok (.aload_n 0, 1) := by decide +kernel
theorem dX12_first_1 : decode cX12_first 1 = .ok (.iload_n 1, 1) := by decide +kernel
theorem dX12_first_2 : decode cX12_first 2 = .ok (.invokevirtual 103, 3) := by decide +kernel
theorem dX12_first_5 : decode cX12_first 5 = .ok (.ifCond .ne 5, 3) := by decide +kernel
theorem dX12_first_8 : decode cX12_first 8 = .ok (.iconst (-1), 1) := by decide +kernel
theorem dX12_first_9 : decode cX12_first 9 = .ok (.ireturn, 1) := by decide +kernel
theorem dX12_first_10 : decode cX12_first 10 = .ok (.aload_n 0, 1) := by decide +kernel
theorem dX12_first_11 : decode cX12_first 11 = .ok (.iload_n 1, 1) := by decide +kernel
theorem dX12_first_12 : decode cX12_first 12 = .ok (.invokevirtual 435, 3) := by decide +kernel
theorem dX12_first_15 : decode cX12_first 15 = .ok (.istore_n 2, 1) := by decide +kernel
theorem dX12_first_16 : decode cX12_first 16 = .ok (.iload_n 2, 1) := by decide +kernel
theorem dX12_first_17 : decode cX12_first 17 = .ok (.ifCond .ge 8, 3) := by decide +kernel
theorem dX12_first_20 : decode cX12_first 20 = .ok (.bipush (-2), 2) := by decide +kernel
theorem dX12_first_22 : decode cX12_first 22 = .ok (.goto 4, 3) := by decide +kernel
theorem dX12_first_25 : decode cX12_first 25 = .ok (.iload_n 2, 1) := by decide +kernel
theorem dX12_first_26 : decode cX12_first 26 = .ok (.ireturn, 1) := by decide +kernel
theorem dX12_endsInField_0 : decode cX12_endsInField 0 = .ok (.aload_n 0, 1) := by decide +kernel
theorem dX12_endsInField_1 : decode cX12_endsInField 1 = .ok (.iload_n 2, 1) := by decide +kernel
theorem dX12_endsInField_2 : decode cX12_endsInField 2 = .ok (.iload_n 3, 1) := by decide +kernel
theorem dX12_endsInField_3 : decode cX12_endsInField 3 = .ok (.iload 4, 2) := by decide +kernel
theorem dX12_endsInField_5 : decode cX12_endsInField 5 = .ok (.iload_n 1, 1) := by decide +kernel
theorem dX12_endsInField_6 : decode cX12_endsInField 6 = .ok (.iload_n 1, 1) := by decide +kernel
theorem dX12_endsInField_7 : decode cX12_endsInField 7 = .ok (.invokevirtual 392, 3) := by decide +kernel
theorem dX12_endsInField_10 : decode cX12_endsInField 10 = .ok (.aload_n 0, 1) := by decide +kernel
theorem dX12_endsInField_11 : decode cX12_endsInField 11 = .ok (.iload 5, 2) := by decide +kernel
theorem dX12_endsInField_13 : decode cX12_endsInField 13 = .ok (.iconst 1, 1) := by decide +kernel
theorem dX12_endsInField_14 : decode cX12_endsInField 14 = .ok (.invokevirtual 402, 3) := by decide +kernel
theorem dX12_endsInField_17 : decode cX12_endsInField 17 = .ok (.aload_n 0, 1) := by decide +kernel
theorem dX12_endsInField_18 : decode cX12_endsInField 18 = .ok (.invokevirtual 426, 3) := by decide +kernel
theorem dX12_endsInField_21 : decode cX12_endsInField 21 = .ok (.iconst 4, 1) := by decide +kernel
theorem dX12_endsInField_22 : decode cX12_endsInField 22 = .ok (.idiv, 1) := by decide +kernel
theorem dX12_endsInField_23 : decode cX12_endsInField 23 = .ok (.iconst 2, 1) := by decide +kernel
theorem dX12_endsInField_24 : decode cX12_endsInField 24 = .ok (.if_icmp .ne 7, 3) := by decide +kernel
theorem dX12_endsInField_27 : decode cX12_endsInField 27 = .ok (.iconst 1, 1) := by decide +kernel
theorem dX12_endsInField_28 : decode cX12_endsInField 28 = .ok (.goto 4, 3) := by decide +kernel
theorem dX12_endsInField_31 : decode cX12_endsInField 31 = .ok (.iconst 0, 1) := by decide +kernel
theorem dX12_endsInField_32 : decode cX12_endsInField 32 = .ok (.ireturn, 1) := by decide +kernel
theorem dX12_harsh_0 : decode cX12_harsh 0 = .ok (.aload_n 0, 1) := by decide +kernel
theorem dX12_harsh_1 : decode cX12_harsh 1 = .ok (.iload_n 1, 1) := by decide +kernel
theorem dX12_harsh_2 : decode cX12_harsh 2 = .ok (.invokevirtual 286, 3) := by decide +kernel
theorem dX12_harsh_5 : decode cX12_harsh 5 = .ok (.ifCond .eq 25, 3) := by decide +kernel
theorem dX12_harsh_8 : decode cX12_harsh 8 = .ok (.aload_n 0, 1) := by decide +kernel
theorem dX12_harsh_9 : decode cX12_harsh 9 = .ok (.iload_n 2, 1) := by decide +kernel
theorem dX12_harsh_10 : decode cX12_harsh 10 = .ok (.iload_n 3, 1) := by decide +kernel
theorem dX12_harsh_11 : decode cX12_harsh 11 = .ok (.invokevirtual 107, 3) := by decide +kernel
theorem dX12_harsh_14 : decode cX12_harsh 14 = .ok (.ifCond .eq 16, 3) := by decide +kernel
theorem dX12_harsh_17 : decode cX12_harsh 17 = .ok (.iload 4, 2) := by decide +kernel
theorem dX12_harsh_19 : decode cX12_harsh 19 = .ok (.i2l, 1) := by decide +kernel
theorem dX12_harsh_20 : decode cX12_harsh 20 = .ok (.lconst 0, 1) := by decide +kernel
theorem dX12_harsh_21 : decode cX12_harsh 21 = .ok (.ldc2_w 101, 3) := by decide +kernel
theorem dX12_harsh_24 : decode cX12_harsh 24 = .ok (.invokestatic 97, 3) := by decide +kernel
theorem dX12_harsh_27 : decode cX12_harsh 27 = .ok (.ifCond .ne 5, 3) := by decide +kernel
theorem dX12_harsh_30 : decode cX12_harsh 30 = .ok (.iconst (-1), 1) := by decide +kernel
theorem dX12_harsh_31 : decode cX12_harsh 31 = .ok (.ireturn, 1) := by decide +kernel
theorem dX12_harsh_32 : decode cX12_harsh 32 = .ok (.iconst 0, 1) := by decide +kernel
theorem dX12_harsh_33 : decode cX12_harsh 33 = .ok (.istore 5, 2) := by decide +kernel
theorem dX12_harsh_35 : decode cX12_harsh 35 = .ok (.iconst 0, 1) := by decide +kernel
theorem dX12_harsh_36 : decode cX12_harsh 36 = .ok (.istore 6, 2) := by decide +kernel
theorem dX12_harsh_38 : decode cX12_harsh 38 = .ok (.iload 6, 2) := by decide +kernel
theorem dX12_harsh_40 : decode cX12_harsh 40 = .ok (.iconst 4, 1) := by decide +kernel
theorem dX12_harsh_41 : decode cX12_harsh 41 = .ok (.if_icmp .ge 36, 3) := by decide +kernel
theorem dX12_harsh_44 : decode cX12_harsh 44 = .ok (.iload 5, 2) := by decide +kernel
theorem dX12_harsh_46 : decode cX12_harsh 46 = .ok (.aload_n 0, 1) := by decide +kernel
theorem dX12_harsh_47 : decode cX12_harsh 47 = .ok (.iload_n 1, 1) := by decide +kernel
theorem dX12_harsh_48 : decode cX12_harsh 48 = .ok (.iload_n 2, 1) := by decide +kernel
theorem dX12_harsh_49 : decode cX12_harsh 49 = .ok (.iload_n 3, 1) := by decide +kernel
theorem dX12_harsh_50 : decode cX12_harsh 50 = .ok (.iload 4, 2) := by decide +kernel
theorem dX12_harsh_52 : decode cX12_harsh 52 = .ok (.iload 6, 2) := by decide +kernel
theorem dX12_harsh_54 : decode cX12_harsh 54 = .ok (.invokevirtual 441, 3) := by decide +kernel
theorem dX12_harsh_57 : decode cX12_harsh 57 = .ok (.ifCond .eq 10, 3) := by decide +kernel
theorem dX12_harsh_60 : decode cX12_harsh 60 = .ok (.iconst 1, 1) := by decide +kernel
theorem dX12_harsh_61 : decode cX12_harsh 61 = .ok (.iload 6, 2) := by decide +kernel
theorem dX12_harsh_63 : decode cX12_harsh 63 = .ok (.ishl, 1) := by decide +kernel
theorem dX12_harsh_64 : decode cX12_harsh 64 = .ok (.goto 4, 3) := by decide +kernel
theorem dX12_harsh_67 : decode cX12_harsh 67 = .ok (.iconst 0, 1) := by decide +kernel
theorem dX12_harsh_68 : decode cX12_harsh 68 = .ok (.ior, 1) := by decide +kernel
theorem dX12_harsh_69 : decode cX12_harsh 69 = .ok (.istore 5, 2) := by decide +kernel
theorem dX12_harsh_71 : decode cX12_harsh 71 = .ok (.iinc 6 1, 3) := by decide +kernel
theorem dX12_harsh_74 : decode cX12_harsh 74 = .ok (.goto (-36), 3) := by decide +kernel
theorem dX12_harsh_77 : decode cX12_harsh 77 = .ok (.iload 5, 2) := by decide +kernel
theorem dX12_harsh_79 : decode cX12_harsh 79 = .ok (.ireturn, 1) := by decide +kernel
theorem dX12_bits_0 : decode cX12_bits 0 = .ok (.iconst 0, 1) := by decide +kernel
theorem dX12_bits_1 : decode cX12_bits 1 = .ok (.istore_n 1, 1) := by decide +kernel
theorem dX12_bits_2 : decode cX12_bits 2 = .ok (.iload_n 0, 1) := by decide +kernel
theorem dX12_bits_3 : decode cX12_bits 3 = .ok (.istore_n 2, 1) := by decide +kernel
theorem dX12_bits_4 : decode cX12_bits 4 = .ok (.iload_n 2, 1) := by decide +kernel
theorem dX12_bits_5 : decode cX12_bits 5 = .ok (.ifCond .eq 15, 3) := by decide +kernel
theorem dX12_bits_8 : decode cX12_bits 8 = .ok (.iinc 1 1, 3) := by decide +kernel
theorem dX12_bits_11 : decode cX12_bits 11 = .ok (.iload_n 2, 1) := by decide +kernel
theorem dX12_bits_12 : decode cX12_bits 12 = .ok (.iload_n 2, 1) := by decide +kernel
theorem dX12_bits_13 : decode cX12_bits 13 = .ok (.iconst 1, 1) := by decide +kernel
theorem dX12_bits_14 : decode cX12_bits 14 = .ok (.isub, 1) := by decide +kernel
theorem dX12_bits_15 : decode cX12_bits 15 = .ok (.iand, 1) := by decide +kernel
theorem dX12_bits_16 : decode cX12_bits 16 = .ok (.istore_n 2, 1) := by decide +kernel
theorem dX12_bits_17 : decode cX12_bits 17 = .ok (.goto (-13), 3) := by decide +kernel
theorem dX12_bits_20 : decode cX12_bits 20 = .ok (.iload_n 1, 1) := by decide +kernel
theorem dX12_bits_21 : decode cX12_bits 21 = .ok (.ireturn, 1) := by decide +kernel
theorem dX12_mend_0 : decode cX12_mend 0 = .ok (.aload_n 0, 1) := by decide +kernel
theorem dX12_mend_1 : decode cX12_mend 1 = .ok (.iload_n 1, 1) := by decide +kernel
theorem dX12_mend_2 : decode cX12_mend 2 = .ok (.invokevirtual 286, 3) := by decide +kernel
theorem dX12_mend_5 : decode cX12_mend 5 = .ok (.ifCond .eq 38, 3) := by decide +kernel
theorem dX12_mend_8 : decode cX12_mend 8 = .ok (.aload_n 0, 1) := by decide +kernel
theorem dX12_mend_9 : decode cX12_mend 9 = .ok (.iload_n 2, 1) := by decide +kernel
theorem dX12_mend_10 : decode cX12_mend 10 = .ok (.iload_n 3, 1) := by decide +kernel
theorem dX12_mend_11 : decode cX12_mend 11 = .ok (.invokevirtual 107, 3) := by decide +kernel
theorem dX12_mend_14 : decode cX12_mend 14 = .ok (.ifCond .eq 29, 3) := by decide +kernel
theorem dX12_mend_17 : decode cX12_mend 17 = .ok (.iload 4, 2) := by decide +kernel
theorem dX12_mend_19 : decode cX12_mend 19 = .ok (.i2l, 1) := by decide +kernel
theorem dX12_mend_20 : decode cX12_mend 20 = .ok (.lconst 0, 1) := by decide +kernel
theorem dX12_mend_21 : decode cX12_mend 21 = .ok (.ldc2_w 101, 3) := by decide +kernel
theorem dX12_mend_24 : decode cX12_mend 24 = .ok (.invokestatic 97, 3) := by decide +kernel
theorem dX12_mend_27 : decode cX12_mend 27 = .ok (.ifCond .eq 16, 3) := by decide +kernel
theorem dX12_mend_30 : decode cX12_mend 30 = .ok (.iload 5, 2) := by decide +kernel
theorem dX12_mend_32 : decode cX12_mend 32 = .ok (.i2l, 1) := by decide +kernel
theorem dX12_mend_33 : decode cX12_mend 33 = .ok (.lconst 0, 1) := by decide +kernel
theorem dX12_mend_34 : decode cX12_mend 34 = .ok (.ldc2_w 289, 3) := by decide +kernel
theorem dX12_mend_37 : decode cX12_mend 37 = .ok (.invokestatic 97, 3) := by decide +kernel
theorem dX12_mend_40 : decode cX12_mend 40 = .ok (.ifCond .ne 5, 3) := by decide +kernel
theorem dX12_mend_43 : decode cX12_mend 43 = .ok (.iconst (-1), 1) := by decide +kernel
theorem dX12_mend_44 : decode cX12_mend 44 = .ok (.ireturn, 1) := by decide +kernel
theorem dX12_mend_45 : decode cX12_mend 45 = .ok (.iconst 0, 1) := by decide +kernel
theorem dX12_mend_46 : decode cX12_mend 46 = .ok (.istore 6, 2) := by decide +kernel
theorem dX12_mend_48 : decode cX12_mend 48 = .ok (.iconst 0, 1) := by decide +kernel
theorem dX12_mend_49 : decode cX12_mend 49 = .ok (.istore 7, 2) := by decide +kernel
theorem dX12_mend_51 : decode cX12_mend 51 = .ok (.iload 7, 2) := by decide +kernel
theorem dX12_mend_53 : decode cX12_mend 53 = .ok (.aload_n 0, 1) := by decide +kernel
theorem dX12_mend_54 : decode cX12_mend 54 = .ok (.getfield 29, 3) := by decide +kernel
theorem dX12_mend_57 : decode cX12_mend 57 = .ok (.iload_n 1, 1) := by decide +kernel
theorem dX12_mend_58 : decode cX12_mend 58 = .ok (.iaload, 1) := by decide +kernel
theorem dX12_mend_59 : decode cX12_mend 59 = .ok (.if_icmp .ge 44, 3) := by decide +kernel
theorem dX12_mend_62 : decode cX12_mend 62 = .ok (.iload 6, 2) := by decide +kernel
theorem dX12_mend_64 : decode cX12_mend 64 = .ok (.aload_n 0, 1) := by decide +kernel
theorem dX12_mend_65 : decode cX12_mend 65 = .ok (.getfield 26, 3) := by decide +kernel
theorem dX12_mend_68 : decode cX12_mend 68 = .ok (.bipush 70, 2) := by decide +kernel
theorem dX12_mend_70 : decode cX12_mend 70 = .ok (.iload_n 1, 1) := by decide +kernel
theorem dX12_mend_71 : decode cX12_mend 71 = .ok (.imul, 1) := by decide +kernel
theorem dX12_mend_72 : decode cX12_mend 72 = .ok (.iconst 5, 1) := by decide +kernel
theorem dX12_mend_73 : decode cX12_mend 73 = .ok (.iload 7, 2) := by decide +kernel
theorem dX12_mend_75 : decode cX12_mend 75 = .ok (.imul, 1) := by decide +kernel
theorem dX12_mend_76 : decode cX12_mend 76 = .ok (.iadd, 1) := by decide +kernel
theorem dX12_mend_77 : decode cX12_mend 77 = .ok (.iaload, 1) := by decide +kernel
theorem dX12_mend_78 : decode cX12_mend 78 = .ok (.iconst 1, 1) := by decide +kernel
theorem dX12_mend_79 : decode cX12_mend 79 = .ok (.if_icmp .ne 14, 3) := by decide +kernel
theorem dX12_mend_82 : decode cX12_mend 82 = .ok (.iload 6, 2) := by decide +kernel
theorem dX12_mend_84 : decode cX12_mend 84 = .ok (.bipush 6, 2) := by decide +kernel
theorem dX12_mend_86 : decode cX12_mend 86 = .ok (.if_icmp .ge 7, 3) := by decide +kernel
theorem dX12_mend_89 : decode cX12_mend 89 = .ok (.iconst 1, 1) := by decide +kernel
theorem dX12_mend_90 : decode cX12_mend 90 = .ok (.goto 4, 3) := by decide +kernel
theorem dX12_mend_93 : decode cX12_mend 93 = .ok (.iconst 0, 1) := by decide +kernel
theorem dX12_mend_94 : decode cX12_mend 94 = .ok (.iadd, 1) := by decide +kernel
theorem dX12_mend_95 : decode cX12_mend 95 = .ok (.istore 6, 2) := by decide +kernel
theorem dX12_mend_97 : decode cX12_mend 97 = .ok (.iinc 7 1, 3) := by decide +kernel
theorem dX12_mend_100 : decode cX12_mend 100 = .ok (.goto (-49), 3) := by decide +kernel
theorem dX12_mend_103 : decode cX12_mend 103 = .ok (.bipush (-2), 2) := by decide +kernel
theorem dX12_mend_105 : decode cX12_mend 105 = .ok (.istore 7, 2) := by decide +kernel
theorem dX12_mend_107 : decode cX12_mend 107 = .ok (.iconst 0, 1) := by decide +kernel
theorem dX12_mend_108 : decode cX12_mend 108 = .ok (.istore 8, 2) := by decide +kernel
theorem dX12_mend_110 : decode cX12_mend 110 = .ok (.iload 8, 2) := by decide +kernel
theorem dX12_mend_112 : decode cX12_mend 112 = .ok (.iconst 1, 1) := by decide +kernel
theorem dX12_mend_113 : decode cX12_mend 113 = .ok (.iload 6, 2) := by decide +kernel
theorem dX12_mend_115 : decode cX12_mend 115 = .ok (.ishl, 1) := by decide +kernel
theorem dX12_mend_116 : decode cX12_mend 116 = .ok (.if_icmp .ge 54, 3) := by decide +kernel
theorem dX12_mend_119 : decode cX12_mend 119 = .ok (.iload 7, 2) := by decide +kernel
theorem dX12_mend_121 : decode cX12_mend 121 = .ok (.ifCond .lt 19, 3) := by decide +kernel
theorem dX12_mend_124 : decode cX12_mend 124 = .ok (.iload 8, 2) := by decide +kernel
theorem dX12_mend_126 : decode cX12_mend 126 = .ok (.invokestatic 445, 3) := by decide +kernel
theorem dX12_mend_129 : decode cX12_mend 129 = .ok (.iload 7, 2) := by decide +kernel
theorem dX12_mend_131 : decode cX12_mend 131 = .ok (.invokestatic 445, 3) := by decide +kernel
theorem dX12_mend_134 : decode cX12_mend 134 = .ok (.if_icmp .lt 6, 3) := by decide +kernel
theorem dX12_mend_137 : decode cX12_mend 137 = .ok (.goto 27, 3) := by decide +kernel
theorem dX12_mend_140 : decode cX12_mend 140 = .ok (.aload_n 0, 1) := by decide +kernel
theorem dX12_mend_141 : decode cX12_mend 141 = .ok (.iload 8, 2) := by decide +kernel
theorem dX12_mend_143 : decode cX12_mend 143 = .ok (.putfield 304, 3) := by decide +kernel
theorem dX12_mend_146 : decode cX12_mend 146 = .ok (.aload_n 0, 1) := by decide +kernel
theorem dX12_mend_147 : decode cX12_mend 147 = .ok (.iload_n 1, 1) := by decide +kernel
theorem dX12_mend_148 : decode cX12_mend 148 = .ok (.iload_n 2, 1) := by decide +kernel
theorem dX12_mend_149 : decode cX12_mend 149 = .ok (.iload_n 3, 1) := by decide +kernel
theorem dX12_mend_150 : decode cX12_mend 150 = .ok (.iload 4, 2) := by decide +kernel
theorem dX12_mend_152 : decode cX12_mend 152 = .ok (.iload 5, 2) := by decide +kernel
theorem dX12_mend_154 : decode cX12_mend 154 = .ok (.invokevirtual 441, 3) := by decide +kernel
theorem dX12_mend_157 : decode cX12_mend 157 = .ok (.ifCond .ne 7, 3) := by decide +kernel
theorem dX12_mend_160 : decode cX12_mend 160 = .ok (.iload 8, 2) := by decide +kernel
theorem dX12_mend_162 : decode cX12_mend 162 = .ok (.istore 7, 2) := by decide +kernel
theorem dX12_mend_164 : decode cX12_mend 164 = .ok (.iinc 8 1, 3) := by decide +kernel
theorem dX12_mend_167 : decode cX12_mend 167 = .ok (.goto (-57), 3) := by decide +kernel
theorem dX12_mend_170 : decode cX12_mend 170 = .ok (.aload_n 0, 1) := by decide +kernel
theorem dX12_mend_171 : decode cX12_mend 171 = .ok (.iconst 0, 1) := by decide +kernel
theorem dX12_mend_172 : decode cX12_mend 172 = .ok (.putfield 304, 3) := by decide +kernel
theorem dX12_mend_175 : decode cX12_mend 175 = .ok (.iload 7, 2) := by decide +kernel
theorem dX12_mend_177 : decode cX12_mend 177 = .ok (.ireturn, 1) := by decide +kernel
theorem dX12_image_0 : decode cX12_image 0 = .ok (.iload_n 1, 1) := by decide +kernel
theorem dX12_image_1 : decode cX12_image 1 = .ok (.i2l, 1) := by decide +kernel
theorem dX12_image_2 : decode cX12_image 2 = .ok (.lconst 0, 1) := by decide +kernel
theorem dX12_image_3 : decode cX12_image 3 = .ok (.ldc2_w 289, 3) := by decide +kernel
theorem dX12_image_6 : decode cX12_image 6 = .ok (.invokestatic 97, 3) := by decide +kernel
theorem dX12_image_9 : decode cX12_image 9 = .ok (.ifCond .ne 5, 3) := by decide +kernel
theorem dX12_image_12 : decode cX12_image 12 = .ok (.iconst (-1), 1) := by decide +kernel
theorem dX12_image_13 : decode cX12_image 13 = .ok (.ireturn, 1) := by decide +kernel
theorem dX12_image_14 : decode cX12_image 14 = .ok (.aload_n 0, 1) := by decide +kernel
theorem dX12_image_15 : decode cX12_image 15 = .ok (.getfield 88, 3) := by decide +kernel
theorem dX12_image_18 : decode cX12_image 18 = .ok (.iload_n 1, 1) := by decide +kernel
theorem dX12_image_19 : decode cX12_image 19 = .ok (.iconst 1, 1) := by decide +kernel
theorem dX12_image_20 : decode cX12_image 20 = .ok (.bastore, 1) := by decide +kernel
theorem dX12_image_21 : decode cX12_image 21 = .ok (.sipush 1730, 3) := by decide +kernel
theorem dX12_image_24 : decode cX12_image 24 = .ok (.iload_n 1, 1) := by decide +kernel
theorem dX12_image_25 : decode cX12_image 25 = .ok (.imul, 1) := by decide +kernel
theorem dX12_image_26 : decode cX12_image 26 = .ok (.istore_n 2, 1) := by decide +kernel
theorem dX12_image_27 : decode cX12_image 27 = .ok (.aload_n 0, 1) := by decide +kernel
theorem dX12_image_28 : decode cX12_image 28 = .ok (.getfield 85, 3) := by decide +kernel
theorem dX12_image_31 : decode cX12_image 31 = .ok (.iload_n 2, 1) := by decide +kernel
theorem dX12_image_32 : decode cX12_image 32 = .ok (.aload_n 0, 1) := by decide +kernel
theorem dX12_image_33 : decode cX12_image 33 = .ok (.getfield 91, 3) := by decide +kernel
theorem dX12_image_36 : decode cX12_image 36 = .ok (.iastore, 1) := by decide +kernel
theorem dX12_image_37 : decode cX12_image 37 = .ok (.aload_n 0, 1) := by decide +kernel
theorem dX12_image_38 : decode cX12_image 38 = .ok (.getfield 85, 3) := by decide +kernel
theorem dX12_image_41 : decode cX12_image 41 = .ok (.iload_n 2, 1) := by decide +kernel
theorem dX12_image_42 : decode cX12_image 42 = .ok (.iconst 1, 1) := by decide +kernel
theorem dX12_image_43 : decode cX12_image 43 = .ok (.iadd, 1) := by decide +kernel
theorem dX12_image_44 : decode cX12_image 44 = .ok (.aload_n 0, 1) := by decide +kernel
theorem dX12_image_45 : decode cX12_image 45 = .ok (.getfield 389, 3) := by decide +kernel
theorem dX12_image_48 : decode cX12_image 48 = .ok (.iastore, 1) := by decide +kernel
theorem dX12_image_49 : decode cX12_image 49 = .ok (.iconst 0, 1) := by decide +kernel
theorem dX12_image_50 : decode cX12_image 50 = .ok (.istore_n 3, 1) := by decide +kernel
theorem dX12_image_51 : decode cX12_image 51 = .ok (.iload_n 3, 1) := by decide +kernel
theorem dX12_image_52 : decode cX12_image 52 = .ok (.bipush 48, 2) := by decide +kernel
theorem dX12_image_54 : decode cX12_image 54 = .ok (.if_icmp .ge 25, 3) := by decide +kernel
theorem dX12_image_57 : decode cX12_image 57 = .ok (.aload_n 0, 1) := by decide +kernel
theorem dX12_image_58 : decode cX12_image 58 = .ok (.getfield 85, 3) := by decide +kernel
theorem dX12_image_61 : decode cX12_image 61 = .ok (.iload_n 2, 1) := by decide +kernel
theorem dX12_image_62 : decode cX12_image 62 = .ok (.iconst 2, 1) := by decide +kernel
theorem dX12_image_63 : decode cX12_image 63 = .ok (.iadd, 1) := by decide +kernel
theorem dX12_image_64 : decode cX12_image 64 = .ok (.iload_n 3, 1) := by decide +kernel
theorem dX12_image_65 : decode cX12_image 65 = .ok (.iadd, 1) := by decide +kernel
theorem dX12_image_66 : decode cX12_image 66 = .ok (.aload_n 0, 1) := by decide +kernel
theorem dX12_image_67 : decode cX12_image 67 = .ok (.getfield 7, 3) := by decide +kernel
theorem dX12_image_70 : decode cX12_image 70 = .ok (.iload_n 3, 1) := by decide +kernel
theorem dX12_image_71 : decode cX12_image 71 = .ok (.iaload, 1) := by decide +kernel
theorem dX12_image_72 : decode cX12_image 72 = .ok (.iastore, 1) := by decide +kernel
theorem dX12_image_73 : decode cX12_image 73 = .ok (.iinc 3 1, 3) := by decide +kernel
theorem dX12_image_76 : decode cX12_image 76 = .ok (.goto (-25), 3) := by decide +kernel
theorem dX12_image_79 : decode cX12_image 79 = .ok (.iconst 0, 1) := by decide +kernel
theorem dX12_image_80 : decode cX12_image 80 = .ok (.istore_n 3, 1) := by decide +kernel
theorem dX12_image_81 : decode cX12_image 81 = .ok (.iload_n 3, 1) := by decide +kernel
theorem dX12_image_82 : decode cX12_image 82 = .ok (.sipush 144, 3) := by decide +kernel
theorem dX12_image_85 : decode cX12_image 85 = .ok (.if_icmp .ge 26, 3) := by decide +kernel
theorem dX12_image_88 : decode cX12_image 88 = .ok (.aload_n 0, 1) := by decide +kernel
theorem dX12_image_89 : decode cX12_image 89 = .ok (.getfield 85, 3) := by decide +kernel
theorem dX12_image_92 : decode cX12_image 92 = .ok (.iload_n 2, 1) := by decide +kernel
theorem dX12_image_93 : decode cX12_image 93 = .ok (.bipush 50, 2) := by decide +kernel
theorem dX12_image_95 : decode cX12_image 95 = .ok (.iadd, 1) := by decide +kernel
theorem dX12_image_96 : decode cX12_image 96 = .ok (.iload_n 3, 1) := by decide +kernel
theorem dX12_image_97 : decode cX12_image 97 = .ok (.iadd, 1) := by decide +kernel
theorem dX12_image_98 : decode cX12_image 98 = .ok (.aload_n 0, 1) := by decide +kernel
theorem dX12_image_99 : decode cX12_image 99 = .ok (.getfield 13, 3) := by decide +kernel
theorem dX12_image_102 : decode cX12_image 102 = .ok (.iload_n 3, 1) := by decide +kernel
theorem dX12_image_103 : decode cX12_image 103 = .ok (.iaload, 1) := by decide +kernel
theorem dX12_image_104 : decode cX12_image 104 = .ok (.iastore, 1) := by decide +kernel
theorem dX12_image_105 : decode cX12_image 105 = .ok (.iinc 3 1, 3) := by decide +kernel
theorem dX12_image_108 : decode cX12_image 108 = .ok (.goto (-27), 3) := by decide +kernel
theorem dX12_image_111 : decode cX12_image 111 = .ok (.iconst 0, 1) := by decide +kernel
theorem dX12_image_112 : decode cX12_image 112 = .ok (.istore_n 3, 1) := by decide +kernel
theorem dX12_image_113 : decode cX12_image 113 = .ok (.iload_n 3, 1) := by decide +kernel
theorem dX12_image_114 : decode cX12_image 114 = .ok (.sipush 1536, 3) := by decide +kernel
theorem dX12_image_117 : decode cX12_image 117 = .ok (.if_icmp .ge 27, 3) := by decide +kernel
theorem dX12_image_120 : decode cX12_image 120 = .ok (.aload_n 0, 1) := by decide +kernel
theorem dX12_image_121 : decode cX12_image 121 = .ok (.getfield 85, 3) := by decide +kernel
theorem dX12_image_124 : decode cX12_image 124 = .ok (.iload_n 2, 1) := by decide +kernel
theorem dX12_image_125 : decode cX12_image 125 = .ok (.sipush 194, 3) := by decide +kernel
theorem dX12_image_128 : decode cX12_image 128 = .ok (.iadd, 1) := by decide +kernel
theorem dX12_image_129 : decode cX12_image 129 = .ok (.iload_n 3, 1) := by decide +kernel
theorem dX12_image_130 : decode cX12_image 130 = .ok (.iadd, 1) := by decide +kernel
theorem dX12_image_131 : decode cX12_image 131 = .ok (.aload_n 0, 1) := by decide +kernel
theorem dX12_image_132 : decode cX12_image 132 = .ok (.getfield 82, 3) := by decide +kernel
theorem dX12_image_135 : decode cX12_image 135 = .ok (.iload_n 3, 1) := by decide +kernel
theorem dX12_image_136 : decode cX12_image 136 = .ok (.iaload, 1) := by decide +kernel
theorem dX12_image_137 : decode cX12_image 137 = .ok (.iastore, 1) := by decide +kernel
theorem dX12_image_138 : decode cX12_image 138 = .ok (.iinc 3 1, 3) := by decide +kernel
theorem dX12_image_141 : decode cX12_image 141 = .ok (.goto (-28), 3) := by decide +kernel
theorem dX12_image_144 : decode cX12_image 144 = .ok (.aload_n 0, 1) := by decide +kernel
theorem dX12_image_145 : decode cX12_image 145 = .ok (.getfield 389, 3) := by decide +kernel
theorem dX12_image_148 : decode cX12_image 148 = .ok (.ireturn, 1) := by decide +kernel
theorem dX12_back_0 : decode cX12_back 0 = .ok (.iload_n 1, 1) := by decide +kernel
theorem dX12_back_1 : decode cX12_back 1 = .ok (.i2l, 1) := by decide +kernel
theorem dX12_back_2 : decode cX12_back 2 = .ok (.lconst 0, 1) := by decide +kernel
theorem dX12_back_3 : decode cX12_back 3 = .ok (.ldc2_w 289, 3) := by decide +kernel
theorem dX12_back_6 : decode cX12_back 6 = .ok (.invokestatic 97, 3) := by decide +kernel
theorem dX12_back_9 : decode cX12_back 9 = .ok (.ifCond .eq 12, 3) := by decide +kernel
theorem dX12_back_12 : decode cX12_back 12 = .ok (.aload_n 0, 1) := by decide +kernel
theorem dX12_back_13 : decode cX12_back 13 = .ok (.getfield 88, 3) := by decide +kernel
theorem dX12_back_16 : decode cX12_back 16 = .ok (.iload_n 1, 1) := by decide +kernel
theorem dX12_back_17 : decode cX12_back 17 = .ok (.baload, 1) := by decide +kernel
theorem dX12_back_18 : decode cX12_back 18 = .ok (.ifCond .ne 5, 3) := by decide +kernel
theorem dX12_back_21 : decode cX12_back 21 = .ok (.iconst (-1), 1) := by decide +kernel
theorem dX12_back_22 : decode cX12_back 22 = .ok (.ireturn, 1) := by decide +kernel
theorem dX12_back_23 : decode cX12_back 23 = .ok (.sipush 1730, 3) := by decide +kernel
theorem dX12_back_26 : decode cX12_back 26 = .ok (.iload_n 1, 1) := by decide +kernel
theorem dX12_back_27 : decode cX12_back 27 = .ok (.imul, 1) := by decide +kernel
theorem dX12_back_28 : decode cX12_back 28 = .ok (.istore_n 2, 1) := by decide +kernel
theorem dX12_back_29 : decode cX12_back 29 = .ok (.aload_n 0, 1) := by decide +kernel
theorem dX12_back_30 : decode cX12_back 30 = .ok (.aload_n 0, 1) := by decide +kernel
theorem dX12_back_31 : decode cX12_back 31 = .ok (.getfield 85, 3) := by decide +kernel
theorem dX12_back_34 : decode cX12_back 34 = .ok (.iload_n 2, 1) := by decide +kernel
theorem dX12_back_35 : decode cX12_back 35 = .ok (.iaload, 1) := by decide +kernel
theorem dX12_back_36 : decode cX12_back 36 = .ok (.putfield 91, 3) := by decide +kernel
theorem dX12_back_39 : decode cX12_back 39 = .ok (.aload_n 0, 1) := by decide +kernel
theorem dX12_back_40 : decode cX12_back 40 = .ok (.aload_n 0, 1) := by decide +kernel
theorem dX12_back_41 : decode cX12_back 41 = .ok (.getfield 85, 3) := by decide +kernel
theorem dX12_back_44 : decode cX12_back 44 = .ok (.iload_n 2, 1) := by decide +kernel
theorem dX12_back_45 : decode cX12_back 45 = .ok (.iconst 1, 1) := by decide +kernel
theorem dX12_back_46 : decode cX12_back 46 = .ok (.iadd, 1) := by decide +kernel
theorem dX12_back_47 : decode cX12_back 47 = .ok (.iaload, 1) := by decide +kernel
theorem dX12_back_48 : decode cX12_back 48 = .ok (.putfield 389, 3) := by decide +kernel
theorem dX12_back_51 : decode cX12_back 51 = .ok (.iconst 0, 1) := by decide +kernel
theorem dX12_back_52 : decode cX12_back 52 = .ok (.istore_n 3, 1) := by decide +kernel
theorem dX12_back_53 : decode cX12_back 53 = .ok (.iload_n 3, 1) := by decide +kernel
theorem dX12_back_54 : decode cX12_back 54 = .ok (.bipush 48, 2) := by decide +kernel
theorem dX12_back_56 : decode cX12_back 56 = .ok (.if_icmp .ge 25, 3) := by decide +kernel
theorem dX12_back_59 : decode cX12_back 59 = .ok (.aload_n 0, 1) := by decide +kernel
theorem dX12_back_60 : decode cX12_back 60 = .ok (.getfield 7, 3) := by decide +kernel
theorem dX12_back_63 : decode cX12_back 63 = .ok (.iload_n 3, 1) := by decide +kernel
theorem dX12_back_64 : decode cX12_back 64 = .ok (.aload_n 0, 1) := by decide +kernel
theorem dX12_back_65 : decode cX12_back 65 = .ok (.getfield 85, 3) := by decide +kernel
theorem dX12_back_68 : decode cX12_back 68 = .ok (.iload_n 2, 1) := by decide +kernel
theorem dX12_back_69 : decode cX12_back 69 = .ok (.iconst 2, 1) := by decide +kernel
theorem dX12_back_70 : decode cX12_back 70 = .ok (.iadd, 1) := by decide +kernel
theorem dX12_back_71 : decode cX12_back 71 = .ok (.iload_n 3, 1) := by decide +kernel
theorem dX12_back_72 : decode cX12_back 72 = .ok (.iadd, 1) := by decide +kernel
theorem dX12_back_73 : decode cX12_back 73 = .ok (.iaload, 1) := by decide +kernel
theorem dX12_back_74 : decode cX12_back 74 = .ok (.iastore, 1) := by decide +kernel
theorem dX12_back_75 : decode cX12_back 75 = .ok (.iinc 3 1, 3) := by decide +kernel
theorem dX12_back_78 : decode cX12_back 78 = .ok (.goto (-25), 3) := by decide +kernel
theorem dX12_back_81 : decode cX12_back 81 = .ok (.iconst 0, 1) := by decide +kernel
theorem dX12_back_82 : decode cX12_back 82 = .ok (.istore_n 3, 1) := by decide +kernel
theorem dX12_back_83 : decode cX12_back 83 = .ok (.iload_n 3, 1) := by decide +kernel
theorem dX12_back_84 : decode cX12_back 84 = .ok (.sipush 144, 3) := by decide +kernel
theorem dX12_back_87 : decode cX12_back 87 = .ok (.if_icmp .ge 26, 3) := by decide +kernel
theorem dX12_back_90 : decode cX12_back 90 = .ok (.aload_n 0, 1) := by decide +kernel
theorem dX12_back_91 : decode cX12_back 91 = .ok (.getfield 13, 3) := by decide +kernel
theorem dX12_back_94 : decode cX12_back 94 = .ok (.iload_n 3, 1) := by decide +kernel
theorem dX12_back_95 : decode cX12_back 95 = .ok (.aload_n 0, 1) := by decide +kernel
theorem dX12_back_96 : decode cX12_back 96 = .ok (.getfield 85, 3) := by decide +kernel
theorem dX12_back_99 : decode cX12_back 99 = .ok (.iload_n 2, 1) := by decide +kernel
theorem dX12_back_100 : decode cX12_back 100 = .ok (.bipush 50, 2) := by decide +kernel
theorem dX12_back_102 : decode cX12_back 102 = .ok (.iadd, 1) := by decide +kernel
theorem dX12_back_103 : decode cX12_back 103 = .ok (.iload_n 3, 1) := by decide +kernel
theorem dX12_back_104 : decode cX12_back 104 = .ok (.iadd, 1) := by decide +kernel
theorem dX12_back_105 : decode cX12_back 105 = .ok (.iaload, 1) := by decide +kernel
theorem dX12_back_106 : decode cX12_back 106 = .ok (.iastore, 1) := by decide +kernel
theorem dX12_back_107 : decode cX12_back 107 = .ok (.iinc 3 1, 3) := by decide +kernel
theorem dX12_back_110 : decode cX12_back 110 = .ok (.goto (-27), 3) := by decide +kernel
theorem dX12_back_113 : decode cX12_back 113 = .ok (.iconst 0, 1) := by decide +kernel
theorem dX12_back_114 : decode cX12_back 114 = .ok (.istore_n 3, 1) := by decide +kernel
theorem dX12_back_115 : decode cX12_back 115 = .ok (.iload_n 3, 1) := by decide +kernel
theorem dX12_back_116 : decode cX12_back 116 = .ok (.sipush 1536, 3) := by decide +kernel
theorem dX12_back_119 : decode cX12_back 119 = .ok (.if_icmp .ge 27, 3) := by decide +kernel
theorem dX12_back_122 : decode cX12_back 122 = .ok (.aload_n 0, 1) := by decide +kernel
theorem dX12_back_123 : decode cX12_back 123 = .ok (.getfield 82, 3) := by decide +kernel
theorem dX12_back_126 : decode cX12_back 126 = .ok (.iload_n 3, 1) := by decide +kernel
theorem dX12_back_127 : decode cX12_back 127 = .ok (.aload_n 0, 1) := by decide +kernel
theorem dX12_back_128 : decode cX12_back 128 = .ok (.getfield 85, 3) := by decide +kernel
theorem dX12_back_131 : decode cX12_back 131 = .ok (.iload_n 2, 1) := by decide +kernel
theorem dX12_back_132 : decode cX12_back 132 = .ok (.sipush 194, 3) := by decide +kernel
theorem dX12_back_135 : decode cX12_back 135 = .ok (.iadd, 1) := by decide +kernel
theorem dX12_back_136 : decode cX12_back 136 = .ok (.iload_n 3, 1) := by decide +kernel
theorem dX12_back_137 : decode cX12_back 137 = .ok (.iadd, 1) := by decide +kernel
theorem dX12_back_138 : decode cX12_back 138 = .ok (.iaload, 1) := by decide +kernel
theorem dX12_back_139 : decode cX12_back 139 = .ok (.iastore, 1) := by decide +kernel
theorem dX12_back_140 : decode cX12_back 140 = .ok (.iinc 3 1, 3) := by decide +kernel
theorem dX12_back_143 : decode cX12_back 143 = .ok (.goto (-28), 3) := by decide +kernel
theorem dX12_back_146 : decode cX12_back 146 = .ok (.aload_n 0, 1) := by decide +kernel
theorem dX12_back_147 : decode cX12_back 147 = .ok (.getfield 389, 3) := by decide +kernel
theorem dX12_back_150 : decode cX12_back 150 = .ok (.ireturn, 1) := by decide +kernel
theorem dX12_count_0 : decode cX12_count 0 = .ok (.iconst 0, 1) := by decide +kernel
theorem dX12_count_1 : decode cX12_count 1 = .ok (.istore_n 2, 1) := by decide +kernel
theorem dX12_count_2 : decode cX12_count 2 = .ok (.iconst 0, 1) := by decide +kernel
theorem dX12_count_3 : decode cX12_count 3 = .ok (.istore_n 3, 1) := by decide +kernel
theorem dX12_count_4 : decode cX12_count 4 = .ok (.iload_n 3, 1) := by decide +kernel
theorem dX12_count_5 : decode cX12_count 5 = .ok (.aload_n 0, 1) := by decide +kernel
theorem dX12_count_6 : decode cX12_count 6 = .ok (.getfield 389, 3) := by decide +kernel
theorem dX12_count_9 : decode cX12_count 9 = .ok (.if_icmp .ge 25, 3) := by decide +kernel
theorem dX12_count_12 : decode cX12_count 12 = .ok (.iload_n 2, 1) := by decide +kernel
theorem dX12_count_13 : decode cX12_count 13 = .ok (.aload_n 0, 1) := by decide +kernel
theorem dX12_count_14 : decode cX12_count 14 = .ok (.iload_n 3, 1) := by decide +kernel
theorem dX12_count_15 : decode cX12_count 15 = .ok (.invokevirtual 432, 3) := by decide +kernel
theorem dX12_count_18 : decode cX12_count 18 = .ok (.ifCond .eq 7, 3) := by decide +kernel
theorem dX12_count_21 : decode cX12_count 21 = .ok (.iconst 1, 1) := by decide +kernel
theorem dX12_count_22 : decode cX12_count 22 = .ok (.goto 4, 3) := by decide +kernel
theorem dX12_count_25 : decode cX12_count 25 = .ok (.iconst 0, 1) := by decide +kernel
theorem dX12_count_26 : decode cX12_count 26 = .ok (.iadd, 1) := by decide +kernel
theorem dX12_count_27 : decode cX12_count 27 = .ok (.istore_n 2, 1) := by decide +kernel
theorem dX12_count_28 : decode cX12_count 28 = .ok (.iinc 3 1, 3) := by decide +kernel
theorem dX12_count_31 : decode cX12_count 31 = .ok (.goto (-27), 3) := by decide +kernel
theorem dX12_count_34 : decode cX12_count 34 = .ok (.iload_n 1, 1) := by decide +kernel
theorem dX12_count_35 : decode cX12_count 35 = .ok (.tableswitch 55 0 4 #[33, 38, 43, 48, 50], 33) := by decide +kernel
theorem dX12_count_68 : decode cX12_count 68 = .ok (.aload_n 0, 1) := by decide +kernel
theorem dX12_count_69 : decode cX12_count 69 = .ok (.getfield 91, 3) := by decide +kernel
theorem dX12_count_72 : decode cX12_count 72 = .ok (.ireturn, 1) := by decide +kernel
theorem dX12_count_73 : decode cX12_count 73 = .ok (.aload_n 0, 1) := by decide +kernel
theorem dX12_count_74 : decode cX12_count 74 = .ok (.getfield 280, 3) := by decide +kernel
theorem dX12_count_77 : decode cX12_count 77 = .ok (.ireturn, 1) := by decide +kernel
theorem dX12_count_78 : decode cX12_count 78 = .ok (.aload_n 0, 1) := by decide +kernel
theorem dX12_count_79 : decode cX12_count 79 = .ok (.getfield 389, 3) := by decide +kernel
theorem dX12_count_82 : decode cX12_count 82 = .ok (.ireturn, 1) := by decide +kernel
theorem dX12_count_83 : decode cX12_count 83 = .ok (.iload_n 2, 1) := by decide +kernel
theorem dX12_count_84 : decode cX12_count 84 = .ok (.ireturn, 1) := by decide +kernel
theorem dX12_count_85 : decode cX12_count 85 = .ok (.aload_n 0, 1) := by decide +kernel
theorem dX12_count_86 : decode cX12_count 86 = .ok (.getfield 111, 3) := by decide +kernel
theorem dX12_count_89 : decode cX12_count 89 = .ok (.ireturn, 1) := by decide +kernel
theorem dX12_count_90 : decode cX12_count 90 = .ok (.iconst (-1), 1) := by decide +kernel
theorem dX12_count_91 : decode cX12_count 91 = .ok (.ireturn, 1) := by decide +kernel
