theorem dX3_init_0 : decode cX3_init 0 = .ok (.aload_n 0, 1) := by decide +kernel
theorem dX3_init_1 : decode cX3_init 1 = .ok (.invokespecial 3, 3) := by decide +kernel
theorem dX3_init_4 : decode cX3_init 4 = .ok (.aload_n 0, 1) := by decide +kernel
theorem dX3_init_5 : decode cX3_init 5 = .ok (.sipush 4096, 3) := by decide +kernel
theorem dX3_init_8 : decode cX3_init 8 = .ok (.newarray .int, 2) := by decide +kernel
theorem dX3_init_10 : decode cX3_init 10 = .ok (.putfield 9, 3) := by decide +kernel
theorem dX3_init_13 : decode cX3_init 13 = .ok (.return_, 1) := by decide +kernel
theorem dX3_begin_0 : decode cX3_begin 0 = .ok (.aload_n 0, 1) := by decide +kernel
theorem dX3_begin_1 : decode cX3_begin 1 = .ok (.dup, 1) := by decide +kernel
theorem dX3_begin_2 : decode cX3_begin 2 = .ok (.getfield 15, 3) := by decide +kernel
theorem dX3_begin_5 : decode cX3_begin 5 = .ok (.iconst 1, 1) := by decide +kernel
theorem dX3_begin_6 : decode cX3_begin 6 = .ok (.iadd, 1) := by decide +kernel
theorem dX3_begin_7 : decode cX3_begin 7 = .ok (.putfield 15, 3) := by decide +kernel
theorem dX3_begin_10 : decode cX3_begin 10 = .ok (.return_, 1) := by decide +kernel
theorem dX3_outcomeFrom_0 : decode cX3_outcomeFrom 0 = .ok (.aload_n 0, 1) := by decide +kernel
theorem dX3_outcomeFrom_1 : decode cX3_outcomeFrom 1 = .ok (.aload_n 1, 1) := by decide +kernel
theorem dX3_outcomeFrom_2 : decode cX3_outcomeFrom 2 = .ok (.iload_n 2, 1) := by decide +kernel
theorem dX3_outcomeFrom_3 : decode cX3_outcomeFrom 3 = .ok (.iconst 0, 1) := by decide +kernel
theorem dX3_outcomeFrom_4 : decode cX3_outcomeFrom 4 = .ok (.invokevirtual 19, 3) := by decide +kernel
theorem dX3_outcomeFrom_7 : decode cX3_outcomeFrom 7 = .ok (.bipush 31, 2) := by decide +kernel
theorem dX3_outcomeFrom_9 : decode cX3_outcomeFrom 9 = .ok (.iand, 1) := by decide +kernel
theorem dX3_outcomeFrom_10 : decode cX3_outcomeFrom 10 = .ok (.ireturn, 1) := by decide +kernel
theorem dX3_moveFrom_0 : decode cX3_moveFrom 0 = .ok (.aload_n 0, 1) := by decide +kernel
theorem dX3_moveFrom_1 : decode cX3_moveFrom 1 = .ok (.aload_n 1, 1) := by decide +kernel
theorem dX3_moveFrom_2 : decode cX3_moveFrom 2 = .ok (.iload_n 2, 1) := by decide +kernel
theorem dX3_moveFrom_3 : decode cX3_moveFrom 3 = .ok (.iconst 0, 1) := by decide +kernel
theorem dX3_moveFrom_4 : decode cX3_moveFrom 4 = .ok (.invokevirtual 19, 3) := by decide +kernel
theorem dX3_moveFrom_7 : decode cX3_moveFrom 7 = .ok (.iconst 5, 1) := by decide +kernel
theorem dX3_moveFrom_8 : decode cX3_moveFrom 8 = .ok (.ishr, 1) := by decide +kernel
theorem dX3_moveFrom_9 : decode cX3_moveFrom 9 = .ok (.ireturn, 1) := by decide +kernel
theorem dX3_settle_0 : decode cX3_settle 0 = .ok (.iload_n 2, 1) := by decide +kernel
theorem dX3_settle_1 : decode cX3_settle 1 = .ok (.invokestatic 23, 3) := by decide +kernel
theorem dX3_settle_4 : decode cX3_settle 4 = .ok (.ifCond .ne 9, 3) := by decide +kernel
theorem dX3_settle_7 : decode cX3_settle 7 = .ok (.iload_n 3, 1) := by decide +kernel
theorem dX3_settle_8 : decode cX3_settle 8 = .ok (.bipush 8, 2) := by decide +kernel
theorem dX3_settle_10 : decode cX3_settle 10 = .ok (.if_icmp .le 8, 3) := by decide +kernel
theorem dX3_settle_13 : decode cX3_settle 13 = .ok (.iload_n 2, 1) := by decide +kernel
theorem dX3_settle_14 : decode cX3_settle 14 = .ok (.invokestatic 29, 3) := by decide +kernel
theorem dX3_settle_17 : decode cX3_settle 17 = .ok (.ireturn, 1) := by decide +kernel
theorem dX3_settle_18 : decode cX3_settle 18 = .ok (.iload_n 2, 1) := by decide +kernel
theorem dX3_settle_19 : decode cX3_settle 19 = .ok (.invokestatic 32, 3) := by decide +kernel
theorem dX3_settle_22 : decode cX3_settle 22 = .ok (.istore 4, 2) := by decide +kernel
theorem dX3_settle_24 : decode cX3_settle 24 = .ok (.aload_n 0, 1) := by decide +kernel
theorem dX3_settle_25 : decode cX3_settle 25 = .ok (.getfield 9, 3) := by decide +kernel
theorem dX3_settle_28 : decode cX3_settle 28 = .ok (.iload 4, 2) := by decide +kernel
theorem dX3_settle_30 : decode cX3_settle 30 = .ok (.iaload, 1) := by decide +kernel
theorem dX3_settle_31 : decode cX3_settle 31 = .ok (.bipush 9, 2) := by decide +kernel
theorem dX3_settle_33 : decode cX3_settle 33 = .ok (.ishr, 1) := by decide +kernel
theorem dX3_settle_34 : decode cX3_settle 34 = .ok (.aload_n 0, 1) := by decide +kernel
theorem dX3_settle_35 : decode cX3_settle 35 = .ok (.getfield 15, 3) := by decide +kernel
theorem dX3_settle_38 : decode cX3_settle 38 = .ok (.if_icmp .ne 15, 3) := by decide +kernel
theorem dX3_settle_41 : decode cX3_settle 41 = .ok (.aload_n 0, 1) := by decide +kernel
theorem dX3_settle_42 : decode cX3_settle 42 = .ok (.getfield 9, 3) := by decide +kernel
theorem dX3_settle_45 : decode cX3_settle 45 = .ok (.iload 4, 2) := by decide +kernel
theorem dX3_settle_47 : decode cX3_settle 47 = .ok (.iaload, 1) := by decide +kernel
theorem dX3_settle_48 : decode cX3_settle 48 = .ok (.sipush 511, 3) := by decide +kernel
theorem dX3_settle_51 : decode cX3_settle 51 = .ok (.iand, 1) := by decide +kernel
theorem dX3_settle_52 : decode cX3_settle 52 = .ok (.ireturn, 1) := by decide +kernel
theorem dX3_settle_53 : decode cX3_settle 53 = .ok (.iload_n 2, 1) := by decide +kernel
theorem dX3_settle_54 : decode cX3_settle 54 = .ok (.invokestatic 35, 3) := by decide +kernel
theorem dX3_settle_57 : decode cX3_settle 57 = .ok (.istore 5, 2) := by decide +kernel
theorem dX3_settle_59 : decode cX3_settle 59 = .ok (.iconst 0, 1) := by decide +kernel
theorem dX3_settle_60 : decode cX3_settle 60 = .ok (.istore 6, 2) := by decide +kernel
theorem dX3_settle_62 : decode cX3_settle 62 = .ok (.bipush 8, 2) := by decide +kernel
theorem dX3_settle_64 : decode cX3_settle 64 = .ok (.istore 7, 2) := by decide +kernel
theorem dX3_settle_66 : decode cX3_settle 66 = .ok (.iconst 0, 1) := by decide +kernel
theorem dX3_settle_67 : decode cX3_settle 67 = .ok (.istore 8, 2) := by decide +kernel
theorem dX3_settle_69 : decode cX3_settle 69 = .ok (.iload 8, 2) := by decide +kernel
theorem dX3_settle_71 : decode cX3_settle 71 = .ok (.bipush 11, 2) := by decide +kernel
theorem dX3_settle_73 : decode cX3_settle 73 = .ok (.if_icmp .ge 74, 3) := by decide +kernel
theorem dX3_settle_76 : decode cX3_settle 76 = .ok (.iload 7, 2) := by decide +kernel
theorem dX3_settle_78 : decode cX3_settle 78 = .ok (.ifCond .le 69, 3) := by decide +kernel
theorem dX3_settle_81 : decode cX3_settle 81 = .ok (.aload_n 1, 1) := by decide +kernel
theorem dX3_settle_82 : decode cX3_settle 82 = .ok (.iload_n 2, 1) := by decide +kernel
theorem dX3_settle_83 : decode cX3_settle 83 = .ok (.iload 8, 2) := by decide +kernel
theorem dX3_settle_85 : decode cX3_settle 85 = .ok (.invokevirtual 38, 3) := by decide +kernel
theorem dX3_settle_88 : decode cX3_settle 88 = .ok (.ifCond .eq 53, 3) := by decide +kernel
theorem dX3_settle_91 : decode cX3_settle 91 = .ok (.aload_n 0, 1) := by decide +kernel
theorem dX3_settle_92 : decode cX3_settle 92 = .ok (.aload_n 1, 1) := by decide +kernel
theorem dX3_settle_93 : decode cX3_settle 93 = .ok (.aload_n 1, 1) := by decide +kernel
theorem dX3_settle_94 : decode cX3_settle 94 = .ok (.iload_n 2, 1) := by decide +kernel
theorem dX3_settle_95 : decode cX3_settle 95 = .ok (.iload 8, 2) := by decide +kernel
theorem dX3_settle_97 : decode cX3_settle 97 = .ok (.iconst 1, 1) := by decide +kernel
theorem dX3_settle_98 : decode cX3_settle 98 = .ok (.invokevirtual 44, 3) := by decide +kernel
theorem dX3_settle_101 : decode cX3_settle 101 = .ok (.iload_n 3, 1) := by decide +kernel
theorem dX3_settle_102 : decode cX3_settle 102 = .ok (.iconst 1, 1) := by decide +kernel
theorem dX3_settle_103 : decode cX3_settle 103 = .ok (.iadd, 1) := by decide +kernel
theorem dX3_settle_104 : decode cX3_settle 104 = .ok (.invokevirtual 19, 3) := by decide +kernel
theorem dX3_settle_107 : decode cX3_settle 107 = .ok (.bipush 31, 2) := by decide +kernel
theorem dX3_settle_109 : decode cX3_settle 109 = .ok (.iand, 1) := by decide +kernel
theorem dX3_settle_110 : decode cX3_settle 110 = .ok (.istore 9, 2) := by decide +kernel
theorem dX3_settle_112 : decode cX3_settle 112 = .ok (.iload 9, 2) := by decide +kernel
theorem dX3_settle_114 : decode cX3_settle 114 = .ok (.iload 5, 2) := by decide +kernel
theorem dX3_settle_116 : decode cX3_settle 116 = .ok (.invokestatic 48, 3) := by decide +kernel
theorem dX3_settle_119 : decode cX3_settle 119 = .ok (.istore 10, 2) := by decide +kernel
theorem dX3_settle_121 : decode cX3_settle 121 = .ok (.iload 10, 2) := by decide +kernel
theorem dX3_settle_123 : decode cX3_settle 123 = .ok (.iload 7, 2) := by decide +kernel
theorem dX3_settle_125 : decode cX3_settle 125 = .ok (.if_icmp .ge 16, 3) := by decide +kernel
theorem dX3_settle_128 : decode cX3_settle 128 = .ok (.iload 10, 2) := by decide +kernel
theorem dX3_settle_130 : decode cX3_settle 130 = .ok (.istore 7, 2) := by decide +kernel
theorem dX3_settle_132 : decode cX3_settle 132 = .ok (.iload 8, 2) := by decide +kernel
theorem dX3_settle_134 : decode cX3_settle 134 = .ok (.iconst 5, 1) := by decide +kernel
theorem dX3_settle_135 : decode cX3_settle 135 = .ok (.ishl, 1) := by decide +kernel
theorem dX3_settle_136 : decode cX3_settle 136 = .ok (.iload 9, 2) := by decide +kernel
theorem dX3_settle_138 : decode cX3_settle 138 = .ok (.ior, 1) := by decide +kernel
theorem dX3_settle_139 : decode cX3_settle 139 = .ok (.istore 6, 2) := by decide +kernel
theorem dX3_settle_141 : decode cX3_settle 141 = .ok (.iinc 8 1, 3) := by decide +kernel
theorem dX3_settle_144 : decode cX3_settle 144 = .ok (.goto (-75), 3) := by decide +kernel
theorem dX3_settle_147 : decode cX3_settle 147 = .ok (.aload_n 0, 1) := by decide +kernel
theorem dX3_settle_148 : decode cX3_settle 148 = .ok (.getfield 9, 3) := by decide +kernel
theorem dX3_settle_151 : decode cX3_settle 151 = .ok (.iload 4, 2) := by decide +kernel
theorem dX3_settle_153 : decode cX3_settle 153 = .ok (.aload_n 0, 1) := by decide +kernel
theorem dX3_settle_154 : decode cX3_settle 154 = .ok (.getfield 15, 3) := by decide +kernel
theorem dX3_settle_157 : decode cX3_settle 157 = .ok (.bipush 9, 2) := by decide +kernel
theorem dX3_settle_159 : decode cX3_settle 159 = .ok (.ishl, 1) := by decide +kernel
theorem dX3_settle_160 : decode cX3_settle 160 = .ok (.iload 6, 2) := by decide +kernel
theorem dX3_settle_162 : decode cX3_settle 162 = .ok (.ior, 1) := by decide +kernel
theorem dX3_settle_163 : decode cX3_settle 163 = .ok (.iastore, 1) := by decide +kernel
theorem dX3_settle_164 : decode cX3_settle 164 = .ok (.iload 6, 2) := by decide +kernel
theorem dX3_settle_166 : decode cX3_settle 166 = .ok (.ireturn, 1) := by decide +kernel
theorem dX3_worthOf_0 : decode cX3_worthOf 0 = .ok (.iload_n 0, 1) := by decide +kernel
theorem dX3_worthOf_1 : decode cX3_worthOf 1 = .ok (.iload_n 1, 1) := by decide +kernel
theorem dX3_worthOf_2 : decode cX3_worthOf 2 = .ok (.ishr, 1) := by decide +kernel
theorem dX3_worthOf_3 : decode cX3_worthOf 3 = .ok (.iconst 1, 1) := by decide +kernel
theorem dX3_worthOf_4 : decode cX3_worthOf 4 = .ok (.iand, 1) := by decide +kernel
theorem dX3_worthOf_5 : decode cX3_worthOf 5 = .ok (.istore_n 2, 1) := by decide +kernel
theorem dX3_worthOf_6 : decode cX3_worthOf 6 = .ok (.iload_n 0, 1) := by decide +kernel
theorem dX3_worthOf_7 : decode cX3_worthOf 7 = .ok (.bipush 8, 2) := by decide +kernel
theorem dX3_worthOf_9 : decode cX3_worthOf 9 = .ok (.if_icmp .ne 7, 3) := by decide +kernel
theorem dX3_worthOf_12 : decode cX3_worthOf 12 = .ok (.iconst 1, 1) := by decide +kernel
theorem dX3_worthOf_13 : decode cX3_worthOf 13 = .ok (.goto 4, 3) := by decide +kernel
theorem dX3_worthOf_16 : decode cX3_worthOf 16 = .ok (.iconst 0, 1) := by decide +kernel
theorem dX3_worthOf_17 : decode cX3_worthOf 17 = .ok (.istore_n 3, 1) := by decide +kernel
theorem dX3_worthOf_18 : decode cX3_worthOf 18 = .ok (.iload_n 0, 1) := by decide +kernel
theorem dX3_worthOf_19 : decode cX3_worthOf 19 = .ok (.iconst 1, 1) := by decide +kernel
theorem dX3_worthOf_20 : decode cX3_worthOf 20 = .ok (.iload_n 1, 1) := by decide +kernel
theorem dX3_worthOf_21 : decode cX3_worthOf 21 = .ok (.isub, 1) := by decide +kernel
theorem dX3_worthOf_22 : decode cX3_worthOf 22 = .ok (.ishr, 1) := by decide +kernel
theorem dX3_worthOf_23 : decode cX3_worthOf 23 = .ok (.iconst 1, 1) := by decide +kernel
theorem dX3_worthOf_24 : decode cX3_worthOf 24 = .ok (.iand, 1) := by decide +kernel
theorem dX3_worthOf_25 : decode cX3_worthOf 25 = .ok (.istore 4, 2) := by decide +kernel
theorem dX3_worthOf_27 : decode cX3_worthOf 27 = .ok (.iconst 4, 1) := by decide +kernel
theorem dX3_worthOf_28 : decode cX3_worthOf 28 = .ok (.iload_n 2, 1) := by decide +kernel
theorem dX3_worthOf_29 : decode cX3_worthOf 29 = .ok (.imul, 1) := by decide +kernel
theorem dX3_worthOf_30 : decode cX3_worthOf 30 = .ok (.iconst 2, 1) := by decide +kernel
theorem dX3_worthOf_31 : decode cX3_worthOf 31 = .ok (.iload_n 3, 1) := by decide +kernel
theorem dX3_worthOf_32 : decode cX3_worthOf 32 = .ok (.imul, 1) := by decide +kernel
theorem dX3_worthOf_33 : decode cX3_worthOf 33 = .ok (.iadd, 1) := by decide +kernel
theorem dX3_worthOf_34 : decode cX3_worthOf 34 = .ok (.iload 4, 2) := by decide +kernel
theorem dX3_worthOf_36 : decode cX3_worthOf 36 = .ok (.iadd, 1) := by decide +kernel
theorem dX3_worthOf_37 : decode cX3_worthOf 37 = .ok (.ireturn, 1) := by decide +kernel
