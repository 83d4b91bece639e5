theorem dX5_init_0 : decode cX5_init 0 = .ok (.aload_n 0, 1) := by decide +kernel
theorem dX5_init_1 : decode cX5_init 1 = .ok (.invokespecial 3, 3) := by decide +kernel
theorem dX5_init_4 : decode cX5_init 4 = .ok (.aload_n 0, 1) := by decide +kernel
theorem dX5_init_5 : decode cX5_init 5 = .ok (.new 9, 3) := by decide +kernel
theorem dX5_init_8 : decode cX5_init 8 = .ok (.dup, 1) := by decide +kernel
theorem dX5_init_9 : decode cX5_init 9 = .ok (.invokespecial 11, 3) := by decide +kernel
theorem dX5_init_12 : decode cX5_init 12 = .ok (.putfield 12, 3) := by decide +kernel
theorem dX5_init_15 : decode cX5_init 15 = .ok (.aload_n 0, 1) := by decide +kernel
theorem dX5_init_16 : decode cX5_init 16 = .ok (.new 18, 3) := by decide +kernel
theorem dX5_init_19 : decode cX5_init 19 = .ok (.dup, 1) := by decide +kernel
theorem dX5_init_20 : decode cX5_init 20 = .ok (.invokespecial 20, 3) := by decide +kernel
theorem dX5_init_23 : decode cX5_init 23 = .ok (.putfield 21, 3) := by decide +kernel
theorem dX5_init_26 : decode cX5_init 26 = .ok (.return_, 1) := by decide +kernel
theorem dX5_read_0 : decode cX5_read 0 = .ok (.aload_n 0, 1) := by decide +kernel
theorem dX5_read_1 : decode cX5_read 1 = .ok (.getfield 12, 3) := by decide +kernel
theorem dX5_read_4 : decode cX5_read 4 = .ok (.aload_n 1, 1) := by decide +kernel
theorem dX5_read_5 : decode cX5_read 5 = .ok (.invokevirtual 25, 3) := by decide +kernel
theorem dX5_read_8 : decode cX5_read 8 = .ok (.aload_n 0, 1) := by decide +kernel
theorem dX5_read_9 : decode cX5_read 9 = .ok (.aload_n 2, 1) := by decide +kernel
theorem dX5_read_10 : decode cX5_read 10 = .ok (.putfield 21, 3) := by decide +kernel
theorem dX5_read_13 : decode cX5_read 13 = .ok (.aload_n 0, 1) := by decide +kernel
theorem dX5_read_14 : decode cX5_read 14 = .ok (.getfield 21, 3) := by decide +kernel
theorem dX5_read_17 : decode cX5_read 17 = .ok (.invokevirtual 29, 3) := by decide +kernel
theorem dX5_read_20 : decode cX5_read 20 = .ok (.aload_n 0, 1) := by decide +kernel
theorem dX5_read_21 : decode cX5_read 21 = .ok (.iconst 0, 1) := by decide +kernel
theorem dX5_read_22 : decode cX5_read 22 = .ok (.putfield 32, 3) := by decide +kernel
theorem dX5_read_25 : decode cX5_read 25 = .ok (.aload_n 0, 1) := by decide +kernel
theorem dX5_read_26 : decode cX5_read 26 = .ok (.iconst 0, 1) := by decide +kernel
theorem dX5_read_27 : decode cX5_read 27 = .ok (.putfield 36, 3) := by decide +kernel
theorem dX5_read_30 : decode cX5_read 30 = .ok (.aload_n 0, 1) := by decide +kernel
theorem dX5_read_31 : decode cX5_read 31 = .ok (.iconst 0, 1) := by decide +kernel
theorem dX5_read_32 : decode cX5_read 32 = .ok (.putfield 39, 3) := by decide +kernel
theorem dX5_read_35 : decode cX5_read 35 = .ok (.iconst 0, 1) := by decide +kernel
theorem dX5_read_36 : decode cX5_read 36 = .ok (.istore_n 3, 1) := by decide +kernel
theorem dX5_read_37 : decode cX5_read 37 = .ok (.iload_n 3, 1) := by decide +kernel
theorem dX5_read_38 : decode cX5_read 38 = .ok (.bipush 14, 2) := by decide +kernel
theorem dX5_read_40 : decode cX5_read 40 = .ok (.if_icmp .gt 75, 3) := by decide +kernel
theorem dX5_read_43 : decode cX5_read 43 = .ok (.aload_n 0, 1) := by decide +kernel
theorem dX5_read_44 : decode cX5_read 44 = .ok (.invokevirtual 42, 3) := by decide +kernel
theorem dX5_read_47 : decode cX5_read 47 = .ok (.ifCond .eq 18, 3) := by decide +kernel
theorem dX5_read_50 : decode cX5_read 50 = .ok (.aload_n 0, 1) := by decide +kernel
theorem dX5_read_51 : decode cX5_read 51 = .ok (.getfield 46, 3) := by decide +kernel
theorem dX5_read_54 : decode cX5_read 54 = .ok (.ifCond .eq 16, 3) := by decide +kernel
theorem dX5_read_57 : decode cX5_read 57 = .ok (.aload_n 0, 1) := by decide +kernel
theorem dX5_read_58 : decode cX5_read 58 = .ok (.iconst 0, 1) := by decide +kernel
theorem dX5_read_59 : decode cX5_read 59 = .ok (.invokevirtual 50, 3) := by decide +kernel
theorem dX5_read_62 : decode cX5_read 62 = .ok (.ifCond .ne 8, 3) := by decide +kernel
theorem dX5_read_65 : decode cX5_read 65 = .ok (.aload_n 0, 1) := by decide +kernel
theorem dX5_read_66 : decode cX5_read 66 = .ok (.getfield 39, 3) := by decide +kernel
theorem dX5_read_69 : decode cX5_read 69 = .ok (.ireturn, 1) := by decide +kernel
theorem dX5_read_70 : decode cX5_read 70 = .ok (.aload_n 0, 1) := by decide +kernel
theorem dX5_read_71 : decode cX5_read 71 = .ok (.getfield 12, 3) := by decide +kernel
theorem dX5_read_74 : decode cX5_read 74 = .ok (.aload_n 0, 1) := by decide +kernel
theorem dX5_read_75 : decode cX5_read 75 = .ok (.getfield 32, 3) := by decide +kernel
theorem dX5_read_78 : decode cX5_read 78 = .ok (.invokevirtual 54, 3) := by decide +kernel
theorem dX5_read_81 : decode cX5_read 81 = .ok (.bipush 31, 2) := by decide +kernel
theorem dX5_read_83 : decode cX5_read 83 = .ok (.if_icmp .ne 5, 3) := by decide +kernel
theorem dX5_read_86 : decode cX5_read 86 = .ok (.iconst 0, 1) := by decide +kernel
theorem dX5_read_87 : decode cX5_read 87 = .ok (.ireturn, 1) := by decide +kernel
theorem dX5_read_88 : decode cX5_read 88 = .ok (.aload_n 0, 1) := by decide +kernel
theorem dX5_read_89 : decode cX5_read 89 = .ok (.sipush 315, 3) := by decide +kernel
theorem dX5_read_92 : decode cX5_read 92 = .ok (.invokevirtual 58, 3) := by decide +kernel
theorem dX5_read_95 : decode cX5_read 95 = .ok (.ifCond .ne 14, 3) := by decide +kernel
theorem dX5_read_98 : decode cX5_read 98 = .ok (.aload_n 0, 1) := by decide +kernel
theorem dX5_read_99 : decode cX5_read 99 = .ok (.iconst 0, 1) := by decide +kernel
theorem dX5_read_100 : decode cX5_read 100 = .ok (.invokevirtual 61, 3) := by decide +kernel
theorem dX5_read_103 : decode cX5_read 103 = .ok (.pop, 1) := by decide +kernel
theorem dX5_read_104 : decode cX5_read 104 = .ok (.aload_n 0, 1) := by decide +kernel
theorem dX5_read_105 : decode cX5_read 105 = .ok (.getfield 39, 3) := by decide +kernel
theorem dX5_read_108 : decode cX5_read 108 = .ok (.ireturn, 1) := by decide +kernel
theorem dX5_read_109 : decode cX5_read 109 = .ok (.iinc 3 1, 3) := by decide +kernel
theorem dX5_read_112 : decode cX5_read 112 = .ok (.goto (-75), 3) := by decide +kernel
theorem dX5_read_115 : decode cX5_read 115 = .ok (.aload_n 0, 1) := by decide +kernel
theorem dX5_read_116 : decode cX5_read 116 = .ok (.getfield 39, 3) := by decide +kernel
theorem dX5_read_119 : decode cX5_read 119 = .ok (.ireturn, 1) := by decide +kernel
theorem dX5_readHead_0 : decode cX5_readHead 0 = .ok (.aload_n 0, 1) := by decide +kernel
theorem dX5_readHead_1 : decode cX5_readHead 1 = .ok (.iconst 0, 1) := by decide +kernel
theorem dX5_readHead_2 : decode cX5_readHead 2 = .ok (.bipush 6, 2) := by decide +kernel
theorem dX5_readHead_4 : decode cX5_readHead 4 = .ok (.invokevirtual 64, 3) := by decide +kernel
theorem dX5_readHead_7 : decode cX5_readHead 7 = .ok (.istore_n 1, 1) := by decide +kernel
theorem dX5_readHead_8 : decode cX5_readHead 8 = .ok (.iload_n 1, 1) := by decide +kernel
theorem dX5_readHead_9 : decode cX5_readHead 9 = .ok (.ifCond .ge 9, 3) := by decide +kernel
theorem dX5_readHead_12 : decode cX5_readHead 12 = .ok (.aload_n 0, 1) := by decide +kernel
theorem dX5_readHead_13 : decode cX5_readHead 13 = .ok (.iconst 0, 1) := by decide +kernel
theorem dX5_readHead_14 : decode cX5_readHead 14 = .ok (.invokevirtual 61, 3) := by decide +kernel
theorem dX5_readHead_17 : decode cX5_readHead 17 = .ok (.ireturn, 1) := by decide +kernel
theorem dX5_readHead_18 : decode cX5_readHead 18 = .ok (.aload_n 0, 1) := by decide +kernel
theorem dX5_readHead_19 : decode cX5_readHead 19 = .ok (.getfield 21, 3) := by decide +kernel
theorem dX5_readHead_22 : decode cX5_readHead 22 = .ok (.getfield 68, 3) := by decide +kernel
theorem dX5_readHead_25 : decode cX5_readHead 25 = .ok (.bipush 14, 2) := by decide +kernel
theorem dX5_readHead_27 : decode cX5_readHead 27 = .ok (.if_icmp .ge 19, 3) := by decide +kernel
theorem dX5_readHead_30 : decode cX5_readHead 30 = .ok (.iload_n 1, 1) := by decide +kernel
theorem dX5_readHead_31 : decode cX5_readHead 31 = .ok (.iconst 3, 1) := by decide +kernel
theorem dX5_readHead_32 : decode cX5_readHead 32 = .ok (.if_icmp .lt 20, 3) := by decide +kernel
theorem dX5_readHead_35 : decode cX5_readHead 35 = .ok (.aload_n 0, 1) := by decide +kernel
theorem dX5_readHead_36 : decode cX5_readHead 36 = .ok (.getfield 21, 3) := by decide +kernel
theorem dX5_readHead_39 : decode cX5_readHead 39 = .ok (.iload_n 1, 1) := by decide +kernel
theorem dX5_readHead_40 : decode cX5_readHead 40 = .ok (.invokevirtual 71, 3) := by decide +kernel
theorem dX5_readHead_43 : decode cX5_readHead 43 = .ok (.ifCond .eq 9, 3) := by decide +kernel
theorem dX5_readHead_46 : decode cX5_readHead 46 = .ok (.aload_n 0, 1) := by decide +kernel
theorem dX5_readHead_47 : decode cX5_readHead 47 = .ok (.iconst 4, 1) := by decide +kernel
theorem dX5_readHead_48 : decode cX5_readHead 48 = .ok (.invokevirtual 61, 3) := by decide +kernel
theorem dX5_readHead_51 : decode cX5_readHead 51 = .ok (.ireturn, 1) := by decide +kernel
theorem dX5_readHead_52 : decode cX5_readHead 52 = .ok (.aload_n 0, 1) := by decide +kernel
theorem dX5_readHead_53 : decode cX5_readHead 53 = .ok (.dup, 1) := by decide +kernel
theorem dX5_readHead_54 : decode cX5_readHead 54 = .ok (.getfield 32, 3) := by decide +kernel
theorem dX5_readHead_57 : decode cX5_readHead 57 = .ok (.iconst 1, 1) := by decide +kernel
theorem dX5_readHead_58 : decode cX5_readHead 58 = .ok (.iadd, 1) := by decide +kernel
theorem dX5_readHead_59 : decode cX5_readHead 59 = .ok (.putfield 32, 3) := by decide +kernel
theorem dX5_readHead_62 : decode cX5_readHead 62 = .ok (.aload_n 0, 1) := by decide +kernel
theorem dX5_readHead_63 : decode cX5_readHead 63 = .ok (.iload_n 1, 1) := by decide +kernel
theorem dX5_readHead_64 : decode cX5_readHead 64 = .ok (.iconst 2, 1) := by decide +kernel
theorem dX5_readHead_65 : decode cX5_readHead 65 = .ok (.if_icmp .ne 7, 3) := by decide +kernel
theorem dX5_readHead_68 : decode cX5_readHead 68 = .ok (.iconst 1, 1) := by decide +kernel
theorem dX5_readHead_69 : decode cX5_readHead 69 = .ok (.goto 4, 3) := by decide +kernel
theorem dX5_readHead_72 : decode cX5_readHead 72 = .ok (.iconst 0, 1) := by decide +kernel
theorem dX5_readHead_73 : decode cX5_readHead 73 = .ok (.putfield 46, 3) := by decide +kernel
theorem dX5_readHead_76 : decode cX5_readHead 76 = .ok (.iload_n 1, 1) := by decide +kernel
theorem dX5_readHead_77 : decode cX5_readHead 77 = .ok (.tableswitch 88 0 4 #[35, 51, 67, 88, 79], 35) := by decide +kernel
theorem dX5_readHead_112 : decode cX5_readHead 112 = .ok (.aload_n 0, 1) := by decide +kernel
theorem dX5_readHead_113 : decode cX5_readHead 113 = .ok (.iload_n 1, 1) := by decide +kernel
theorem dX5_readHead_114 : decode cX5_readHead 114 = .ok (.aload_n 0, 1) := by decide +kernel
theorem dX5_readHead_115 : decode cX5_readHead 115 = .ok (.bipush 6, 2) := by decide +kernel
theorem dX5_readHead_117 : decode cX5_readHead 117 = .ok (.bipush 10, 2) := by decide +kernel
theorem dX5_readHead_119 : decode cX5_readHead 119 = .ok (.invokevirtual 64, 3) := by decide +kernel
theorem dX5_readHead_122 : decode cX5_readHead 122 = .ok (.bipush 9, 2) := by decide +kernel
theorem dX5_readHead_124 : decode cX5_readHead 124 = .ok (.invokevirtual 74, 3) := by decide +kernel
theorem dX5_readHead_127 : decode cX5_readHead 127 = .ok (.ireturn, 1) := by decide +kernel
theorem dX5_readHead_128 : decode cX5_readHead 128 = .ok (.aload_n 0, 1) := by decide +kernel
theorem dX5_readHead_129 : decode cX5_readHead 129 = .ok (.iload_n 1, 1) := by decide +kernel
theorem dX5_readHead_130 : decode cX5_readHead 130 = .ok (.aload_n 0, 1) := by decide +kernel
theorem dX5_readHead_131 : decode cX5_readHead 131 = .ok (.bipush 10, 2) := by decide +kernel
theorem dX5_readHead_133 : decode cX5_readHead 133 = .ok (.bipush 14, 2) := by decide +kernel
theorem dX5_readHead_135 : decode cX5_readHead 135 = .ok (.invokevirtual 64, 3) := by decide +kernel
theorem dX5_readHead_138 : decode cX5_readHead 138 = .ok (.bipush 15, 2) := by decide +kernel
theorem dX5_readHead_140 : decode cX5_readHead 140 = .ok (.invokevirtual 74, 3) := by decide +kernel
theorem dX5_readHead_143 : decode cX5_readHead 143 = .ok (.ireturn, 1) := by decide +kernel
theorem dX5_readHead_144 : decode cX5_readHead 144 = .ok (.aload_n 0, 1) := by decide +kernel
theorem dX5_readHead_145 : decode cX5_readHead 145 = .ok (.getfield 21, 3) := by decide +kernel
theorem dX5_readHead_148 : decode cX5_readHead 148 = .ok (.iload_n 1, 1) := by decide +kernel
theorem dX5_readHead_149 : decode cX5_readHead 149 = .ok (.iconst 0, 1) := by decide +kernel
theorem dX5_readHead_150 : decode cX5_readHead 150 = .ok (.iconst 0, 1) := by decide +kernel
theorem dX5_readHead_151 : decode cX5_readHead 151 = .ok (.invokevirtual 78, 3) := by decide +kernel
theorem dX5_readHead_154 : decode cX5_readHead 154 = .ok (.iconst 1, 1) := by decide +kernel
theorem dX5_readHead_155 : decode cX5_readHead 155 = .ok (.ireturn, 1) := by decide +kernel
theorem dX5_readHead_156 : decode cX5_readHead 156 = .ok (.aload_n 0, 1) := by decide +kernel
theorem dX5_readHead_157 : decode cX5_readHead 157 = .ok (.iload_n 1, 1) := by decide +kernel
theorem dX5_readHead_158 : decode cX5_readHead 158 = .ok (.iconst 1, 1) := by decide +kernel
theorem dX5_readHead_159 : decode cX5_readHead 159 = .ok (.bipush 8, 2) := by decide +kernel
theorem dX5_readHead_161 : decode cX5_readHead 161 = .ok (.invokevirtual 82, 3) := by decide +kernel
theorem dX5_readHead_164 : decode cX5_readHead 164 = .ok (.ireturn, 1) := by decide +kernel
theorem dX5_readHead_165 : decode cX5_readHead 165 = .ok (.aload_n 0, 1) := by decide +kernel
theorem dX5_readHead_166 : decode cX5_readHead 166 = .ok (.iload_n 1, 1) := by decide +kernel
theorem dX5_readHead_167 : decode cX5_readHead 167 = .ok (.iconst 0, 1) := by decide +kernel
theorem dX5_readHead_168 : decode cX5_readHead 168 = .ok (.bipush 15, 2) := by decide +kernel
theorem dX5_readHead_170 : decode cX5_readHead 170 = .ok (.invokevirtual 82, 3) := by decide +kernel
theorem dX5_readHead_173 : decode cX5_readHead 173 = .ok (.ireturn, 1) := by decide +kernel
theorem dX5_readWeight_0 : decode cX5_readWeight 0 = .ok (.iload_n 2, 1) := by decide +kernel
theorem dX5_readWeight_1 : decode cX5_readWeight 1 = .ok (.ifCond .ge 9, 3) := by decide +kernel
theorem dX5_readWeight_4 : decode cX5_readWeight 4 = .ok (.aload_n 0, 1) := by decide +kernel
theorem dX5_readWeight_5 : decode cX5_readWeight 5 = .ok (.iconst 0, 1) := by decide +kernel
theorem dX5_readWeight_6 : decode cX5_readWeight 6 = .ok (.invokevirtual 61, 3) := by decide +kernel
theorem dX5_readWeight_9 : decode cX5_readWeight 9 = .ok (.ireturn, 1) := by decide +kernel
theorem dX5_readWeight_10 : decode cX5_readWeight 10 = .ok (.aload_n 0, 1) := by decide +kernel
theorem dX5_readWeight_11 : decode cX5_readWeight 11 = .ok (.dup, 1) := by decide +kernel
theorem dX5_readWeight_12 : decode cX5_readWeight 12 = .ok (.getfield 32, 3) := by decide +kernel
theorem dX5_readWeight_15 : decode cX5_readWeight 15 = .ok (.iconst 1, 1) := by decide +kernel
theorem dX5_readWeight_16 : decode cX5_readWeight 16 = .ok (.iadd, 1) := by decide +kernel
theorem dX5_readWeight_17 : decode cX5_readWeight 17 = .ok (.putfield 32, 3) := by decide +kernel
theorem dX5_readWeight_20 : decode cX5_readWeight 20 = .ok (.aload_n 0, 1) := by decide +kernel
theorem dX5_readWeight_21 : decode cX5_readWeight 21 = .ok (.getfield 12, 3) := by decide +kernel
theorem dX5_readWeight_24 : decode cX5_readWeight 24 = .ok (.aload_n 0, 1) := by decide +kernel
theorem dX5_readWeight_25 : decode cX5_readWeight 25 = .ok (.getfield 32, 3) := by decide +kernel
theorem dX5_readWeight_28 : decode cX5_readWeight 28 = .ok (.invokevirtual 85, 3) := by decide +kernel
theorem dX5_readWeight_31 : decode cX5_readWeight 31 = .ok (.istore 4, 2) := by decide +kernel
theorem dX5_readWeight_33 : decode cX5_readWeight 33 = .ok (.aload_n 0, 1) := by decide +kernel
theorem dX5_readWeight_34 : decode cX5_readWeight 34 = .ok (.iconst 0, 1) := by decide +kernel
theorem dX5_readWeight_35 : decode cX5_readWeight 35 = .ok (.iload_n 3, 1) := by decide +kernel
theorem dX5_readWeight_36 : decode cX5_readWeight 36 = .ok (.invokevirtual 88, 3) := by decide +kernel
theorem dX5_readWeight_39 : decode cX5_readWeight 39 = .ok (.ifCond .ne 5, 3) := by decide +kernel
theorem dX5_readWeight_42 : decode cX5_readWeight 42 = .ok (.iconst 0, 1) := by decide +kernel
theorem dX5_readWeight_43 : decode cX5_readWeight 43 = .ok (.ireturn, 1) := by decide +kernel
theorem dX5_readWeight_44 : decode cX5_readWeight 44 = .ok (.aload_n 0, 1) := by decide +kernel
theorem dX5_readWeight_45 : decode cX5_readWeight 45 = .ok (.getfield 21, 3) := by decide +kernel
theorem dX5_readWeight_48 : decode cX5_readWeight 48 = .ok (.iload_n 1, 1) := by decide +kernel
theorem dX5_readWeight_49 : decode cX5_readWeight 49 = .ok (.iload_n 2, 1) := by decide +kernel
theorem dX5_readWeight_50 : decode cX5_readWeight 50 = .ok (.iload 4, 2) := by decide +kernel
theorem dX5_readWeight_52 : decode cX5_readWeight 52 = .ok (.invokevirtual 78, 3) := by decide +kernel
theorem dX5_readWeight_55 : decode cX5_readWeight 55 = .ok (.aload_n 0, 1) := by decide +kernel
theorem dX5_readWeight_56 : decode cX5_readWeight 56 = .ok (.aload_n 0, 1) := by decide +kernel
theorem dX5_readWeight_57 : decode cX5_readWeight 57 = .ok (.bipush 14, 2) := by decide +kernel
theorem dX5_readWeight_59 : decode cX5_readWeight 59 = .ok (.invokevirtual 58, 3) := by decide +kernel
theorem dX5_readWeight_62 : decode cX5_readWeight 62 = .ok (.putfield 46, 3) := by decide +kernel
theorem dX5_readWeight_65 : decode cX5_readWeight 65 = .ok (.iconst 1, 1) := by decide +kernel
theorem dX5_readWeight_66 : decode cX5_readWeight 66 = .ok (.ireturn, 1) := by decide +kernel
theorem dX5_readMeasure_0 : decode cX5_readMeasure 0 = .ok (.aload_n 0, 1) := by decide +kernel
theorem dX5_readMeasure_1 : decode cX5_readMeasure 1 = .ok (.getfield 12, 3) := by decide +kernel
theorem dX5_readMeasure_4 : decode cX5_readMeasure 4 = .ok (.aload_n 0, 1) := by decide +kernel
theorem dX5_readMeasure_5 : decode cX5_readMeasure 5 = .ok (.getfield 32, 3) := by decide +kernel
theorem dX5_readMeasure_8 : decode cX5_readMeasure 8 = .ok (.invokevirtual 85, 3) := by decide +kernel
theorem dX5_readMeasure_11 : decode cX5_readMeasure 11 = .ok (.istore 4, 2) := by decide +kernel
theorem dX5_readMeasure_13 : decode cX5_readMeasure 13 = .ok (.aload_n 0, 1) := by decide +kernel
theorem dX5_readMeasure_14 : decode cX5_readMeasure 14 = .ok (.iload_n 2, 1) := by decide +kernel
theorem dX5_readMeasure_15 : decode cX5_readMeasure 15 = .ok (.iload_n 3, 1) := by decide +kernel
theorem dX5_readMeasure_16 : decode cX5_readMeasure 16 = .ok (.invokevirtual 88, 3) := by decide +kernel
theorem dX5_readMeasure_19 : decode cX5_readMeasure 19 = .ok (.ifCond .ne 5, 3) := by decide +kernel
theorem dX5_readMeasure_22 : decode cX5_readMeasure 22 = .ok (.iconst 0, 1) := by decide +kernel
theorem dX5_readMeasure_23 : decode cX5_readMeasure 23 = .ok (.ireturn, 1) := by decide +kernel
theorem dX5_readMeasure_24 : decode cX5_readMeasure 24 = .ok (.aload_n 0, 1) := by decide +kernel
theorem dX5_readMeasure_25 : decode cX5_readMeasure 25 = .ok (.getfield 21, 3) := by decide +kernel
theorem dX5_readMeasure_28 : decode cX5_readMeasure 28 = .ok (.iload_n 1, 1) := by decide +kernel
theorem dX5_readMeasure_29 : decode cX5_readMeasure 29 = .ok (.iconst 0, 1) := by decide +kernel
theorem dX5_readMeasure_30 : decode cX5_readMeasure 30 = .ok (.iload 4, 2) := by decide +kernel
theorem dX5_readMeasure_32 : decode cX5_readMeasure 32 = .ok (.invokevirtual 78, 3) := by decide +kernel
theorem dX5_readMeasure_35 : decode cX5_readMeasure 35 = .ok (.aload_n 0, 1) := by decide +kernel
theorem dX5_readMeasure_36 : decode cX5_readMeasure 36 = .ok (.getfield 21, 3) := by decide +kernel
theorem dX5_readMeasure_39 : decode cX5_readMeasure 39 = .ok (.iload_n 1, 1) := by decide +kernel
theorem dX5_readMeasure_40 : decode cX5_readMeasure 40 = .ok (.iload 4, 2) := by decide +kernel
theorem dX5_readMeasure_42 : decode cX5_readMeasure 42 = .ok (.invokevirtual 92, 3) := by decide +kernel
theorem dX5_readMeasure_45 : decode cX5_readMeasure 45 = .ok (.iconst 1, 1) := by decide +kernel
theorem dX5_readMeasure_46 : decode cX5_readMeasure 46 = .ok (.ireturn, 1) := by decide +kernel
theorem dX5_readTest_0 : decode cX5_readTest 0 = .ok (.aload_n 0, 1) := by decide +kernel
theorem dX5_readTest_1 : decode cX5_readTest 1 = .ok (.iload_n 1, 1) := by decide +kernel
theorem dX5_readTest_2 : decode cX5_readTest 2 = .ok (.invokevirtual 96, 3) := by decide +kernel
theorem dX5_readTest_5 : decode cX5_readTest 5 = .ok (.ifCond .ne 5, 3) := by decide +kernel
theorem dX5_readTest_8 : decode cX5_readTest 8 = .ok (.iconst 0, 1) := by decide +kernel
theorem dX5_readTest_9 : decode cX5_readTest 9 = .ok (.ireturn, 1) := by decide +kernel
theorem dX5_readTest_10 : decode cX5_readTest 10 = .ok (.iconst 0, 1) := by decide +kernel
theorem dX5_readTest_11 : decode cX5_readTest 11 = .ok (.istore_n 2, 1) := by decide +kernel
theorem dX5_readTest_12 : decode cX5_readTest 12 = .ok (.iload_n 2, 1) := by decide +kernel
theorem dX5_readTest_13 : decode cX5_readTest 13 = .ok (.sipush 400, 3) := by decide +kernel
theorem dX5_readTest_16 : decode cX5_readTest 16 = .ok (.if_icmp .ge 38, 3) := by decide +kernel
theorem dX5_readTest_19 : decode cX5_readTest 19 = .ok (.aload_n 0, 1) := by decide +kernel
theorem dX5_readTest_20 : decode cX5_readTest 20 = .ok (.bipush 15, 2) := by decide +kernel
theorem dX5_readTest_22 : decode cX5_readTest 22 = .ok (.invokevirtual 58, 3) := by decide +kernel
theorem dX5_readTest_25 : decode cX5_readTest 25 = .ok (.ifCond .eq 29, 3) := by decide +kernel
theorem dX5_readTest_28 : decode cX5_readTest 28 = .ok (.aload_n 0, 1) := by decide +kernel
theorem dX5_readTest_29 : decode cX5_readTest 29 = .ok (.iload_n 1, 1) := by decide +kernel
theorem dX5_readTest_30 : decode cX5_readTest 30 = .ok (.invokevirtual 96, 3) := by decide +kernel
theorem dX5_readTest_33 : decode cX5_readTest 33 = .ok (.ifCond .ne 5, 3) := by decide +kernel
theorem dX5_readTest_36 : decode cX5_readTest 36 = .ok (.iconst 0, 1) := by decide +kernel
theorem dX5_readTest_37 : decode cX5_readTest 37 = .ok (.ireturn, 1) := by decide +kernel
theorem dX5_readTest_38 : decode cX5_readTest 38 = .ok (.aload_n 0, 1) := by decide +kernel
theorem dX5_readTest_39 : decode cX5_readTest 39 = .ok (.getfield 21, 3) := by decide +kernel
theorem dX5_readTest_42 : decode cX5_readTest 42 = .ok (.sipush 20009, 3) := by decide +kernel
theorem dX5_readTest_45 : decode cX5_readTest 45 = .ok (.invokevirtual 99, 3) := by decide +kernel
theorem dX5_readTest_48 : decode cX5_readTest 48 = .ok (.iinc 2 1, 3) := by decide +kernel
theorem dX5_readTest_51 : decode cX5_readTest 51 = .ok (.goto (-39), 3) := by decide +kernel
theorem dX5_readTest_54 : decode cX5_readTest 54 = .ok (.iconst 1, 1) := by decide +kernel
theorem dX5_readTest_55 : decode cX5_readTest 55 = .ok (.ireturn, 1) := by decide +kernel
theorem dX5_readPart_0 : decode cX5_readPart 0 = .ok (.aload_n 0, 1) := by decide +kernel
theorem dX5_readPart_1 : decode cX5_readPart 1 = .ok (.iload_n 1, 1) := by decide +kernel
theorem dX5_readPart_2 : decode cX5_readPart 2 = .ok (.invokevirtual 103, 3) := by decide +kernel
theorem dX5_readPart_5 : decode cX5_readPart 5 = .ok (.ifCond .ne 5, 3) := by decide +kernel
theorem dX5_readPart_8 : decode cX5_readPart 8 = .ok (.iconst 0, 1) := by decide +kernel
theorem dX5_readPart_9 : decode cX5_readPart 9 = .ok (.ireturn, 1) := by decide +kernel
theorem dX5_readPart_10 : decode cX5_readPart 10 = .ok (.iconst 0, 1) := by decide +kernel
theorem dX5_readPart_11 : decode cX5_readPart 11 = .ok (.istore_n 2, 1) := by decide +kernel
theorem dX5_readPart_12 : decode cX5_readPart 12 = .ok (.iload_n 2, 1) := by decide +kernel
theorem dX5_readPart_13 : decode cX5_readPart 13 = .ok (.sipush 400, 3) := by decide +kernel
theorem dX5_readPart_16 : decode cX5_readPart 16 = .ok (.if_icmp .ge 38, 3) := by decide +kernel
theorem dX5_readPart_19 : decode cX5_readPart 19 = .ok (.aload_n 0, 1) := by decide +kernel
theorem dX5_readPart_20 : decode cX5_readPart 20 = .ok (.bipush 16, 2) := by decide +kernel
theorem dX5_readPart_22 : decode cX5_readPart 22 = .ok (.invokevirtual 58, 3) := by decide +kernel
theorem dX5_readPart_25 : decode cX5_readPart 25 = .ok (.ifCond .eq 29, 3) := by decide +kernel
theorem dX5_readPart_28 : decode cX5_readPart 28 = .ok (.aload_n 0, 1) := by decide +kernel
theorem dX5_readPart_29 : decode cX5_readPart 29 = .ok (.iload_n 1, 1) := by decide +kernel
theorem dX5_readPart_30 : decode cX5_readPart 30 = .ok (.invokevirtual 103, 3) := by decide +kernel
theorem dX5_readPart_33 : decode cX5_readPart 33 = .ok (.ifCond .ne 5, 3) := by decide +kernel
theorem dX5_readPart_36 : decode cX5_readPart 36 = .ok (.iconst 0, 1) := by decide +kernel
theorem dX5_readPart_37 : decode cX5_readPart 37 = .ok (.ireturn, 1) := by decide +kernel
theorem dX5_readPart_38 : decode cX5_readPart 38 = .ok (.aload_n 0, 1) := by decide +kernel
theorem dX5_readPart_39 : decode cX5_readPart 39 = .ok (.getfield 21, 3) := by decide +kernel
theorem dX5_readPart_42 : decode cX5_readPart 42 = .ok (.sipush 20008, 3) := by decide +kernel
theorem dX5_readPart_45 : decode cX5_readPart 45 = .ok (.invokevirtual 99, 3) := by decide +kernel
theorem dX5_readPart_48 : decode cX5_readPart 48 = .ok (.iinc 2 1, 3) := by decide +kernel
theorem dX5_readPart_51 : decode cX5_readPart 51 = .ok (.goto (-39), 3) := by decide +kernel
theorem dX5_readPart_54 : decode cX5_readPart 54 = .ok (.iconst 1, 1) := by decide +kernel
theorem dX5_readPart_55 : decode cX5_readPart 55 = .ok (.ireturn, 1) := by decide +kernel
theorem dX5_readFact_0 : decode cX5_readFact 0 = .ok (.aload_n 0, 1) := by decide +kernel
theorem dX5_readFact_1 : decode cX5_readFact 1 = .ok (.getfield 12, 3) := by decide +kernel
theorem dX5_readFact_4 : decode cX5_readFact 4 = .ok (.aload_n 0, 1) := by decide +kernel
theorem dX5_readFact_5 : decode cX5_readFact 5 = .ok (.getfield 32, 3) := by decide +kernel
theorem dX5_readFact_8 : decode cX5_readFact 8 = .ok (.invokevirtual 54, 3) := by decide +kernel
theorem dX5_readFact_11 : decode cX5_readFact 11 = .ok (.istore_n 2, 1) := by decide +kernel
theorem dX5_readFact_12 : decode cX5_readFact 12 = .ok (.iload_n 2, 1) := by decide +kernel
theorem dX5_readFact_13 : decode cX5_readFact 13 = .ok (.sipush 347, 3) := by decide +kernel
theorem dX5_readFact_16 : decode cX5_readFact 16 = .ok (.if_icmp .ne 7, 3) := by decide +kernel
theorem dX5_readFact_19 : decode cX5_readFact 19 = .ok (.iconst 1, 1) := by decide +kernel
theorem dX5_readFact_20 : decode cX5_readFact 20 = .ok (.goto 4, 3) := by decide +kernel
theorem dX5_readFact_23 : decode cX5_readFact 23 = .ok (.iconst 0, 1) := by decide +kernel
theorem dX5_readFact_24 : decode cX5_readFact 24 = .ok (.istore_n 3, 1) := by decide +kernel
theorem dX5_readFact_25 : decode cX5_readFact 25 = .ok (.iload_n 3, 1) := by decide +kernel
theorem dX5_readFact_26 : decode cX5_readFact 26 = .ok (.ifCond .ne 72, 3) := by decide +kernel
theorem dX5_readFact_29 : decode cX5_readFact 29 = .ok (.iload_n 2, 1) := by decide +kernel
theorem dX5_readFact_30 : decode cX5_readFact 30 = .ok (.bipush 17, 2) := by decide +kernel
theorem dX5_readFact_32 : decode cX5_readFact 32 = .ok (.if_icmp .eq 66, 3) := by decide +kernel
theorem dX5_readFact_35 : decode cX5_readFact 35 = .ok (.aload_n 0, 1) := by decide +kernel
theorem dX5_readFact_36 : decode cX5_readFact 36 = .ok (.invokevirtual 106, 3) := by decide +kernel
theorem dX5_readFact_39 : decode cX5_readFact 39 = .ok (.ifCond .ne 5, 3) := by decide +kernel
theorem dX5_readFact_42 : decode cX5_readFact 42 = .ok (.iconst 0, 1) := by decide +kernel
theorem dX5_readFact_43 : decode cX5_readFact 43 = .ok (.ireturn, 1) := by decide +kernel
theorem dX5_readFact_44 : decode cX5_readFact 44 = .ok (.aload_n 0, 1) := by decide +kernel
theorem dX5_readFact_45 : decode cX5_readFact 45 = .ok (.getfield 12, 3) := by decide +kernel
theorem dX5_readFact_48 : decode cX5_readFact 48 = .ok (.aload_n 0, 1) := by decide +kernel
theorem dX5_readFact_49 : decode cX5_readFact 49 = .ok (.getfield 32, 3) := by decide +kernel
theorem dX5_readFact_52 : decode cX5_readFact 52 = .ok (.invokevirtual 54, 3) := by decide +kernel
theorem dX5_readFact_55 : decode cX5_readFact 55 = .ok (.invokestatic 109, 3) := by decide +kernel
theorem dX5_readFact_58 : decode cX5_readFact 58 = .ok (.istore 4, 2) := by decide +kernel
theorem dX5_readFact_60 : decode cX5_readFact 60 = .ok (.iload 4, 2) := by decide +kernel
theorem dX5_readFact_62 : decode cX5_readFact 62 = .ok (.ifCond .ge 9, 3) := by decide +kernel
theorem dX5_readFact_65 : decode cX5_readFact 65 = .ok (.aload_n 0, 1) := by decide +kernel
theorem dX5_readFact_66 : decode cX5_readFact 66 = .ok (.iconst 0, 1) := by decide +kernel
theorem dX5_readFact_67 : decode cX5_readFact 67 = .ok (.invokevirtual 61, 3) := by decide +kernel
theorem dX5_readFact_70 : decode cX5_readFact 70 = .ok (.ireturn, 1) := by decide +kernel
theorem dX5_readFact_71 : decode cX5_readFact 71 = .ok (.aload_n 0, 1) := by decide +kernel
theorem dX5_readFact_72 : decode cX5_readFact 72 = .ok (.invokevirtual 112, 3) := by decide +kernel
theorem dX5_readFact_75 : decode cX5_readFact 75 = .ok (.ifCond .eq 10, 3) := by decide +kernel
theorem dX5_readFact_78 : decode cX5_readFact 78 = .ok (.aload_n 0, 1) := by decide +kernel
theorem dX5_readFact_79 : decode cX5_readFact 79 = .ok (.invokevirtual 106, 3) := by decide +kernel
theorem dX5_readFact_82 : decode cX5_readFact 82 = .ok (.ifCond .ne 5, 3) := by decide +kernel
theorem dX5_readFact_85 : decode cX5_readFact 85 = .ok (.iconst 0, 1) := by decide +kernel
theorem dX5_readFact_86 : decode cX5_readFact 86 = .ok (.ireturn, 1) := by decide +kernel
theorem dX5_readFact_87 : decode cX5_readFact 87 = .ok (.aload_n 0, 1) := by decide +kernel
theorem dX5_readFact_88 : decode cX5_readFact 88 = .ok (.getfield 21, 3) := by decide +kernel
theorem dX5_readFact_91 : decode cX5_readFact 91 = .ok (.iload 4, 2) := by decide +kernel
theorem dX5_readFact_93 : decode cX5_readFact 93 = .ok (.invokevirtual 99, 3) := by decide +kernel
theorem dX5_readFact_96 : decode cX5_readFact 96 = .ok (.iconst 1, 1) := by decide +kernel
theorem dX5_readFact_97 : decode cX5_readFact 97 = .ok (.ireturn, 1) := by decide +kernel
theorem dX5_readFact_98 : decode cX5_readFact 98 = .ok (.iload_n 1, 1) := by decide +kernel
theorem dX5_readFact_99 : decode cX5_readFact 99 = .ok (.bipush 10, 2) := by decide +kernel
theorem dX5_readFact_101 : decode cX5_readFact 101 = .ok (.if_icmp .lt 9, 3) := by decide +kernel
theorem dX5_readFact_104 : decode cX5_readFact 104 = .ok (.aload_n 0, 1) := by decide +kernel
theorem dX5_readFact_105 : decode cX5_readFact 105 = .ok (.iconst 2, 1) := by decide +kernel
theorem dX5_readFact_106 : decode cX5_readFact 106 = .ok (.invokevirtual 61, 3) := by decide +kernel
theorem dX5_readFact_109 : decode cX5_readFact 109 = .ok (.ireturn, 1) := by decide +kernel
theorem dX5_readFact_110 : decode cX5_readFact 110 = .ok (.aload_n 0, 1) := by decide +kernel
theorem dX5_readFact_111 : decode cX5_readFact 111 = .ok (.dup, 1) := by decide +kernel
theorem dX5_readFact_112 : decode cX5_readFact 112 = .ok (.getfield 32, 3) := by decide +kernel
theorem dX5_readFact_115 : decode cX5_readFact 115 = .ok (.iconst 1, 1) := by decide +kernel
theorem dX5_readFact_116 : decode cX5_readFact 116 = .ok (.iadd, 1) := by decide +kernel
theorem dX5_readFact_117 : decode cX5_readFact 117 = .ok (.putfield 32, 3) := by decide +kernel
theorem dX5_readFact_120 : decode cX5_readFact 120 = .ok (.iload_n 3, 1) := by decide +kernel
theorem dX5_readFact_121 : decode cX5_readFact 121 = .ok (.ifCond .eq 37, 3) := by decide +kernel
theorem dX5_readFact_124 : decode cX5_readFact 124 = .ok (.aload_n 0, 1) := by decide +kernel
theorem dX5_readFact_125 : decode cX5_readFact 125 = .ok (.iload_n 1, 1) := by decide +kernel
theorem dX5_readFact_126 : decode cX5_readFact 126 = .ok (.iconst 1, 1) := by decide +kernel
theorem dX5_readFact_127 : decode cX5_readFact 127 = .ok (.iadd, 1) := by decide +kernel
theorem dX5_readFact_128 : decode cX5_readFact 128 = .ok (.invokevirtual 50, 3) := by decide +kernel
theorem dX5_readFact_131 : decode cX5_readFact 131 = .ok (.ifCond .eq 25, 3) := by decide +kernel
theorem dX5_readFact_134 : decode cX5_readFact 134 = .ok (.aload_n 0, 1) := by decide +kernel
theorem dX5_readFact_135 : decode cX5_readFact 135 = .ok (.sipush 349, 3) := by decide +kernel
theorem dX5_readFact_138 : decode cX5_readFact 138 = .ok (.invokevirtual 58, 3) := by decide +kernel
theorem dX5_readFact_141 : decode cX5_readFact 141 = .ok (.ifCond .ne 11, 3) := by decide +kernel
theorem dX5_readFact_144 : decode cX5_readFact 144 = .ok (.aload_n 0, 1) := by decide +kernel
theorem dX5_readFact_145 : decode cX5_readFact 145 = .ok (.iconst 0, 1) := by decide +kernel
theorem dX5_readFact_146 : decode cX5_readFact 146 = .ok (.invokevirtual 61, 3) := by decide +kernel
theorem dX5_readFact_149 : decode cX5_readFact 149 = .ok (.ifCond .eq 7, 3) := by decide +kernel
theorem dX5_readFact_152 : decode cX5_readFact 152 = .ok (.iconst 1, 1) := by decide +kernel
theorem dX5_readFact_153 : decode cX5_readFact 153 = .ok (.goto 4, 3) := by decide +kernel
theorem dX5_readFact_156 : decode cX5_readFact 156 = .ok (.iconst 0, 1) := by decide +kernel
theorem dX5_readFact_157 : decode cX5_readFact 157 = .ok (.ireturn, 1) := by decide +kernel
theorem dX5_readFact_158 : decode cX5_readFact 158 = .ok (.aload_n 0, 1) := by decide +kernel
theorem dX5_readFact_159 : decode cX5_readFact 159 = .ok (.iload_n 1, 1) := by decide +kernel
theorem dX5_readFact_160 : decode cX5_readFact 160 = .ok (.iconst 1, 1) := by decide +kernel
theorem dX5_readFact_161 : decode cX5_readFact 161 = .ok (.iadd, 1) := by decide +kernel
theorem dX5_readFact_162 : decode cX5_readFact 162 = .ok (.invokevirtual 103, 3) := by decide +kernel
theorem dX5_readFact_165 : decode cX5_readFact 165 = .ok (.ifCond .ne 5, 3) := by decide +kernel
theorem dX5_readFact_168 : decode cX5_readFact 168 = .ok (.iconst 0, 1) := by decide +kernel
theorem dX5_readFact_169 : decode cX5_readFact 169 = .ok (.ireturn, 1) := by decide +kernel
theorem dX5_readFact_170 : decode cX5_readFact 170 = .ok (.aload_n 0, 1) := by decide +kernel
theorem dX5_readFact_171 : decode cX5_readFact 171 = .ok (.getfield 21, 3) := by decide +kernel
theorem dX5_readFact_174 : decode cX5_readFact 174 = .ok (.sipush 20007, 3) := by decide +kernel
theorem dX5_readFact_177 : decode cX5_readFact 177 = .ok (.invokevirtual 99, 3) := by decide +kernel
theorem dX5_readFact_180 : decode cX5_readFact 180 = .ok (.iconst 1, 1) := by decide +kernel
theorem dX5_readFact_181 : decode cX5_readFact 181 = .ok (.ireturn, 1) := by decide +kernel
theorem dX5_comparisonOf_0 : decode cX5_comparisonOf 0 = .ok (.iload_n 0, 1) := by decide +kernel
theorem dX5_comparisonOf_1 : decode cX5_comparisonOf 1 = .ok (.lookupswitch 71 #[(316, 51), (317, 59), (318, 67), (572, 55), (574, 63)], 51) := by decide +kernel
theorem dX5_comparisonOf_52 : decode cX5_comparisonOf 52 = .ok (.sipush 20002, 3) := by decide +kernel
theorem dX5_comparisonOf_55 : decode cX5_comparisonOf 55 = .ok (.ireturn, 1) := by decide +kernel
theorem dX5_comparisonOf_56 : decode cX5_comparisonOf 56 = .ok (.sipush 20003, 3) := by decide +kernel
theorem dX5_comparisonOf_59 : decode cX5_comparisonOf 59 = .ok (.ireturn, 1) := by decide +kernel
theorem dX5_comparisonOf_60 : decode cX5_comparisonOf 60 = .ok (.sipush 20004, 3) := by decide +kernel
theorem dX5_comparisonOf_63 : decode cX5_comparisonOf 63 = .ok (.ireturn, 1) := by decide +kernel
theorem dX5_comparisonOf_64 : decode cX5_comparisonOf 64 = .ok (.sipush 20005, 3) := by decide +kernel
theorem dX5_comparisonOf_67 : decode cX5_comparisonOf 67 = .ok (.ireturn, 1) := by decide +kernel
theorem dX5_comparisonOf_68 : decode cX5_comparisonOf 68 = .ok (.sipush 20006, 3) := by decide +kernel
theorem dX5_comparisonOf_71 : decode cX5_comparisonOf 71 = .ok (.ireturn, 1) := by decide +kernel
theorem dX5_comparisonOf_72 : decode cX5_comparisonOf 72 = .ok (.iconst (-1), 1) := by decide +kernel
theorem dX5_comparisonOf_73 : decode cX5_comparisonOf 73 = .ok (.ireturn, 1) := by decide +kernel
theorem dX5_readSum_0 : decode cX5_readSum 0 = .ok (.aload_n 0, 1) := by decide +kernel
theorem dX5_readSum_1 : decode cX5_readSum 1 = .ok (.invokevirtual 115, 3) := by decide +kernel
theorem dX5_readSum_4 : decode cX5_readSum 4 = .ok (.ifCond .ne 5, 3) := by decide +kernel
theorem dX5_readSum_7 : decode cX5_readSum 7 = .ok (.iconst 0, 1) := by decide +kernel
theorem dX5_readSum_8 : decode cX5_readSum 8 = .ok (.ireturn, 1) := by decide +kernel
theorem dX5_readSum_9 : decode cX5_readSum 9 = .ok (.iconst 0, 1) := by decide +kernel
theorem dX5_readSum_10 : decode cX5_readSum 10 = .ok (.istore_n 1, 1) := by decide +kernel
theorem dX5_readSum_11 : decode cX5_readSum 11 = .ok (.iload_n 1, 1) := by decide +kernel
theorem dX5_readSum_12 : decode cX5_readSum 12 = .ok (.sipush 400, 3) := by decide +kernel
theorem dX5_readSum_15 : decode cX5_readSum 15 = .ok (.if_icmp .ge 62, 3) := by decide +kernel
theorem dX5_readSum_18 : decode cX5_readSum 18 = .ok (.aload_n 0, 1) := by decide +kernel
theorem dX5_readSum_19 : decode cX5_readSum 19 = .ok (.sipush 299, 3) := by decide +kernel
theorem dX5_readSum_22 : decode cX5_readSum 22 = .ok (.invokevirtual 58, 3) := by decide +kernel
theorem dX5_readSum_25 : decode cX5_readSum 25 = .ok (.istore_n 2, 1) := by decide +kernel
theorem dX5_readSum_26 : decode cX5_readSum 26 = .ok (.iload_n 2, 1) := by decide +kernel
theorem dX5_readSum_27 : decode cX5_readSum 27 = .ok (.ifCond .ne 15, 3) := by decide +kernel
theorem dX5_readSum_30 : decode cX5_readSum 30 = .ok (.aload_n 0, 1) := by decide +kernel
theorem dX5_readSum_31 : decode cX5_readSum 31 = .ok (.sipush 301, 3) := by decide +kernel
theorem dX5_readSum_34 : decode cX5_readSum 34 = .ok (.invokevirtual 58, 3) := by decide +kernel
theorem dX5_readSum_37 : decode cX5_readSum 37 = .ok (.ifCond .ne 5, 3) := by decide +kernel
theorem dX5_readSum_40 : decode cX5_readSum 40 = .ok (.iconst 1, 1) := by decide +kernel
theorem dX5_readSum_41 : decode cX5_readSum 41 = .ok (.ireturn, 1) := by decide +kernel
theorem dX5_readSum_42 : decode cX5_readSum 42 = .ok (.aload_n 0, 1) := by decide +kernel
theorem dX5_readSum_43 : decode cX5_readSum 43 = .ok (.invokevirtual 115, 3) := by decide +kernel
theorem dX5_readSum_46 : decode cX5_readSum 46 = .ok (.ifCond .ne 5, 3) := by decide +kernel
theorem dX5_readSum_49 : decode cX5_readSum 49 = .ok (.iconst 0, 1) := by decide +kernel
theorem dX5_readSum_50 : decode cX5_readSum 50 = .ok (.ireturn, 1) := by decide +kernel
theorem dX5_readSum_51 : decode cX5_readSum 51 = .ok (.aload_n 0, 1) := by decide +kernel
theorem dX5_readSum_52 : decode cX5_readSum 52 = .ok (.getfield 21, 3) := by decide +kernel
theorem dX5_readSum_55 : decode cX5_readSum 55 = .ok (.iload_n 2, 1) := by decide +kernel
theorem dX5_readSum_56 : decode cX5_readSum 56 = .ok (.ifCond .eq 9, 3) := by decide +kernel
theorem dX5_readSum_59 : decode cX5_readSum 59 = .ok (.sipush 20000, 3) := by decide +kernel
theorem dX5_readSum_62 : decode cX5_readSum 62 = .ok (.goto 6, 3) := by decide +kernel
theorem dX5_readSum_65 : decode cX5_readSum 65 = .ok (.sipush 20001, 3) := by decide +kernel
theorem dX5_readSum_68 : decode cX5_readSum 68 = .ok (.invokevirtual 99, 3) := by decide +kernel
theorem dX5_readSum_71 : decode cX5_readSum 71 = .ok (.iinc 1 1, 3) := by decide +kernel
theorem dX5_readSum_74 : decode cX5_readSum 74 = .ok (.goto (-63), 3) := by decide +kernel
theorem dX5_readSum_77 : decode cX5_readSum 77 = .ok (.iconst 1, 1) := by decide +kernel
theorem dX5_readSum_78 : decode cX5_readSum 78 = .ok (.ireturn, 1) := by decide +kernel
theorem dX5_readValue_0 : decode cX5_readValue 0 = .ok (.aload_n 0, 1) := by decide +kernel
theorem dX5_readValue_1 : decode cX5_readValue 1 = .ok (.bipush 18, 2) := by decide +kernel
theorem dX5_readValue_3 : decode cX5_readValue 3 = .ok (.bipush 28, 2) := by decide +kernel
theorem dX5_readValue_5 : decode cX5_readValue 5 = .ok (.invokevirtual 64, 3) := by decide +kernel
theorem dX5_readValue_8 : decode cX5_readValue 8 = .ok (.istore_n 1, 1) := by decide +kernel
theorem dX5_readValue_9 : decode cX5_readValue 9 = .ok (.iload_n 1, 1) := by decide +kernel
theorem dX5_readValue_10 : decode cX5_readValue 10 = .ok (.ifCond .ge 25, 3) := by decide +kernel
theorem dX5_readValue_13 : decode cX5_readValue 13 = .ok (.aload_n 0, 1) := by decide +kernel
theorem dX5_readValue_14 : decode cX5_readValue 14 = .ok (.getfield 12, 3) := by decide +kernel
theorem dX5_readValue_17 : decode cX5_readValue 17 = .ok (.aload_n 0, 1) := by decide +kernel
theorem dX5_readValue_18 : decode cX5_readValue 18 = .ok (.getfield 32, 3) := by decide +kernel
theorem dX5_readValue_21 : decode cX5_readValue 21 = .ok (.invokevirtual 54, 3) := by decide +kernel
theorem dX5_readValue_24 : decode cX5_readValue 24 = .ok (.bipush 30, 2) := by decide +kernel
theorem dX5_readValue_26 : decode cX5_readValue 26 = .ok (.if_icmp .eq 9, 3) := by decide +kernel
theorem dX5_readValue_29 : decode cX5_readValue 29 = .ok (.aload_n 0, 1) := by decide +kernel
theorem dX5_readValue_30 : decode cX5_readValue 30 = .ok (.iconst 0, 1) := by decide +kernel
theorem dX5_readValue_31 : decode cX5_readValue 31 = .ok (.invokevirtual 61, 3) := by decide +kernel
theorem dX5_readValue_34 : decode cX5_readValue 34 = .ok (.ireturn, 1) := by decide +kernel
theorem dX5_readValue_35 : decode cX5_readValue 35 = .ok (.aload_n 0, 1) := by decide +kernel
theorem dX5_readValue_36 : decode cX5_readValue 36 = .ok (.getfield 12, 3) := by decide +kernel
theorem dX5_readValue_39 : decode cX5_readValue 39 = .ok (.aload_n 0, 1) := by decide +kernel
theorem dX5_readValue_40 : decode cX5_readValue 40 = .ok (.getfield 32, 3) := by decide +kernel
theorem dX5_readValue_43 : decode cX5_readValue 43 = .ok (.invokevirtual 85, 3) := by decide +kernel
theorem dX5_readValue_46 : decode cX5_readValue 46 = .ok (.istore_n 2, 1) := by decide +kernel
theorem dX5_readValue_47 : decode cX5_readValue 47 = .ok (.iload_n 2, 1) := by decide +kernel
theorem dX5_readValue_48 : decode cX5_readValue 48 = .ok (.iconst (-1), 1) := by decide +kernel
theorem dX5_readValue_49 : decode cX5_readValue 49 = .ok (.if_icmp .ne 9, 3) := by decide +kernel
theorem dX5_readValue_52 : decode cX5_readValue 52 = .ok (.aload_n 0, 1) := by decide +kernel
theorem dX5_readValue_53 : decode cX5_readValue 53 = .ok (.iconst 1, 1) := by decide +kernel
theorem dX5_readValue_54 : decode cX5_readValue 54 = .ok (.invokevirtual 61, 3) := by decide +kernel
theorem dX5_readValue_57 : decode cX5_readValue 57 = .ok (.ireturn, 1) := by decide +kernel
theorem dX5_readValue_58 : decode cX5_readValue 58 = .ok (.aload_n 0, 1) := by decide +kernel
theorem dX5_readValue_59 : decode cX5_readValue 59 = .ok (.invokevirtual 112, 3) := by decide +kernel
theorem dX5_readValue_62 : decode cX5_readValue 62 = .ok (.ifCond .ne 5, 3) := by decide +kernel
theorem dX5_readValue_65 : decode cX5_readValue 65 = .ok (.iconst 0, 1) := by decide +kernel
theorem dX5_readValue_66 : decode cX5_readValue 66 = .ok (.ireturn, 1) := by decide +kernel
theorem dX5_readValue_67 : decode cX5_readValue 67 = .ok (.aload_n 0, 1) := by decide +kernel
theorem dX5_readValue_68 : decode cX5_readValue 68 = .ok (.getfield 21, 3) := by decide +kernel
theorem dX5_readValue_71 : decode cX5_readValue 71 = .ok (.iload_n 1, 1) := by decide +kernel
theorem dX5_readValue_72 : decode cX5_readValue 72 = .ok (.ifCond .ge 7, 3) := by decide +kernel
theorem dX5_readValue_75 : decode cX5_readValue 75 = .ok (.iload_n 2, 1) := by decide +kernel
theorem dX5_readValue_76 : decode cX5_readValue 76 = .ok (.goto 8, 3) := by decide +kernel
theorem dX5_readValue_79 : decode cX5_readValue 79 = .ok (.sipush 10000, 3) := by decide +kernel
theorem dX5_readValue_82 : decode cX5_readValue 82 = .ok (.iload_n 1, 1) := by decide +kernel
theorem dX5_readValue_83 : decode cX5_readValue 83 = .ok (.iadd, 1) := by decide +kernel
theorem dX5_readValue_84 : decode cX5_readValue 84 = .ok (.invokevirtual 99, 3) := by decide +kernel
theorem dX5_readValue_87 : decode cX5_readValue 87 = .ok (.iconst 1, 1) := by decide +kernel
theorem dX5_readValue_88 : decode cX5_readValue 88 = .ok (.ireturn, 1) := by decide +kernel
theorem dX5_takesPart_0 : decode cX5_takesPart 0 = .ok (.aload_n 0, 1) := by decide +kernel
theorem dX5_takesPart_1 : decode cX5_takesPart 1 = .ok (.getfield 36, 3) := by decide +kernel
theorem dX5_takesPart_4 : decode cX5_takesPart 4 = .ok (.bipush 50, 2) := by decide +kernel
theorem dX5_takesPart_6 : decode cX5_takesPart 6 = .ok (.if_icmp .lt 9, 3) := by decide +kernel
theorem dX5_takesPart_9 : decode cX5_takesPart 9 = .ok (.aload_n 0, 1) := by decide +kernel
theorem dX5_takesPart_10 : decode cX5_takesPart 10 = .ok (.iconst 3, 1) := by decide +kernel
theorem dX5_takesPart_11 : decode cX5_takesPart 11 = .ok (.invokevirtual 61, 3) := by decide +kernel
theorem dX5_takesPart_14 : decode cX5_takesPart 14 = .ok (.ireturn, 1) := by decide +kernel
theorem dX5_takesPart_15 : decode cX5_takesPart 15 = .ok (.aload_n 0, 1) := by decide +kernel
theorem dX5_takesPart_16 : decode cX5_takesPart 16 = .ok (.dup, 1) := by decide +kernel
theorem dX5_takesPart_17 : decode cX5_takesPart 17 = .ok (.getfield 36, 3) := by decide +kernel
theorem dX5_takesPart_20 : decode cX5_takesPart 20 = .ok (.iconst 1, 1) := by decide +kernel
theorem dX5_takesPart_21 : decode cX5_takesPart 21 = .ok (.iadd, 1) := by decide +kernel
theorem dX5_takesPart_22 : decode cX5_takesPart 22 = .ok (.putfield 36, 3) := by decide +kernel
theorem dX5_takesPart_25 : decode cX5_takesPart 25 = .ok (.aload_n 0, 1) := by decide +kernel
theorem dX5_takesPart_26 : decode cX5_takesPart 26 = .ok (.dup, 1) := by decide +kernel
theorem dX5_takesPart_27 : decode cX5_takesPart 27 = .ok (.getfield 32, 3) := by decide +kernel
theorem dX5_takesPart_30 : decode cX5_takesPart 30 = .ok (.iconst 1, 1) := by decide +kernel
theorem dX5_takesPart_31 : decode cX5_takesPart 31 = .ok (.iadd, 1) := by decide +kernel
theorem dX5_takesPart_32 : decode cX5_takesPart 32 = .ok (.putfield 32, 3) := by decide +kernel
theorem dX5_takesPart_35 : decode cX5_takesPart 35 = .ok (.iconst 1, 1) := by decide +kernel
theorem dX5_takesPart_36 : decode cX5_takesPart 36 = .ok (.ireturn, 1) := by decide +kernel
theorem dX5_takesNumber_0 : decode cX5_takesNumber 0 = .ok (.aload_n 0, 1) := by decide +kernel
theorem dX5_takesNumber_1 : decode cX5_takesNumber 1 = .ok (.getfield 12, 3) := by decide +kernel
theorem dX5_takesNumber_4 : decode cX5_takesNumber 4 = .ok (.aload_n 0, 1) := by decide +kernel
theorem dX5_takesNumber_5 : decode cX5_takesNumber 5 = .ok (.getfield 32, 3) := by decide +kernel
theorem dX5_takesNumber_8 : decode cX5_takesNumber 8 = .ok (.invokevirtual 54, 3) := by decide +kernel
theorem dX5_takesNumber_11 : decode cX5_takesNumber 11 = .ok (.bipush 30, 2) := by decide +kernel
theorem dX5_takesNumber_13 : decode cX5_takesNumber 13 = .ok (.if_icmp .eq 9, 3) := by decide +kernel
theorem dX5_takesNumber_16 : decode cX5_takesNumber 16 = .ok (.aload_n 0, 1) := by decide +kernel
theorem dX5_takesNumber_17 : decode cX5_takesNumber 17 = .ok (.iconst 0, 1) := by decide +kernel
theorem dX5_takesNumber_18 : decode cX5_takesNumber 18 = .ok (.invokevirtual 61, 3) := by decide +kernel
theorem dX5_takesNumber_21 : decode cX5_takesNumber 21 = .ok (.ireturn, 1) := by decide +kernel
theorem dX5_takesNumber_22 : decode cX5_takesNumber 22 = .ok (.aload_n 0, 1) := by decide +kernel
theorem dX5_takesNumber_23 : decode cX5_takesNumber 23 = .ok (.getfield 12, 3) := by decide +kernel
theorem dX5_takesNumber_26 : decode cX5_takesNumber 26 = .ok (.aload_n 0, 1) := by decide +kernel
theorem dX5_takesNumber_27 : decode cX5_takesNumber 27 = .ok (.getfield 32, 3) := by decide +kernel
theorem dX5_takesNumber_30 : decode cX5_takesNumber 30 = .ok (.invokevirtual 85, 3) := by decide +kernel
theorem dX5_takesNumber_33 : decode cX5_takesNumber 33 = .ok (.iload_n 1, 1) := by decide +kernel
theorem dX5_takesNumber_34 : decode cX5_takesNumber 34 = .ok (.iload_n 2, 1) := by decide +kernel
theorem dX5_takesNumber_35 : decode cX5_takesNumber 35 = .ok (.invokestatic 118, 3) := by decide +kernel
theorem dX5_takesNumber_38 : decode cX5_takesNumber 38 = .ok (.ifCond .ne 9, 3) := by decide +kernel
theorem dX5_takesNumber_41 : decode cX5_takesNumber 41 = .ok (.aload_n 0, 1) := by decide +kernel
theorem dX5_takesNumber_42 : decode cX5_takesNumber 42 = .ok (.iconst 1, 1) := by decide +kernel
theorem dX5_takesNumber_43 : decode cX5_takesNumber 43 = .ok (.invokevirtual 61, 3) := by decide +kernel
theorem dX5_takesNumber_46 : decode cX5_takesNumber 46 = .ok (.ireturn, 1) := by decide +kernel
theorem dX5_takesNumber_47 : decode cX5_takesNumber 47 = .ok (.aload_n 0, 1) := by decide +kernel
theorem dX5_takesNumber_48 : decode cX5_takesNumber 48 = .ok (.dup, 1) := by decide +kernel
theorem dX5_takesNumber_49 : decode cX5_takesNumber 49 = .ok (.getfield 32, 3) := by decide +kernel
theorem dX5_takesNumber_52 : decode cX5_takesNumber 52 = .ok (.iconst 1, 1) := by decide +kernel
theorem dX5_takesNumber_53 : decode cX5_takesNumber 53 = .ok (.iadd, 1) := by decide +kernel
theorem dX5_takesNumber_54 : decode cX5_takesNumber 54 = .ok (.putfield 32, 3) := by decide +kernel
theorem dX5_takesNumber_57 : decode cX5_takesNumber 57 = .ok (.iconst 1, 1) := by decide +kernel
theorem dX5_takesNumber_58 : decode cX5_takesNumber 58 = .ok (.ireturn, 1) := by decide +kernel
theorem dX5_takes_0 : decode cX5_takes 0 = .ok (.aload_n 0, 1) := by decide +kernel
theorem dX5_takes_1 : decode cX5_takes 1 = .ok (.getfield 12, 3) := by decide +kernel
theorem dX5_takes_4 : decode cX5_takes 4 = .ok (.aload_n 0, 1) := by decide +kernel
theorem dX5_takes_5 : decode cX5_takes 5 = .ok (.getfield 32, 3) := by decide +kernel
theorem dX5_takes_8 : decode cX5_takes 8 = .ok (.invokevirtual 54, 3) := by decide +kernel
theorem dX5_takes_11 : decode cX5_takes 11 = .ok (.iload_n 1, 1) := by decide +kernel
theorem dX5_takes_12 : decode cX5_takes 12 = .ok (.if_icmp .eq 5, 3) := by decide +kernel
theorem dX5_takes_15 : decode cX5_takes 15 = .ok (.iconst 0, 1) := by decide +kernel
theorem dX5_takes_16 : decode cX5_takes 16 = .ok (.ireturn, 1) := by decide +kernel
theorem dX5_takes_17 : decode cX5_takes 17 = .ok (.aload_n 0, 1) := by decide +kernel
theorem dX5_takes_18 : decode cX5_takes 18 = .ok (.dup, 1) := by decide +kernel
theorem dX5_takes_19 : decode cX5_takes 19 = .ok (.getfield 32, 3) := by decide +kernel
theorem dX5_takes_22 : decode cX5_takes 22 = .ok (.iconst 1, 1) := by decide +kernel
theorem dX5_takes_23 : decode cX5_takes 23 = .ok (.iadd, 1) := by decide +kernel
theorem dX5_takes_24 : decode cX5_takes 24 = .ok (.putfield 32, 3) := by decide +kernel
theorem dX5_takes_27 : decode cX5_takes 27 = .ok (.iconst 1, 1) := by decide +kernel
theorem dX5_takes_28 : decode cX5_takes 28 = .ok (.ireturn, 1) := by decide +kernel
theorem dX5_wordFrom_0 : decode cX5_wordFrom 0 = .ok (.aload_n 0, 1) := by decide +kernel
theorem dX5_wordFrom_1 : decode cX5_wordFrom 1 = .ok (.getfield 12, 3) := by decide +kernel
theorem dX5_wordFrom_4 : decode cX5_wordFrom 4 = .ok (.aload_n 0, 1) := by decide +kernel
theorem dX5_wordFrom_5 : decode cX5_wordFrom 5 = .ok (.getfield 32, 3) := by decide +kernel
theorem dX5_wordFrom_8 : decode cX5_wordFrom 8 = .ok (.invokevirtual 54, 3) := by decide +kernel
theorem dX5_wordFrom_11 : decode cX5_wordFrom 11 = .ok (.istore_n 3, 1) := by decide +kernel
theorem dX5_wordFrom_12 : decode cX5_wordFrom 12 = .ok (.iload_n 3, 1) := by decide +kernel
theorem dX5_wordFrom_13 : decode cX5_wordFrom 13 = .ok (.iload_n 1, 1) := by decide +kernel
theorem dX5_wordFrom_14 : decode cX5_wordFrom 14 = .ok (.if_icmp .lt 14, 3) := by decide +kernel
theorem dX5_wordFrom_17 : decode cX5_wordFrom 17 = .ok (.iload_n 3, 1) := by decide +kernel
theorem dX5_wordFrom_18 : decode cX5_wordFrom 18 = .ok (.iload_n 2, 1) := by decide +kernel
theorem dX5_wordFrom_19 : decode cX5_wordFrom 19 = .ok (.if_icmp .ge 9, 3) := by decide +kernel
theorem dX5_wordFrom_22 : decode cX5_wordFrom 22 = .ok (.iload_n 3, 1) := by decide +kernel
theorem dX5_wordFrom_23 : decode cX5_wordFrom 23 = .ok (.iload_n 1, 1) := by decide +kernel
theorem dX5_wordFrom_24 : decode cX5_wordFrom 24 = .ok (.isub, 1) := by decide +kernel
theorem dX5_wordFrom_25 : decode cX5_wordFrom 25 = .ok (.goto 4, 3) := by decide +kernel
theorem dX5_wordFrom_28 : decode cX5_wordFrom 28 = .ok (.iconst (-1), 1) := by decide +kernel
theorem dX5_wordFrom_29 : decode cX5_wordFrom 29 = .ok (.ireturn, 1) := by decide +kernel
theorem dX5_fail_0 : decode cX5_fail 0 = .ok (.aload_n 0, 1) := by decide +kernel
theorem dX5_fail_1 : decode cX5_fail 1 = .ok (.iconst 1, 1) := by decide +kernel
theorem dX5_fail_2 : decode cX5_fail 2 = .ok (.bipush 8, 2) := by decide +kernel
theorem dX5_fail_4 : decode cX5_fail 4 = .ok (.aload_n 0, 1) := by decide +kernel
theorem dX5_fail_5 : decode cX5_fail 5 = .ok (.getfield 12, 3) := by decide +kernel
theorem dX5_fail_8 : decode cX5_fail 8 = .ok (.aload_n 0, 1) := by decide +kernel
theorem dX5_fail_9 : decode cX5_fail 9 = .ok (.getfield 32, 3) := by decide +kernel
theorem dX5_fail_12 : decode cX5_fail 12 = .ok (.invokevirtual 121, 3) := by decide +kernel
theorem dX5_fail_15 : decode cX5_fail 15 = .ok (.imul, 1) := by decide +kernel
theorem dX5_fail_16 : decode cX5_fail 16 = .ok (.iadd, 1) := by decide +kernel
theorem dX5_fail_17 : decode cX5_fail 17 = .ok (.iload_n 1, 1) := by decide +kernel
theorem dX5_fail_18 : decode cX5_fail 18 = .ok (.iadd, 1) := by decide +kernel
theorem dX5_fail_19 : decode cX5_fail 19 = .ok (.putfield 39, 3) := by decide +kernel
theorem dX5_fail_22 : decode cX5_fail 22 = .ok (.iconst 0, 1) := by decide +kernel
theorem dX5_fail_23 : decode cX5_fail 23 = .ok (.ireturn, 1) := by decide +kernel
