theorem dX11_init_0 : decode cX11_init 0 = .ok (.aload_n 0, 1) := by decide +kernel
theorem dX11_init_1 : decode cX11_init 1 = .ok (.invokespecial 3, 3) := by decide +kernel
theorem dX11_init_4 : decode cX11_init 4 = .ok (.aload_n 0, 1) := by decide +kernel
theorem dX11_init_5 : decode cX11_init 5 = .ok (.new 9, 3) := by decide +kernel
theorem dX11_init_8 : decode cX11_init 8 = .ok (.dup, 1) := by decide +kernel
theorem dX11_init_9 : decode cX11_init 9 = .ok (.invokespecial 11, 3) := by decide +kernel
theorem dX11_init_12 : decode cX11_init 12 = .ok (.putfield 12, 3) := by decide +kernel
theorem dX11_init_15 : decode cX11_init 15 = .ok (.aload_n 0, 1) := by decide +kernel
theorem dX11_init_16 : decode cX11_init 16 = .ok (.bipush 6, 2) := by decide +kernel
theorem dX11_init_18 : decode cX11_init 18 = .ok (.anewarray 16, 3) := by decide +kernel
theorem dX11_init_21 : decode cX11_init 21 = .ok (.putfield 18, 3) := by decide +kernel
theorem dX11_init_24 : decode cX11_init 24 = .ok (.aload_n 0, 1) := by decide +kernel
theorem dX11_init_25 : decode cX11_init 25 = .ok (.new 16, 3) := by decide +kernel
theorem dX11_init_28 : decode cX11_init 28 = .ok (.dup, 1) := by decide +kernel
theorem dX11_init_29 : decode cX11_init 29 = .ok (.invokespecial 22, 3) := by decide +kernel
theorem dX11_init_32 : decode cX11_init 32 = .ok (.putfield 23, 3) := by decide +kernel
theorem dX11_init_35 : decode cX11_init 35 = .ok (.aload_n 0, 1) := by decide +kernel
theorem dX11_init_36 : decode cX11_init 36 = .ok (.new 27, 3) := by decide +kernel
theorem dX11_init_39 : decode cX11_init 39 = .ok (.dup, 1) := by decide +kernel
theorem dX11_init_40 : decode cX11_init 40 = .ok (.invokespecial 29, 3) := by decide +kernel
theorem dX11_init_43 : decode cX11_init 43 = .ok (.putfield 30, 3) := by decide +kernel
theorem dX11_init_46 : decode cX11_init 46 = .ok (.aload_n 0, 1) := by decide +kernel
theorem dX11_init_47 : decode cX11_init 47 = .ok (.new 34, 3) := by decide +kernel
theorem dX11_init_50 : decode cX11_init 50 = .ok (.dup, 1) := by decide +kernel
theorem dX11_init_51 : decode cX11_init 51 = .ok (.invokespecial 36, 3) := by decide +kernel
theorem dX11_init_54 : decode cX11_init 54 = .ok (.putfield 37, 3) := by decide +kernel
theorem dX11_init_57 : decode cX11_init 57 = .ok (.aload_n 0, 1) := by decide +kernel
theorem dX11_init_58 : decode cX11_init 58 = .ok (.iconst 4, 1) := by decide +kernel
theorem dX11_init_59 : decode cX11_init 59 = .ok (.anewarray 34, 3) := by decide +kernel
theorem dX11_init_62 : decode cX11_init 62 = .ok (.putfield 41, 3) := by decide +kernel
theorem dX11_init_65 : decode cX11_init 65 = .ok (.aload_n 0, 1) := by decide +kernel
theorem dX11_init_66 : decode cX11_init 66 = .ok (.new 45, 3) := by decide +kernel
theorem dX11_init_69 : decode cX11_init 69 = .ok (.dup, 1) := by decide +kernel
theorem dX11_init_70 : decode cX11_init 70 = .ok (.invokespecial 47, 3) := by decide +kernel
theorem dX11_init_73 : decode cX11_init 73 = .ok (.putfield 48, 3) := by decide +kernel
theorem dX11_init_76 : decode cX11_init 76 = .ok (.aload_n 0, 1) := by decide +kernel
theorem dX11_init_77 : decode cX11_init 77 = .ok (.new 52, 3) := by decide +kernel
theorem dX11_init_80 : decode cX11_init 80 = .ok (.dup, 1) := by decide +kernel
theorem dX11_init_81 : decode cX11_init 81 = .ok (.invokespecial 54, 3) := by decide +kernel
theorem dX11_init_84 : decode cX11_init 84 = .ok (.putfield 55, 3) := by decide +kernel
theorem dX11_init_87 : decode cX11_init 87 = .ok (.aload_n 0, 1) := by decide +kernel
theorem dX11_init_88 : decode cX11_init 88 = .ok (.new 59, 3) := by decide +kernel
theorem dX11_init_91 : decode cX11_init 91 = .ok (.dup, 1) := by decide +kernel
theorem dX11_init_92 : decode cX11_init 92 = .ok (.invokespecial 61, 3) := by decide +kernel
theorem dX11_init_95 : decode cX11_init 95 = .ok (.putfield 62, 3) := by decide +kernel
theorem dX11_init_98 : decode cX11_init 98 = .ok (.aload_n 0, 1) := by decide +kernel
theorem dX11_init_99 : decode cX11_init 99 = .ok (.new 66, 3) := by decide +kernel
theorem dX11_init_102 : decode cX11_init 102 = .ok (.dup, 1) := by decide +kernel
theorem dX11_init_103 : decode cX11_init 103 = .ok (.invokespecial 68, 3) := by decide +kernel
theorem dX11_init_106 : decode cX11_init 106 = .ok (.putfield 69, 3) := by decide +kernel
theorem dX11_init_109 : decode cX11_init 109 = .ok (.iconst 0, 1) := by decide +kernel
theorem dX11_init_110 : decode cX11_init 110 = .ok (.istore_n 1, 1) := by decide +kernel
theorem dX11_init_111 : decode cX11_init 111 = .ok (.iload_n 1, 1) := by decide +kernel
theorem dX11_init_112 : decode cX11_init 112 = .ok (.bipush 6, 2) := by decide +kernel
theorem dX11_init_114 : decode cX11_init 114 = .ok (.if_icmp .ge 22, 3) := by decide +kernel
theorem dX11_init_117 : decode cX11_init 117 = .ok (.aload_n 0, 1) := by decide +kernel
theorem dX11_init_118 : decode cX11_init 118 = .ok (.getfield 18, 3) := by decide +kernel
theorem dX11_init_121 : decode cX11_init 121 = .ok (.iload_n 1, 1) := by decide +kernel
theorem dX11_init_122 : decode cX11_init 122 = .ok (.new 16, 3) := by decide +kernel
theorem dX11_init_125 : decode cX11_init 125 = .ok (.dup, 1) := by decide +kernel
theorem dX11_init_126 : decode cX11_init 126 = .ok (.invokespecial 22, 3) := by decide +kernel
theorem dX11_init_129 : decode cX11_init 129 = .ok (.aastore, 1) := by decide +kernel
theorem dX11_init_130 : decode cX11_init 130 = .ok (.iinc 1 1, 3) := by decide +kernel
theorem dX11_init_133 : decode cX11_init 133 = .ok (.goto (-22), 3) := by decide +kernel
theorem dX11_init_136 : decode cX11_init 136 = .ok (.iconst 0, 1) := by decide +kernel
theorem dX11_init_137 : decode cX11_init 137 = .ok (.istore_n 1, 1) := by decide +kernel
theorem dX11_init_138 : decode cX11_init 138 = .ok (.iload_n 1, 1) := by decide +kernel
theorem dX11_init_139 : decode cX11_init 139 = .ok (.iconst 4, 1) := by decide +kernel
theorem dX11_init_140 : decode cX11_init 140 = .ok (.if_icmp .ge 22, 3) := by decide +kernel
theorem dX11_init_143 : decode cX11_init 143 = .ok (.aload_n 0, 1) := by decide +kernel
theorem dX11_init_144 : decode cX11_init 144 = .ok (.getfield 41, 3) := by decide +kernel
theorem dX11_init_147 : decode cX11_init 147 = .ok (.iload_n 1, 1) := by decide +kernel
theorem dX11_init_148 : decode cX11_init 148 = .ok (.new 34, 3) := by decide +kernel
theorem dX11_init_151 : decode cX11_init 151 = .ok (.dup, 1) := by decide +kernel
theorem dX11_init_152 : decode cX11_init 152 = .ok (.invokespecial 36, 3) := by decide +kernel
theorem dX11_init_155 : decode cX11_init 155 = .ok (.aastore, 1) := by decide +kernel
theorem dX11_init_156 : decode cX11_init 156 = .ok (.iinc 1 1, 3) := by decide +kernel
theorem dX11_init_159 : decode cX11_init 159 = .ok (.goto (-21), 3) := by decide +kernel
theorem dX11_init_162 : decode cX11_init 162 = .ok (.return_, 1) := by decide +kernel
theorem dX11_person_0 : decode cX11_person 0 = .ok (.iload_n 1, 1) := by decide +kernel
theorem dX11_person_1 : decode cX11_person 1 = .ok (.iconst 0, 1) := by decide +kernel
theorem dX11_person_2 : decode cX11_person 2 = .ok (.bipush 99, 2) := by decide +kernel
theorem dX11_person_4 : decode cX11_person 4 = .ok (.invokestatic 73, 3) := by decide +kernel
theorem dX11_person_7 : decode cX11_person 7 = .ok (.ifCond .eq 23, 3) := by decide +kernel
theorem dX11_person_10 : decode cX11_person 10 = .ok (.iload_n 2, 1) := by decide +kernel
theorem dX11_person_11 : decode cX11_person 11 = .ok (.iconst 0, 1) := by decide +kernel
theorem dX11_person_12 : decode cX11_person 12 = .ok (.bipush 9, 2) := by decide +kernel
theorem dX11_person_14 : decode cX11_person 14 = .ok (.invokestatic 73, 3) := by decide +kernel
theorem dX11_person_17 : decode cX11_person 17 = .ok (.ifCond .eq 13, 3) := by decide +kernel
theorem dX11_person_20 : decode cX11_person 20 = .ok (.iload_n 3, 1) := by decide +kernel
theorem dX11_person_21 : decode cX11_person 21 = .ok (.iconst 0, 1) := by decide +kernel
theorem dX11_person_22 : decode cX11_person 22 = .ok (.bipush 9, 2) := by decide +kernel
theorem dX11_person_24 : decode cX11_person 24 = .ok (.invokestatic 73, 3) := by decide +kernel
theorem dX11_person_27 : decode cX11_person 27 = .ok (.ifCond .ne 5, 3) := by decide +kernel
theorem dX11_person_30 : decode cX11_person 30 = .ok (.iconst (-1), 1) := by decide +kernel
theorem dX11_person_31 : decode cX11_person 31 = .ok (.ireturn, 1) := by decide +kernel
theorem dX11_person_32 : decode cX11_person 32 = .ok (.aload_n 0, 1) := by decide +kernel
theorem dX11_person_33 : decode cX11_person 33 = .ok (.getfield 37, 3) := by decide +kernel
theorem dX11_person_36 : decode cX11_person 36 = .ok (.iload_n 1, 1) := by decide +kernel
theorem dX11_person_37 : decode cX11_person 37 = .ok (.iload_n 2, 1) := by decide +kernel
theorem dX11_person_38 : decode cX11_person 38 = .ok (.iload_n 3, 1) := by decide +kernel
theorem dX11_person_39 : decode cX11_person 39 = .ok (.invokevirtual 77, 3) := by decide +kernel
theorem dX11_person_42 : decode cX11_person 42 = .ok (.ireturn, 1) := by decide +kernel
theorem dX11_debt_0 : decode cX11_debt 0 = .ok (.aload_n 0, 1) := by decide +kernel
theorem dX11_debt_1 : decode cX11_debt 1 = .ok (.iload_n 1, 1) := by decide +kernel
theorem dX11_debt_2 : decode cX11_debt 2 = .ok (.iload_n 2, 1) := by decide +kernel
theorem dX11_debt_3 : decode cX11_debt 3 = .ok (.invokevirtual 81, 3) := by decide +kernel
theorem dX11_debt_6 : decode cX11_debt 6 = .ok (.ifCond .eq 16, 3) := by decide +kernel
theorem dX11_debt_9 : decode cX11_debt 9 = .ok (.aload_n 0, 1) := by decide +kernel
theorem dX11_debt_10 : decode cX11_debt 10 = .ok (.getfield 37, 3) := by decide +kernel
theorem dX11_debt_13 : decode cX11_debt 13 = .ok (.iload_n 1, 1) := by decide +kernel
theorem dX11_debt_14 : decode cX11_debt 14 = .ok (.iload_n 2, 1) := by decide +kernel
theorem dX11_debt_15 : decode cX11_debt 15 = .ok (.invokevirtual 85, 3) := by decide +kernel
theorem dX11_debt_18 : decode cX11_debt 18 = .ok (.iload_n 3, 1) := by decide +kernel
theorem dX11_debt_19 : decode cX11_debt 19 = .ok (.if_icmp .ne 5, 3) := by decide +kernel
theorem dX11_debt_22 : decode cX11_debt 22 = .ok (.iconst 0, 1) := by decide +kernel
theorem dX11_debt_23 : decode cX11_debt 23 = .ok (.ireturn, 1) := by decide +kernel
theorem dX11_debt_24 : decode cX11_debt 24 = .ok (.aload_n 0, 1) := by decide +kernel
theorem dX11_debt_25 : decode cX11_debt 25 = .ok (.getfield 37, 3) := by decide +kernel
theorem dX11_debt_28 : decode cX11_debt 28 = .ok (.iload_n 1, 1) := by decide +kernel
theorem dX11_debt_29 : decode cX11_debt 29 = .ok (.iload_n 2, 1) := by decide +kernel
theorem dX11_debt_30 : decode cX11_debt 30 = .ok (.iload_n 3, 1) := by decide +kernel
theorem dX11_debt_31 : decode cX11_debt 31 = .ok (.invokevirtual 88, 3) := by decide +kernel
theorem dX11_debt_34 : decode cX11_debt 34 = .ok (.iconst 1, 1) := by decide +kernel
theorem dX11_debt_35 : decode cX11_debt 35 = .ok (.ireturn, 1) := by decide +kernel
theorem dX11_feed_0 : decode cX11_feed 0 = .ok (.aload_n 0, 1) := by decide +kernel
theorem dX11_feed_1 : decode cX11_feed 1 = .ok (.getfield 12, 3) := by decide +kernel
theorem dX11_feed_4 : decode cX11_feed 4 = .ok (.getfield 92, 3) := by decide +kernel
theorem dX11_feed_7 : decode cX11_feed 7 = .ok (.bipush 20, 2) := by decide +kernel
theorem dX11_feed_9 : decode cX11_feed 9 = .ok (.iadd, 1) := by decide +kernel
theorem dX11_feed_10 : decode cX11_feed 10 = .ok (.sipush 400, 3) := by decide +kernel
theorem dX11_feed_13 : decode cX11_feed 13 = .ok (.if_icmp .le 5, 3) := by decide +kernel
theorem dX11_feed_16 : decode cX11_feed 16 = .ok (.iconst (-1), 1) := by decide +kernel
theorem dX11_feed_17 : decode cX11_feed 17 = .ok (.ireturn, 1) := by decide +kernel
theorem dX11_feed_18 : decode cX11_feed 18 = .ok (.aload_n 0, 1) := by decide +kernel
theorem dX11_feed_19 : decode cX11_feed 19 = .ok (.getfield 12, 3) := by decide +kernel
theorem dX11_feed_22 : decode cX11_feed 22 = .ok (.iload_n 1, 1) := by decide +kernel
theorem dX11_feed_23 : decode cX11_feed 23 = .ok (.invokevirtual 96, 3) := by decide +kernel
theorem dX11_feed_26 : decode cX11_feed 26 = .ok (.aload_n 0, 1) := by decide +kernel
theorem dX11_feed_27 : decode cX11_feed 27 = .ok (.getfield 12, 3) := by decide +kernel
theorem dX11_feed_30 : decode cX11_feed 30 = .ok (.iload_n 2, 1) := by decide +kernel
theorem dX11_feed_31 : decode cX11_feed 31 = .ok (.invokevirtual 96, 3) := by decide +kernel
theorem dX11_feed_34 : decode cX11_feed 34 = .ok (.aload_n 0, 1) := by decide +kernel
theorem dX11_feed_35 : decode cX11_feed 35 = .ok (.getfield 12, 3) := by decide +kernel
theorem dX11_feed_38 : decode cX11_feed 38 = .ok (.iload_n 3, 1) := by decide +kernel
theorem dX11_feed_39 : decode cX11_feed 39 = .ok (.invokevirtual 96, 3) := by decide +kernel
theorem dX11_feed_42 : decode cX11_feed 42 = .ok (.aload_n 0, 1) := by decide +kernel
theorem dX11_feed_43 : decode cX11_feed 43 = .ok (.getfield 12, 3) := by decide +kernel
theorem dX11_feed_46 : decode cX11_feed 46 = .ok (.iload 4, 2) := by decide +kernel
theorem dX11_feed_48 : decode cX11_feed 48 = .ok (.invokevirtual 96, 3) := by decide +kernel
theorem dX11_feed_51 : decode cX11_feed 51 = .ok (.aload_n 0, 1) := by decide +kernel
theorem dX11_feed_52 : decode cX11_feed 52 = .ok (.getfield 12, 3) := by decide +kernel
theorem dX11_feed_55 : decode cX11_feed 55 = .ok (.iload 5, 2) := by decide +kernel
theorem dX11_feed_57 : decode cX11_feed 57 = .ok (.invokevirtual 96, 3) := by decide +kernel
theorem dX11_feed_60 : decode cX11_feed 60 = .ok (.aload_n 0, 1) := by decide +kernel
theorem dX11_feed_61 : decode cX11_feed 61 = .ok (.getfield 12, 3) := by decide +kernel
theorem dX11_feed_64 : decode cX11_feed 64 = .ok (.getfield 92, 3) := by decide +kernel
theorem dX11_feed_67 : decode cX11_feed 67 = .ok (.ireturn, 1) := by decide +kernel
theorem dX11_end_0 : decode cX11_end 0 = .ok (.iload_n 1, 1) := by decide +kernel
theorem dX11_end_1 : decode cX11_end 1 = .ok (.iconst 0, 1) := by decide +kernel
theorem dX11_end_2 : decode cX11_end 2 = .ok (.aload_n 0, 1) := by decide +kernel
theorem dX11_end_3 : decode cX11_end 3 = .ok (.getfield 12, 3) := by decide +kernel
theorem dX11_end_6 : decode cX11_end 6 = .ok (.getfield 92, 3) := by decide +kernel
theorem dX11_end_9 : decode cX11_end 9 = .ok (.invokestatic 73, 3) := by decide +kernel
theorem dX11_end_12 : decode cX11_end 12 = .ok (.ifCond .ne 5, 3) := by decide +kernel
theorem dX11_end_15 : decode cX11_end 15 = .ok (.iconst (-1), 1) := by decide +kernel
theorem dX11_end_16 : decode cX11_end 16 = .ok (.ireturn, 1) := by decide +kernel
theorem dX11_end_17 : decode cX11_end 17 = .ok (.aload_n 0, 1) := by decide +kernel
theorem dX11_end_18 : decode cX11_end 18 = .ok (.getfield 12, 3) := by decide +kernel
theorem dX11_end_21 : decode cX11_end 21 = .ok (.iload_n 1, 1) := by decide +kernel
theorem dX11_end_22 : decode cX11_end 22 = .ok (.putfield 92, 3) := by decide +kernel
theorem dX11_end_25 : decode cX11_end 25 = .ok (.iload_n 1, 1) := by decide +kernel
theorem dX11_end_26 : decode cX11_end 26 = .ok (.ireturn, 1) := by decide +kernel
theorem dX11_code_0 : decode cX11_code 0 = .ok (.aload_n 0, 1) := by decide +kernel
theorem dX11_code_1 : decode cX11_code 1 = .ok (.getfield 100, 3) := by decide +kernel
theorem dX11_code_4 : decode cX11_code 4 = .ok (.bipush 6, 2) := by decide +kernel
theorem dX11_code_6 : decode cX11_code 6 = .ok (.if_icmp .lt 5, 3) := by decide +kernel
theorem dX11_code_9 : decode cX11_code 9 = .ok (.iconst (-1), 1) := by decide +kernel
theorem dX11_code_10 : decode cX11_code 10 = .ok (.ireturn, 1) := by decide +kernel
theorem dX11_code_11 : decode cX11_code 11 = .ok (.aload_n 0, 1) := by decide +kernel
theorem dX11_code_12 : decode cX11_code 12 = .ok (.getfield 30, 3) := by decide +kernel
theorem dX11_code_15 : decode cX11_code 15 = .ok (.aload_n 0, 1) := by decide +kernel
theorem dX11_code_16 : decode cX11_code 16 = .ok (.getfield 12, 3) := by decide +kernel
theorem dX11_code_19 : decode cX11_code 19 = .ok (.aload_n 0, 1) := by decide +kernel
theorem dX11_code_20 : decode cX11_code 20 = .ok (.getfield 18, 3) := by decide +kernel
theorem dX11_code_23 : decode cX11_code 23 = .ok (.aload_n 0, 1) := by decide +kernel
theorem dX11_code_24 : decode cX11_code 24 = .ok (.getfield 100, 3) := by decide +kernel
theorem dX11_code_27 : decode cX11_code 27 = .ok (.aaload, 1) := by decide +kernel
theorem dX11_code_28 : decode cX11_code 28 = .ok (.invokevirtual 103, 3) := by decide +kernel
theorem dX11_code_31 : decode cX11_code 31 = .ok (.istore_n 1, 1) := by decide +kernel
theorem dX11_code_32 : decode cX11_code 32 = .ok (.aload_n 0, 1) := by decide +kernel
theorem dX11_code_33 : decode cX11_code 33 = .ok (.getfield 12, 3) := by decide +kernel
theorem dX11_code_36 : decode cX11_code 36 = .ok (.iconst 0, 1) := by decide +kernel
theorem dX11_code_37 : decode cX11_code 37 = .ok (.putfield 92, 3) := by decide +kernel
theorem dX11_code_40 : decode cX11_code 40 = .ok (.iload_n 1, 1) := by decide +kernel
theorem dX11_code_41 : decode cX11_code 41 = .ok (.ifCond .eq 8, 3) := by decide +kernel
theorem dX11_code_44 : decode cX11_code 44 = .ok (.bipush (-2), 2) := by decide +kernel
theorem dX11_code_46 : decode cX11_code 46 = .ok (.iload_n 1, 1) := by decide +kernel
theorem dX11_code_47 : decode cX11_code 47 = .ok (.isub, 1) := by decide +kernel
theorem dX11_code_48 : decode cX11_code 48 = .ok (.ireturn, 1) := by decide +kernel
theorem dX11_code_49 : decode cX11_code 49 = .ok (.aload_n 0, 1) := by decide +kernel
theorem dX11_code_50 : decode cX11_code 50 = .ok (.dup, 1) := by decide +kernel
theorem dX11_code_51 : decode cX11_code 51 = .ok (.getfield 100, 3) := by decide +kernel
theorem dX11_code_54 : decode cX11_code 54 = .ok (.iconst 1, 1) := by decide +kernel
theorem dX11_code_55 : decode cX11_code 55 = .ok (.iadd, 1) := by decide +kernel
theorem dX11_code_56 : decode cX11_code 56 = .ok (.putfield 100, 3) := by decide +kernel
theorem dX11_code_59 : decode cX11_code 59 = .ok (.aload_n 0, 1) := by decide +kernel
theorem dX11_code_60 : decode cX11_code 60 = .ok (.getfield 100, 3) := by decide +kernel
theorem dX11_code_63 : decode cX11_code 63 = .ok (.iconst 1, 1) := by decide +kernel
theorem dX11_code_64 : decode cX11_code 64 = .ok (.isub, 1) := by decide +kernel
theorem dX11_code_65 : decode cX11_code 65 = .ok (.ireturn, 1) := by decide +kernel
theorem dX11_keeps_0 : decode cX11_keeps 0 = .ok (.aload_n 0, 1) := by decide +kernel
theorem dX11_keeps_1 : decode cX11_keeps 1 = .ok (.getfield 37, 3) := by decide +kernel
theorem dX11_keeps_4 : decode cX11_keeps 4 = .ok (.iload_n 1, 1) := by decide +kernel
theorem dX11_keeps_5 : decode cX11_keeps 5 = .ok (.invokevirtual 107, 3) := by decide +kernel
theorem dX11_keeps_8 : decode cX11_keeps 8 = .ok (.ifCond .eq 16, 3) := by decide +kernel
theorem dX11_keeps_11 : decode cX11_keeps 11 = .ok (.iload_n 2, 1) := by decide +kernel
theorem dX11_keeps_12 : decode cX11_keeps 12 = .ok (.iconst (-1), 1) := by decide +kernel
theorem dX11_keeps_13 : decode cX11_keeps 13 = .ok (.if_icmp .eq 13, 3) := by decide +kernel
theorem dX11_keeps_16 : decode cX11_keeps 16 = .ok (.aload_n 0, 1) := by decide +kernel
theorem dX11_keeps_17 : decode cX11_keeps 17 = .ok (.iload_n 2, 1) := by decide +kernel
theorem dX11_keeps_18 : decode cX11_keeps 18 = .ok (.invokevirtual 111, 3) := by decide +kernel
theorem dX11_keeps_21 : decode cX11_keeps 21 = .ok (.ifCond .ne 5, 3) := by decide +kernel
theorem dX11_keeps_24 : decode cX11_keeps 24 = .ok (.iconst 0, 1) := by decide +kernel
theorem dX11_keeps_25 : decode cX11_keeps 25 = .ok (.ireturn, 1) := by decide +kernel
theorem dX11_keeps_26 : decode cX11_keeps 26 = .ok (.aload_n 0, 1) := by decide +kernel
theorem dX11_keeps_27 : decode cX11_keeps 27 = .ok (.getfield 37, 3) := by decide +kernel
theorem dX11_keeps_30 : decode cX11_keeps 30 = .ok (.iload_n 1, 1) := by decide +kernel
theorem dX11_keeps_31 : decode cX11_keeps 31 = .ok (.iload_n 2, 1) := by decide +kernel
theorem dX11_keeps_32 : decode cX11_keeps 32 = .ok (.invokevirtual 114, 3) := by decide +kernel
theorem dX11_keeps_35 : decode cX11_keeps 35 = .ok (.iconst 1, 1) := by decide +kernel
theorem dX11_keeps_36 : decode cX11_keeps 36 = .ok (.ireturn, 1) := by decide +kernel
theorem dX11_told_0 : decode cX11_told 0 = .ok (.aload_n 0, 1) := by decide +kernel
theorem dX11_told_1 : decode cX11_told 1 = .ok (.iload_n 1, 1) := by decide +kernel
theorem dX11_told_2 : decode cX11_told 2 = .ok (.invokevirtual 111, 3) := by decide +kernel
theorem dX11_told_5 : decode cX11_told 5 = .ok (.ifCond .ne 5, 3) := by decide +kernel
theorem dX11_told_8 : decode cX11_told 8 = .ok (.iconst (-1), 1) := by decide +kernel
theorem dX11_told_9 : decode cX11_told 9 = .ok (.ireturn, 1) := by decide +kernel
theorem dX11_told_10 : decode cX11_told 10 = .ok (.aload_n 0, 1) := by decide +kernel
theorem dX11_told_11 : decode cX11_told 11 = .ok (.iload_n 1, 1) := by decide +kernel
theorem dX11_told_12 : decode cX11_told 12 = .ok (.invokevirtual 118, 3) := by decide +kernel
theorem dX11_told_15 : decode cX11_told 15 = .ok (.astore_n 3, 1) := by decide +kernel
theorem dX11_told_16 : decode cX11_told 16 = .ok (.iload_n 2, 1) := by decide +kernel
theorem dX11_told_17 : decode cX11_told 17 = .ok (.tableswitch 51 0 3 #[31, 36, 41, 46], 31) := by decide +kernel
theorem dX11_told_48 : decode cX11_told 48 = .ok (.aload_n 3, 1) := by decide +kernel
theorem dX11_told_49 : decode cX11_told 49 = .ok (.getfield 122, 3) := by decide +kernel
theorem dX11_told_52 : decode cX11_told 52 = .ok (.ireturn, 1) := by decide +kernel
theorem dX11_told_53 : decode cX11_told 53 = .ok (.aload_n 3, 1) := by decide +kernel
theorem dX11_told_54 : decode cX11_told 54 = .ok (.getfield 125, 3) := by decide +kernel
theorem dX11_told_57 : decode cX11_told 57 = .ok (.ireturn, 1) := by decide +kernel
theorem dX11_told_58 : decode cX11_told 58 = .ok (.aload_n 3, 1) := by decide +kernel
theorem dX11_told_59 : decode cX11_told 59 = .ok (.getfield 128, 3) := by decide +kernel
theorem dX11_told_62 : decode cX11_told 62 = .ok (.ireturn, 1) := by decide +kernel
theorem dX11_told_63 : decode cX11_told 63 = .ok (.aload_n 3, 1) := by decide +kernel
theorem dX11_told_64 : decode cX11_told 64 = .ok (.getfield 131, 3) := by decide +kernel
theorem dX11_told_67 : decode cX11_told 67 = .ok (.ireturn, 1) := by decide +kernel
theorem dX11_told_68 : decode cX11_told 68 = .ok (.iconst (-1), 1) := by decide +kernel
theorem dX11_told_69 : decode cX11_told 69 = .ok (.ireturn, 1) := by decide +kernel
theorem dX11_weighs_0 : decode cX11_weighs 0 = .ok (.aload_n 0, 1) := by decide +kernel
theorem dX11_weighs_1 : decode cX11_weighs 1 = .ok (.iload_n 1, 1) := by decide +kernel
theorem dX11_weighs_2 : decode cX11_weighs 2 = .ok (.invokevirtual 111, 3) := by decide +kernel
theorem dX11_weighs_5 : decode cX11_weighs 5 = .ok (.ifCond .eq 23, 3) := by decide +kernel
theorem dX11_weighs_8 : decode cX11_weighs 8 = .ok (.aload_n 0, 1) := by decide +kernel
theorem dX11_weighs_9 : decode cX11_weighs 9 = .ok (.iload_n 2, 1) := by decide +kernel
theorem dX11_weighs_10 : decode cX11_weighs 10 = .ok (.iload_n 3, 1) := by decide +kernel
theorem dX11_weighs_11 : decode cX11_weighs 11 = .ok (.invokevirtual 81, 3) := by decide +kernel
theorem dX11_weighs_14 : decode cX11_weighs 14 = .ok (.ifCond .eq 14, 3) := by decide +kernel
theorem dX11_weighs_17 : decode cX11_weighs 17 = .ok (.iload 4, 2) := by decide +kernel
theorem dX11_weighs_19 : decode cX11_weighs 19 = .ok (.iconst 0, 1) := by decide +kernel
theorem dX11_weighs_20 : decode cX11_weighs 20 = .ok (.bipush 9, 2) := by decide +kernel
theorem dX11_weighs_22 : decode cX11_weighs 22 = .ok (.invokestatic 73, 3) := by decide +kernel
theorem dX11_weighs_25 : decode cX11_weighs 25 = .ok (.ifCond .ne 5, 3) := by decide +kernel
theorem dX11_weighs_28 : decode cX11_weighs 28 = .ok (.iconst (-1), 1) := by decide +kernel
theorem dX11_weighs_29 : decode cX11_weighs 29 = .ok (.ireturn, 1) := by decide +kernel
theorem dX11_weighs_30 : decode cX11_weighs 30 = .ok (.iload 5, 2) := by decide +kernel
theorem dX11_weighs_32 : decode cX11_weighs 32 = .ok (.iconst 0, 1) := by decide +kernel
theorem dX11_weighs_33 : decode cX11_weighs 33 = .ok (.bipush 15, 2) := by decide +kernel
theorem dX11_weighs_35 : decode cX11_weighs 35 = .ok (.invokestatic 73, 3) := by decide +kernel
theorem dX11_weighs_38 : decode cX11_weighs 38 = .ok (.ifCond .eq 25, 3) := by decide +kernel
theorem dX11_weighs_41 : decode cX11_weighs 41 = .ok (.iload 6, 2) := by decide +kernel
theorem dX11_weighs_43 : decode cX11_weighs 43 = .ok (.iconst 0, 1) := by decide +kernel
theorem dX11_weighs_44 : decode cX11_weighs 44 = .ok (.bipush 15, 2) := by decide +kernel
theorem dX11_weighs_46 : decode cX11_weighs 46 = .ok (.invokestatic 73, 3) := by decide +kernel
theorem dX11_weighs_49 : decode cX11_weighs 49 = .ok (.ifCond .eq 14, 3) := by decide +kernel
theorem dX11_weighs_52 : decode cX11_weighs 52 = .ok (.iload 7, 2) := by decide +kernel
theorem dX11_weighs_54 : decode cX11_weighs 54 = .ok (.iconst 0, 1) := by decide +kernel
theorem dX11_weighs_55 : decode cX11_weighs 55 = .ok (.bipush 8, 2) := by decide +kernel
theorem dX11_weighs_57 : decode cX11_weighs 57 = .ok (.invokestatic 73, 3) := by decide +kernel
theorem dX11_weighs_60 : decode cX11_weighs 60 = .ok (.ifCond .ne 5, 3) := by decide +kernel
theorem dX11_weighs_63 : decode cX11_weighs 63 = .ok (.iconst (-1), 1) := by decide +kernel
theorem dX11_weighs_64 : decode cX11_weighs 64 = .ok (.ireturn, 1) := by decide +kernel
theorem dX11_weighs_65 : decode cX11_weighs 65 = .ok (.aload_n 0, 1) := by decide +kernel
theorem dX11_weighs_66 : decode cX11_weighs 66 = .ok (.getfield 48, 3) := by decide +kernel
theorem dX11_weighs_69 : decode cX11_weighs 69 = .ok (.aload_n 0, 1) := by decide +kernel
theorem dX11_weighs_70 : decode cX11_weighs 70 = .ok (.getfield 37, 3) := by decide +kernel
theorem dX11_weighs_73 : decode cX11_weighs 73 = .ok (.iload_n 2, 1) := by decide +kernel
theorem dX11_weighs_74 : decode cX11_weighs 74 = .ok (.iload_n 3, 1) := by decide +kernel
theorem dX11_weighs_75 : decode cX11_weighs 75 = .ok (.iload 4, 2) := by decide +kernel
theorem dX11_weighs_77 : decode cX11_weighs 77 = .ok (.invokevirtual 134, 3) := by decide +kernel
theorem dX11_weighs_80 : decode cX11_weighs 80 = .ok (.aload_n 0, 1) := by decide +kernel
theorem dX11_weighs_81 : decode cX11_weighs 81 = .ok (.getfield 48, 3) := by decide +kernel
theorem dX11_weighs_84 : decode cX11_weighs 84 = .ok (.iload 5, 2) := by decide +kernel
theorem dX11_weighs_86 : decode cX11_weighs 86 = .ok (.iload 6, 2) := by decide +kernel
theorem dX11_weighs_88 : decode cX11_weighs 88 = .ok (.iload 7, 2) := by decide +kernel
theorem dX11_weighs_90 : decode cX11_weighs 90 = .ok (.invokevirtual 138, 3) := by decide +kernel
theorem dX11_weighs_93 : decode cX11_weighs 93 = .ok (.iload 8, 2) := by decide +kernel
theorem dX11_weighs_95 : decode cX11_weighs 95 = .ok (.iconst 0, 1) := by decide +kernel
theorem dX11_weighs_96 : decode cX11_weighs 96 = .ok (.bipush 7, 2) := by decide +kernel
theorem dX11_weighs_98 : decode cX11_weighs 98 = .ok (.invokestatic 73, 3) := by decide +kernel
theorem dX11_weighs_101 : decode cX11_weighs 101 = .ok (.ifCond .eq 18, 3) := by decide +kernel
theorem dX11_weighs_104 : decode cX11_weighs 104 = .ok (.aload_n 0, 1) := by decide +kernel
theorem dX11_weighs_105 : decode cX11_weighs 105 = .ok (.iload_n 1, 1) := by decide +kernel
theorem dX11_weighs_106 : decode cX11_weighs 106 = .ok (.invokevirtual 118, 3) := by decide +kernel
theorem dX11_weighs_109 : decode cX11_weighs 109 = .ok (.iload 8, 2) := by decide +kernel
theorem dX11_weighs_111 : decode cX11_weighs 111 = .ok (.aload_n 0, 1) := by decide +kernel
theorem dX11_weighs_112 : decode cX11_weighs 112 = .ok (.getfield 48, 3) := by decide +kernel
theorem dX11_weighs_115 : decode cX11_weighs 115 = .ok (.invokevirtual 142, 3) := by decide +kernel
theorem dX11_weighs_118 : decode cX11_weighs 118 = .ok (.ireturn, 1) := by decide +kernel
theorem dX11_weighs_119 : decode cX11_weighs 119 = .ok (.iload 8, 2) := by decide +kernel
theorem dX11_weighs_121 : decode cX11_weighs 121 = .ok (.bipush 8, 2) := by decide +kernel
theorem dX11_weighs_123 : decode cX11_weighs 123 = .ok (.if_icmp .ne 24, 3) := by decide +kernel
theorem dX11_weighs_126 : decode cX11_weighs 126 = .ok (.aload_n 0, 1) := by decide +kernel
theorem dX11_weighs_127 : decode cX11_weighs 127 = .ok (.iload_n 1, 1) := by decide +kernel
theorem dX11_weighs_128 : decode cX11_weighs 128 = .ok (.invokevirtual 118, 3) := by decide +kernel
theorem dX11_weighs_131 : decode cX11_weighs 131 = .ok (.aload_n 0, 1) := by decide +kernel
theorem dX11_weighs_132 : decode cX11_weighs 132 = .ok (.getfield 48, 3) := by decide +kernel
theorem dX11_weighs_135 : decode cX11_weighs 135 = .ok (.invokevirtual 146, 3) := by decide +kernel
theorem dX11_weighs_138 : decode cX11_weighs 138 = .ok (.ifCond .eq 7, 3) := by decide +kernel
theorem dX11_weighs_141 : decode cX11_weighs 141 = .ok (.iconst 1, 1) := by decide +kernel
theorem dX11_weighs_142 : decode cX11_weighs 142 = .ok (.goto 4, 3) := by decide +kernel
theorem dX11_weighs_145 : decode cX11_weighs 145 = .ok (.iconst 0, 1) := by decide +kernel
theorem dX11_weighs_146 : decode cX11_weighs 146 = .ok (.ireturn, 1) := by decide +kernel
theorem dX11_weighs_147 : decode cX11_weighs 147 = .ok (.iconst (-1), 1) := by decide +kernel
theorem dX11_weighs_148 : decode cX11_weighs 148 = .ok (.ireturn, 1) := by decide +kernel
theorem dX11_quarrel_0 : decode cX11_quarrel 0 = .ok (.aload_n 0, 1) := by decide +kernel
theorem dX11_quarrel_1 : decode cX11_quarrel 1 = .ok (.iload_n 1, 1) := by decide +kernel
theorem dX11_quarrel_2 : decode cX11_quarrel 2 = .ok (.iload_n 2, 1) := by decide +kernel
theorem dX11_quarrel_3 : decode cX11_quarrel 3 = .ok (.invokevirtual 81, 3) := by decide +kernel
theorem dX11_quarrel_6 : decode cX11_quarrel 6 = .ok (.ifCond .eq 23, 3) := by decide +kernel
theorem dX11_quarrel_9 : decode cX11_quarrel 9 = .ok (.iload_n 3, 1) := by decide +kernel
theorem dX11_quarrel_10 : decode cX11_quarrel 10 = .ok (.iconst 0, 1) := by decide +kernel
theorem dX11_quarrel_11 : decode cX11_quarrel 11 = .ok (.bipush 9, 2) := by decide +kernel
theorem dX11_quarrel_13 : decode cX11_quarrel 13 = .ok (.invokestatic 73, 3) := by decide +kernel
theorem dX11_quarrel_16 : decode cX11_quarrel 16 = .ok (.ifCond .eq 13, 3) := by decide +kernel
theorem dX11_quarrel_19 : decode cX11_quarrel 19 = .ok (.iload 4, 2) := by decide +kernel
theorem dX11_quarrel_21 : decode cX11_quarrel 21 = .ok (.iconst 0, 1) := by decide +kernel
theorem dX11_quarrel_22 : decode cX11_quarrel 22 = .ok (.iconst 3, 1) := by decide +kernel
theorem dX11_quarrel_23 : decode cX11_quarrel 23 = .ok (.invokestatic 73, 3) := by decide +kernel
theorem dX11_quarrel_26 : decode cX11_quarrel 26 = .ok (.ifCond .ne 5, 3) := by decide +kernel
theorem dX11_quarrel_29 : decode cX11_quarrel 29 = .ok (.iconst (-1), 1) := by decide +kernel
theorem dX11_quarrel_30 : decode cX11_quarrel 30 = .ok (.ireturn, 1) := by decide +kernel
theorem dX11_quarrel_31 : decode cX11_quarrel 31 = .ok (.aload_n 0, 1) := by decide +kernel
theorem dX11_quarrel_32 : decode cX11_quarrel 32 = .ok (.aload_n 0, 1) := by decide +kernel
theorem dX11_quarrel_33 : decode cX11_quarrel 33 = .ok (.getfield 37, 3) := by decide +kernel
theorem dX11_quarrel_36 : decode cX11_quarrel 36 = .ok (.iload_n 1, 1) := by decide +kernel
theorem dX11_quarrel_37 : decode cX11_quarrel 37 = .ok (.invokevirtual 150, 3) := by decide +kernel
theorem dX11_quarrel_40 : decode cX11_quarrel 40 = .ok (.invokevirtual 111, 3) := by decide +kernel
theorem dX11_quarrel_43 : decode cX11_quarrel 43 = .ok (.ifCond .eq 18, 3) := by decide +kernel
theorem dX11_quarrel_46 : decode cX11_quarrel 46 = .ok (.aload_n 0, 1) := by decide +kernel
theorem dX11_quarrel_47 : decode cX11_quarrel 47 = .ok (.aload_n 0, 1) := by decide +kernel
theorem dX11_quarrel_48 : decode cX11_quarrel 48 = .ok (.getfield 37, 3) := by decide +kernel
theorem dX11_quarrel_51 : decode cX11_quarrel 51 = .ok (.iload_n 2, 1) := by decide +kernel
theorem dX11_quarrel_52 : decode cX11_quarrel 52 = .ok (.invokevirtual 150, 3) := by decide +kernel
theorem dX11_quarrel_55 : decode cX11_quarrel 55 = .ok (.invokevirtual 111, 3) := by decide +kernel
theorem dX11_quarrel_58 : decode cX11_quarrel 58 = .ok (.ifCond .ne 5, 3) := by decide +kernel
theorem dX11_quarrel_61 : decode cX11_quarrel 61 = .ok (.iconst (-1), 1) := by decide +kernel
theorem dX11_quarrel_62 : decode cX11_quarrel 62 = .ok (.ireturn, 1) := by decide +kernel
theorem dX11_quarrel_63 : decode cX11_quarrel 63 = .ok (.aload_n 0, 1) := by decide +kernel
theorem dX11_quarrel_64 : decode cX11_quarrel 64 = .ok (.getfield 37, 3) := by decide +kernel
theorem dX11_quarrel_67 : decode cX11_quarrel 67 = .ok (.iload_n 1, 1) := by decide +kernel
theorem dX11_quarrel_68 : decode cX11_quarrel 68 = .ok (.iload_n 2, 1) := by decide +kernel
theorem dX11_quarrel_69 : decode cX11_quarrel 69 = .ok (.iload_n 3, 1) := by decide +kernel
theorem dX11_quarrel_70 : decode cX11_quarrel 70 = .ok (.invokevirtual 154, 3) := by decide +kernel
theorem dX11_quarrel_73 : decode cX11_quarrel 73 = .ok (.istore 5, 2) := by decide +kernel
theorem dX11_quarrel_75 : decode cX11_quarrel 75 = .ok (.aload_n 0, 1) := by decide +kernel
theorem dX11_quarrel_76 : decode cX11_quarrel 76 = .ok (.getfield 37, 3) := by decide +kernel
theorem dX11_quarrel_79 : decode cX11_quarrel 79 = .ok (.iload 5, 2) := by decide +kernel
theorem dX11_quarrel_81 : decode cX11_quarrel 81 = .ok (.invokevirtual 157, 3) := by decide +kernel
theorem dX11_quarrel_84 : decode cX11_quarrel 84 = .ok (.astore 6, 2) := by decide +kernel
theorem dX11_quarrel_86 : decode cX11_quarrel 86 = .ok (.aload 6, 2) := by decide +kernel
theorem dX11_quarrel_88 : decode cX11_quarrel 88 = .ok (.ifnonnull 5, 3) := by decide +kernel
theorem dX11_quarrel_91 : decode cX11_quarrel 91 = .ok (.iconst (-1), 1) := by decide +kernel
theorem dX11_quarrel_92 : decode cX11_quarrel 92 = .ok (.ireturn, 1) := by decide +kernel
theorem dX11_quarrel_93 : decode cX11_quarrel 93 = .ok (.aload_n 0, 1) := by decide +kernel
theorem dX11_quarrel_94 : decode cX11_quarrel 94 = .ok (.aload 6, 2) := by decide +kernel
theorem dX11_quarrel_96 : decode cX11_quarrel 96 = .ok (.invokevirtual 161, 3) := by decide +kernel
theorem dX11_quarrel_99 : decode cX11_quarrel 99 = .ok (.aload 6, 2) := by decide +kernel
theorem dX11_quarrel_101 : decode cX11_quarrel 101 = .ok (.iload 4, 2) := by decide +kernel
theorem dX11_quarrel_103 : decode cX11_quarrel 103 = .ok (.aload_n 0, 1) := by decide +kernel
theorem dX11_quarrel_104 : decode cX11_quarrel 104 = .ok (.getfield 55, 3) := by decide +kernel
theorem dX11_quarrel_107 : decode cX11_quarrel 107 = .ok (.iload 4, 2) := by decide +kernel
theorem dX11_quarrel_109 : decode cX11_quarrel 109 = .ok (.iconst 1, 1) := by decide +kernel
theorem dX11_quarrel_110 : decode cX11_quarrel 110 = .ok (.invokevirtual 165, 3) := by decide +kernel
theorem dX11_quarrel_113 : decode cX11_quarrel 113 = .ok (.invokevirtual 169, 3) := by decide +kernel
theorem dX11_quarrel_116 : decode cX11_quarrel 116 = .ok (.iload 5, 2) := by decide +kernel
theorem dX11_quarrel_118 : decode cX11_quarrel 118 = .ok (.ireturn, 1) := by decide +kernel
theorem dX11_state_0 : decode cX11_state 0 = .ok (.aload_n 0, 1) := by decide +kernel
theorem dX11_state_1 : decode cX11_state 1 = .ok (.getfield 37, 3) := by decide +kernel
theorem dX11_state_4 : decode cX11_state 4 = .ok (.iload_n 1, 1) := by decide +kernel
theorem dX11_state_5 : decode cX11_state 5 = .ok (.invokevirtual 157, 3) := by decide +kernel
theorem dX11_state_8 : decode cX11_state 8 = .ok (.astore_n 3, 1) := by decide +kernel
theorem dX11_state_9 : decode cX11_state 9 = .ok (.aload_n 3, 1) := by decide +kernel
theorem dX11_state_10 : decode cX11_state 10 = .ok (.ifnonnull 5, 3) := by decide +kernel
theorem dX11_state_13 : decode cX11_state 13 = .ok (.iconst (-1), 1) := by decide +kernel
theorem dX11_state_14 : decode cX11_state 14 = .ok (.ireturn, 1) := by decide +kernel
theorem dX11_state_15 : decode cX11_state 15 = .ok (.aload_n 3, 1) := by decide +kernel
theorem dX11_state_16 : decode cX11_state 16 = .ok (.invokevirtual 173, 3) := by decide +kernel
theorem dX11_state_19 : decode cX11_state 19 = .ok (.istore 4, 2) := by decide +kernel
theorem dX11_state_21 : decode cX11_state 21 = .ok (.iload_n 2, 1) := by decide +kernel
theorem dX11_state_22 : decode cX11_state 22 = .ok (.tableswitch 109 0 7 #[46, 52, 58, 65, 72, 90, 98, 104], 46) := by decide +kernel
theorem dX11_state_68 : decode cX11_state 68 = .ok (.iload 4, 2) := by decide +kernel
theorem dX11_state_70 : decode cX11_state 70 = .ok (.invokestatic 177, 3) := by decide +kernel
theorem dX11_state_73 : decode cX11_state 73 = .ok (.ireturn, 1) := by decide +kernel
theorem dX11_state_74 : decode cX11_state 74 = .ok (.iload 4, 2) := by decide +kernel
theorem dX11_state_76 : decode cX11_state 76 = .ok (.invokestatic 182, 3) := by decide +kernel
theorem dX11_state_79 : decode cX11_state 79 = .ok (.ireturn, 1) := by decide +kernel
theorem dX11_state_80 : decode cX11_state 80 = .ok (.iload 4, 2) := by decide +kernel
theorem dX11_state_82 : decode cX11_state 82 = .ok (.iconst 0, 1) := by decide +kernel
theorem dX11_state_83 : decode cX11_state 83 = .ok (.invokestatic 185, 3) := by decide +kernel
theorem dX11_state_86 : decode cX11_state 86 = .ok (.ireturn, 1) := by decide +kernel
theorem dX11_state_87 : decode cX11_state 87 = .ok (.iload 4, 2) := by decide +kernel
theorem dX11_state_89 : decode cX11_state 89 = .ok (.iconst 1, 1) := by decide +kernel
theorem dX11_state_90 : decode cX11_state 90 = .ok (.invokestatic 185, 3) := by decide +kernel
theorem dX11_state_93 : decode cX11_state 93 = .ok (.ireturn, 1) := by decide +kernel
theorem dX11_state_94 : decode cX11_state 94 = .ok (.iload 4, 2) := by decide +kernel
theorem dX11_state_96 : decode cX11_state 96 = .ok (.invokestatic 177, 3) := by decide +kernel
theorem dX11_state_99 : decode cX11_state 99 = .ok (.ifCond .ne 11, 3) := by decide +kernel
theorem dX11_state_102 : decode cX11_state 102 = .ok (.iload 4, 2) := by decide +kernel
theorem dX11_state_104 : decode cX11_state 104 = .ok (.invokestatic 189, 3) := by decide +kernel
theorem dX11_state_107 : decode cX11_state 107 = .ok (.goto 4, 3) := by decide +kernel
theorem dX11_state_110 : decode cX11_state 110 = .ok (.iconst (-1), 1) := by decide +kernel
theorem dX11_state_111 : decode cX11_state 111 = .ok (.ireturn, 1) := by decide +kernel
theorem dX11_state_112 : decode cX11_state 112 = .ok (.iload 4, 2) := by decide +kernel
theorem dX11_state_114 : decode cX11_state 114 = .ok (.invokestatic 192, 3) := by decide +kernel
theorem dX11_state_117 : decode cX11_state 117 = .ok (.iconst 1, 1) := by decide +kernel
theorem dX11_state_118 : decode cX11_state 118 = .ok (.isub, 1) := by decide +kernel
theorem dX11_state_119 : decode cX11_state 119 = .ok (.ireturn, 1) := by decide +kernel
theorem dX11_state_120 : decode cX11_state 120 = .ok (.iload 4, 2) := by decide +kernel
theorem dX11_state_122 : decode cX11_state 122 = .ok (.invokestatic 195, 3) := by decide +kernel
theorem dX11_state_125 : decode cX11_state 125 = .ok (.ireturn, 1) := by decide +kernel
theorem dX11_state_126 : decode cX11_state 126 = .ok (.aload_n 3, 1) := by decide +kernel
theorem dX11_state_127 : decode cX11_state 127 = .ok (.getfield 198, 3) := by decide +kernel
theorem dX11_state_130 : decode cX11_state 130 = .ok (.ireturn, 1) := by decide +kernel
theorem dX11_state_131 : decode cX11_state 131 = .ok (.iconst (-1), 1) := by decide +kernel
theorem dX11_state_132 : decode cX11_state 132 = .ok (.ireturn, 1) := by decide +kernel
theorem dX11_may_0 : decode cX11_may 0 = .ok (.aload_n 0, 1) := by decide +kernel
theorem dX11_may_1 : decode cX11_may 1 = .ok (.getfield 37, 3) := by decide +kernel
theorem dX11_may_4 : decode cX11_may 4 = .ok (.iload_n 1, 1) := by decide +kernel
theorem dX11_may_5 : decode cX11_may 5 = .ok (.invokevirtual 157, 3) := by decide +kernel
theorem dX11_may_8 : decode cX11_may 8 = .ok (.astore_n 2, 1) := by decide +kernel
theorem dX11_may_9 : decode cX11_may 9 = .ok (.aload_n 2, 1) := by decide +kernel
theorem dX11_may_10 : decode cX11_may 10 = .ok (.ifnonnull 5, 3) := by decide +kernel
theorem dX11_may_13 : decode cX11_may 13 = .ok (.iconst (-1), 1) := by decide +kernel
theorem dX11_may_14 : decode cX11_may 14 = .ok (.ireturn, 1) := by decide +kernel
theorem dX11_may_15 : decode cX11_may 15 = .ok (.aload_n 0, 1) := by decide +kernel
theorem dX11_may_16 : decode cX11_may 16 = .ok (.aload_n 2, 1) := by decide +kernel
theorem dX11_may_17 : decode cX11_may 17 = .ok (.invokevirtual 161, 3) := by decide +kernel
theorem dX11_may_20 : decode cX11_may 20 = .ok (.aload_n 2, 1) := by decide +kernel
theorem dX11_may_21 : decode cX11_may 21 = .ok (.invokevirtual 173, 3) := by decide +kernel
theorem dX11_may_24 : decode cX11_may 24 = .ok (.istore_n 3, 1) := by decide +kernel
theorem dX11_may_25 : decode cX11_may 25 = .ok (.iconst 0, 1) := by decide +kernel
theorem dX11_may_26 : decode cX11_may 26 = .ok (.istore 4, 2) := by decide +kernel
theorem dX11_may_28 : decode cX11_may 28 = .ok (.iconst 0, 1) := by decide +kernel
theorem dX11_may_29 : decode cX11_may 29 = .ok (.istore 5, 2) := by decide +kernel
theorem dX11_may_31 : decode cX11_may 31 = .ok (.iload 5, 2) := by decide +kernel
theorem dX11_may_33 : decode cX11_may 33 = .ok (.bipush 11, 2) := by decide +kernel
theorem dX11_may_35 : decode cX11_may 35 = .ok (.if_icmp .ge 31, 3) := by decide +kernel
theorem dX11_may_38 : decode cX11_may 38 = .ok (.aload_n 0, 1) := by decide +kernel
theorem dX11_may_39 : decode cX11_may 39 = .ok (.getfield 55, 3) := by decide +kernel
theorem dX11_may_42 : decode cX11_may 42 = .ok (.iload_n 3, 1) := by decide +kernel
theorem dX11_may_43 : decode cX11_may 43 = .ok (.iload 5, 2) := by decide +kernel
theorem dX11_may_45 : decode cX11_may 45 = .ok (.invokevirtual 201, 3) := by decide +kernel
theorem dX11_may_48 : decode cX11_may 48 = .ok (.ifCond .eq 12, 3) := by decide +kernel
theorem dX11_may_51 : decode cX11_may 51 = .ok (.iload 4, 2) := by decide +kernel
theorem dX11_may_53 : decode cX11_may 53 = .ok (.iconst 1, 1) := by decide +kernel
theorem dX11_may_54 : decode cX11_may 54 = .ok (.iload 5, 2) := by decide +kernel
theorem dX11_may_56 : decode cX11_may 56 = .ok (.ishl, 1) := by decide +kernel
theorem dX11_may_57 : decode cX11_may 57 = .ok (.ior, 1) := by decide +kernel
theorem dX11_may_58 : decode cX11_may 58 = .ok (.istore 4, 2) := by decide +kernel
theorem dX11_may_60 : decode cX11_may 60 = .ok (.iinc 5 1, 3) := by decide +kernel
theorem dX11_may_63 : decode cX11_may 63 = .ok (.goto (-32), 3) := by decide +kernel
theorem dX11_may_66 : decode cX11_may 66 = .ok (.iload 4, 2) := by decide +kernel
theorem dX11_may_68 : decode cX11_may 68 = .ok (.ireturn, 1) := by decide +kernel
theorem dX11_move_0 : decode cX11_move 0 = .ok (.aload_n 0, 1) := by decide +kernel
theorem dX11_move_1 : decode cX11_move 1 = .ok (.getfield 37, 3) := by decide +kernel
theorem dX11_move_4 : decode cX11_move 4 = .ok (.iload_n 1, 1) := by decide +kernel
theorem dX11_move_5 : decode cX11_move 5 = .ok (.invokevirtual 157, 3) := by decide +kernel
theorem dX11_move_8 : decode cX11_move 8 = .ok (.astore_n 3, 1) := by decide +kernel
theorem dX11_move_9 : decode cX11_move 9 = .ok (.aload_n 3, 1) := by decide +kernel
theorem dX11_move_10 : decode cX11_move 10 = .ok (.ifnonnull 5, 3) := by decide +kernel
theorem dX11_move_13 : decode cX11_move 13 = .ok (.iconst (-1), 1) := by decide +kernel
theorem dX11_move_14 : decode cX11_move 14 = .ok (.ireturn, 1) := by decide +kernel
theorem dX11_move_15 : decode cX11_move 15 = .ok (.aload_n 0, 1) := by decide +kernel
theorem dX11_move_16 : decode cX11_move 16 = .ok (.aload_n 3, 1) := by decide +kernel
theorem dX11_move_17 : decode cX11_move 17 = .ok (.invokevirtual 161, 3) := by decide +kernel
theorem dX11_move_20 : decode cX11_move 20 = .ok (.aload_n 3, 1) := by decide +kernel
theorem dX11_move_21 : decode cX11_move 21 = .ok (.invokevirtual 173, 3) := by decide +kernel
theorem dX11_move_24 : decode cX11_move 24 = .ok (.istore 4, 2) := by decide +kernel
theorem dX11_move_26 : decode cX11_move 26 = .ok (.aload_n 0, 1) := by decide +kernel
theorem dX11_move_27 : decode cX11_move 27 = .ok (.getfield 55, 3) := by decide +kernel
theorem dX11_move_30 : decode cX11_move 30 = .ok (.iload 4, 2) := by decide +kernel
theorem dX11_move_32 : decode cX11_move 32 = .ok (.iload_n 2, 1) := by decide +kernel
theorem dX11_move_33 : decode cX11_move 33 = .ok (.invokevirtual 201, 3) := by decide +kernel
theorem dX11_move_36 : decode cX11_move 36 = .ok (.ifCond .ne 5, 3) := by decide +kernel
theorem dX11_move_39 : decode cX11_move 39 = .ok (.iconst (-1), 1) := by decide +kernel
theorem dX11_move_40 : decode cX11_move 40 = .ok (.ireturn, 1) := by decide +kernel
theorem dX11_move_41 : decode cX11_move 41 = .ok (.aload_n 3, 1) := by decide +kernel
theorem dX11_move_42 : decode cX11_move 42 = .ok (.iload_n 2, 1) := by decide +kernel
theorem dX11_move_43 : decode cX11_move 43 = .ok (.aload_n 0, 1) := by decide +kernel
theorem dX11_move_44 : decode cX11_move 44 = .ok (.getfield 55, 3) := by decide +kernel
theorem dX11_move_47 : decode cX11_move 47 = .ok (.iload 4, 2) := by decide +kernel
theorem dX11_move_49 : decode cX11_move 49 = .ok (.iload_n 2, 1) := by decide +kernel
theorem dX11_move_50 : decode cX11_move 50 = .ok (.iconst 1, 1) := by decide +kernel
theorem dX11_move_51 : decode cX11_move 51 = .ok (.invokevirtual 204, 3) := by decide +kernel
theorem dX11_move_54 : decode cX11_move 54 = .ok (.invokevirtual 169, 3) := by decide +kernel
theorem dX11_move_57 : decode cX11_move 57 = .ok (.aload_n 3, 1) := by decide +kernel
theorem dX11_move_58 : decode cX11_move 58 = .ok (.invokevirtual 173, 3) := by decide +kernel
theorem dX11_move_61 : decode cX11_move 61 = .ok (.invokestatic 177, 3) := by decide +kernel
theorem dX11_move_64 : decode cX11_move 64 = .ok (.ireturn, 1) := by decide +kernel
theorem dX11_history_0 : decode cX11_history 0 = .ok (.aload_n 0, 1) := by decide +kernel
theorem dX11_history_1 : decode cX11_history 1 = .ok (.getfield 37, 3) := by decide +kernel
theorem dX11_history_4 : decode cX11_history 4 = .ok (.iload_n 1, 1) := by decide +kernel
theorem dX11_history_5 : decode cX11_history 5 = .ok (.invokevirtual 157, 3) := by decide +kernel
theorem dX11_history_8 : decode cX11_history 8 = .ok (.astore_n 3, 1) := by decide +kernel
theorem dX11_history_9 : decode cX11_history 9 = .ok (.aload_n 3, 1) := by decide +kernel
theorem dX11_history_10 : decode cX11_history 10 = .ok (.ifnonnull 5, 3) := by decide +kernel
theorem dX11_history_13 : decode cX11_history 13 = .ok (.iconst (-1), 1) := by decide +kernel
theorem dX11_history_14 : decode cX11_history 14 = .ok (.ireturn, 1) := by decide +kernel
theorem dX11_history_15 : decode cX11_history 15 = .ok (.aload_n 3, 1) := by decide +kernel
theorem dX11_history_16 : decode cX11_history 16 = .ok (.iload_n 2, 1) := by decide +kernel
theorem dX11_history_17 : decode cX11_history 17 = .ok (.invokevirtual 208, 3) := by decide +kernel
theorem dX11_history_20 : decode cX11_history 20 = .ok (.ireturn, 1) := by decide +kernel
theorem dX11_ends_0 : decode cX11_ends 0 = .ok (.aload_n 0, 1) := by decide +kernel
theorem dX11_ends_1 : decode cX11_ends 1 = .ok (.getfield 37, 3) := by decide +kernel
theorem dX11_ends_4 : decode cX11_ends 4 = .ok (.iload_n 1, 1) := by decide +kernel
theorem dX11_ends_5 : decode cX11_ends 5 = .ok (.invokevirtual 157, 3) := by decide +kernel
theorem dX11_ends_8 : decode cX11_ends 8 = .ok (.astore_n 2, 1) := by decide +kernel
theorem dX11_ends_9 : decode cX11_ends 9 = .ok (.aload_n 2, 1) := by decide +kernel
theorem dX11_ends_10 : decode cX11_ends 10 = .ok (.ifnonnull 5, 3) := by decide +kernel
theorem dX11_ends_13 : decode cX11_ends 13 = .ok (.iconst (-1), 1) := by decide +kernel
theorem dX11_ends_14 : decode cX11_ends 14 = .ok (.ireturn, 1) := by decide +kernel
theorem dX11_ends_15 : decode cX11_ends 15 = .ok (.aload_n 0, 1) := by decide +kernel
theorem dX11_ends_16 : decode cX11_ends 16 = .ok (.aload_n 2, 1) := by decide +kernel
theorem dX11_ends_17 : decode cX11_ends 17 = .ok (.invokevirtual 161, 3) := by decide +kernel
theorem dX11_ends_20 : decode cX11_ends 20 = .ok (.aload_n 0, 1) := by decide +kernel
theorem dX11_ends_21 : decode cX11_ends 21 = .ok (.getfield 69, 3) := by decide +kernel
theorem dX11_ends_24 : decode cX11_ends 24 = .ok (.aload_n 0, 1) := by decide +kernel
theorem dX11_ends_25 : decode cX11_ends 25 = .ok (.getfield 55, 3) := by decide +kernel
theorem dX11_ends_28 : decode cX11_ends 28 = .ok (.aload_n 2, 1) := by decide +kernel
theorem dX11_ends_29 : decode cX11_ends 29 = .ok (.invokevirtual 173, 3) := by decide +kernel
theorem dX11_ends_32 : decode cX11_ends 32 = .ok (.invokevirtual 211, 3) := by decide +kernel
theorem dX11_ends_35 : decode cX11_ends 35 = .ok (.aload_n 0, 1) := by decide +kernel
theorem dX11_ends_36 : decode cX11_ends 36 = .ok (.getfield 69, 3) := by decide +kernel
theorem dX11_ends_39 : decode cX11_ends 39 = .ok (.invokevirtual 215, 3) := by decide +kernel
theorem dX11_ends_42 : decode cX11_ends 42 = .ok (.ireturn, 1) := by decide +kernel
theorem dX11_ways_0 : decode cX11_ways 0 = .ok (.aload_n 0, 1) := by decide +kernel
theorem dX11_ways_1 : decode cX11_ways 1 = .ok (.getfield 37, 3) := by decide +kernel
theorem dX11_ways_4 : decode cX11_ways 4 = .ok (.iload_n 1, 1) := by decide +kernel
theorem dX11_ways_5 : decode cX11_ways 5 = .ok (.invokevirtual 157, 3) := by decide +kernel
theorem dX11_ways_8 : decode cX11_ways 8 = .ok (.astore_n 3, 1) := by decide +kernel
theorem dX11_ways_9 : decode cX11_ways 9 = .ok (.aload_n 3, 1) := by decide +kernel
theorem dX11_ways_10 : decode cX11_ways 10 = .ok (.ifnull 13, 3) := by decide +kernel
theorem dX11_ways_13 : decode cX11_ways 13 = .ok (.iload_n 2, 1) := by decide +kernel
theorem dX11_ways_14 : decode cX11_ways 14 = .ok (.iconst 0, 1) := by decide +kernel
theorem dX11_ways_15 : decode cX11_ways 15 = .ok (.bipush 19, 2) := by decide +kernel
theorem dX11_ways_17 : decode cX11_ways 17 = .ok (.invokestatic 73, 3) := by decide +kernel
theorem dX11_ways_20 : decode cX11_ways 20 = .ok (.ifCond .ne 7, 3) := by decide +kernel
theorem dX11_ways_23 : decode cX11_ways 23 = .ok (.ldc2_w 218, 3) := by decide +kernel
theorem dX11_ways_26 : decode cX11_ways 26 = .ok (.lreturn, 1) := by decide +kernel
theorem dX11_ways_27 : decode cX11_ways 27 = .ok (.aload_n 0, 1) := by decide +kernel
theorem dX11_ways_28 : decode cX11_ways 28 = .ok (.aload_n 3, 1) := by decide +kernel
theorem dX11_ways_29 : decode cX11_ways 29 = .ok (.invokevirtual 161, 3) := by decide +kernel
theorem dX11_ways_32 : decode cX11_ways 32 = .ok (.aload_n 0, 1) := by decide +kernel
theorem dX11_ways_33 : decode cX11_ways 33 = .ok (.getfield 69, 3) := by decide +kernel
theorem dX11_ways_36 : decode cX11_ways 36 = .ok (.aload_n 0, 1) := by decide +kernel
theorem dX11_ways_37 : decode cX11_ways 37 = .ok (.getfield 55, 3) := by decide +kernel
theorem dX11_ways_40 : decode cX11_ways 40 = .ok (.aload_n 3, 1) := by decide +kernel
theorem dX11_ways_41 : decode cX11_ways 41 = .ok (.invokevirtual 173, 3) := by decide +kernel
theorem dX11_ways_44 : decode cX11_ways 44 = .ok (.invokevirtual 211, 3) := by decide +kernel
theorem dX11_ways_47 : decode cX11_ways 47 = .ok (.aload_n 0, 1) := by decide +kernel
theorem dX11_ways_48 : decode cX11_ways 48 = .ok (.getfield 69, 3) := by decide +kernel
theorem dX11_ways_51 : decode cX11_ways 51 = .ok (.iload_n 2, 1) := by decide +kernel
theorem dX11_ways_52 : decode cX11_ways 52 = .ok (.invokevirtual 220, 3) := by decide +kernel
theorem dX11_ways_55 : decode cX11_ways 55 = .ok (.lreturn, 1) := by decide +kernel
theorem dX11_brief_0 : decode cX11_brief 0 = .ok (.aload_n 0, 1) := by decide +kernel
theorem dX11_brief_1 : decode cX11_brief 1 = .ok (.getfield 37, 3) := by decide +kernel
theorem dX11_brief_4 : decode cX11_brief 4 = .ok (.iload_n 1, 1) := by decide +kernel
theorem dX11_brief_5 : decode cX11_brief 5 = .ok (.invokevirtual 157, 3) := by decide +kernel
theorem dX11_brief_8 : decode cX11_brief 8 = .ok (.astore 4, 2) := by decide +kernel
theorem dX11_brief_10 : decode cX11_brief 10 = .ok (.aload 4, 2) := by decide +kernel
theorem dX11_brief_12 : decode cX11_brief 12 = .ok (.ifnull 18, 3) := by decide +kernel
theorem dX11_brief_15 : decode cX11_brief 15 = .ok (.iload_n 2, 1) := by decide +kernel
theorem dX11_brief_16 : decode cX11_brief 16 = .ok (.iconst 0, 1) := by decide +kernel
theorem dX11_brief_17 : decode cX11_brief 17 = .ok (.bipush 19, 2) := by decide +kernel
theorem dX11_brief_19 : decode cX11_brief 19 = .ok (.invokestatic 73, 3) := by decide +kernel
theorem dX11_brief_22 : decode cX11_brief 22 = .ok (.ifCond .eq 8, 3) := by decide +kernel
theorem dX11_brief_25 : decode cX11_brief 25 = .ok (.iload_n 3, 1) := by decide +kernel
theorem dX11_brief_26 : decode cX11_brief 26 = .ok (.iconst (-1), 1) := by decide +kernel
theorem dX11_brief_27 : decode cX11_brief 27 = .ok (.if_icmp .ge 5, 3) := by decide +kernel
theorem dX11_brief_30 : decode cX11_brief 30 = .ok (.iconst (-1), 1) := by decide +kernel
theorem dX11_brief_31 : decode cX11_brief 31 = .ok (.ireturn, 1) := by decide +kernel
theorem dX11_brief_32 : decode cX11_brief 32 = .ok (.aload_n 0, 1) := by decide +kernel
theorem dX11_brief_33 : decode cX11_brief 33 = .ok (.aload 4, 2) := by decide +kernel
theorem dX11_brief_35 : decode cX11_brief 35 = .ok (.invokevirtual 161, 3) := by decide +kernel
theorem dX11_brief_38 : decode cX11_brief 38 = .ok (.aload_n 0, 1) := by decide +kernel
theorem dX11_brief_39 : decode cX11_brief 39 = .ok (.getfield 69, 3) := by decide +kernel
theorem dX11_brief_42 : decode cX11_brief 42 = .ok (.aload_n 0, 1) := by decide +kernel
theorem dX11_brief_43 : decode cX11_brief 43 = .ok (.getfield 55, 3) := by decide +kernel
theorem dX11_brief_46 : decode cX11_brief 46 = .ok (.aload 4, 2) := by decide +kernel
theorem dX11_brief_48 : decode cX11_brief 48 = .ok (.invokevirtual 173, 3) := by decide +kernel
theorem dX11_brief_51 : decode cX11_brief 51 = .ok (.invokevirtual 211, 3) := by decide +kernel
theorem dX11_brief_54 : decode cX11_brief 54 = .ok (.aload_n 0, 1) := by decide +kernel
theorem dX11_brief_55 : decode cX11_brief 55 = .ok (.getfield 69, 3) := by decide +kernel
theorem dX11_brief_58 : decode cX11_brief 58 = .ok (.iload_n 2, 1) := by decide +kernel
theorem dX11_brief_59 : decode cX11_brief 59 = .ok (.invokevirtual 220, 3) := by decide +kernel
theorem dX11_brief_62 : decode cX11_brief 62 = .ok (.lconst 0, 1) := by decide +kernel
theorem dX11_brief_63 : decode cX11_brief 63 = .ok (.lcmp, 1) := by decide +kernel
theorem dX11_brief_64 : decode cX11_brief 64 = .ok (.ifCond .ne 6, 3) := by decide +kernel
theorem dX11_brief_67 : decode cX11_brief 67 = .ok (.bipush (-2), 2) := by decide +kernel
theorem dX11_brief_69 : decode cX11_brief 69 = .ok (.ireturn, 1) := by decide +kernel
theorem dX11_brief_70 : decode cX11_brief 70 = .ok (.aload_n 0, 1) := by decide +kernel
theorem dX11_brief_71 : decode cX11_brief 71 = .ok (.getfield 69, 3) := by decide +kernel
theorem dX11_brief_74 : decode cX11_brief 74 = .ok (.iload_n 2, 1) := by decide +kernel
theorem dX11_brief_75 : decode cX11_brief 75 = .ok (.invokevirtual 224, 3) := by decide +kernel
theorem dX11_brief_78 : decode cX11_brief 78 = .ok (.istore 5, 2) := by decide +kernel
theorem dX11_brief_80 : decode cX11_brief 80 = .ok (.iload_n 3, 1) := by decide +kernel
theorem dX11_brief_81 : decode cX11_brief 81 = .ok (.iconst (-1), 1) := by decide +kernel
theorem dX11_brief_82 : decode cX11_brief 82 = .ok (.if_icmp .ne 6, 3) := by decide +kernel
theorem dX11_brief_85 : decode cX11_brief 85 = .ok (.iload 5, 2) := by decide +kernel
theorem dX11_brief_87 : decode cX11_brief 87 = .ok (.ireturn, 1) := by decide +kernel
theorem dX11_brief_88 : decode cX11_brief 88 = .ok (.iload_n 3, 1) := by decide +kernel
theorem dX11_brief_89 : decode cX11_brief 89 = .ok (.iload 5, 2) := by decide +kernel
theorem dX11_brief_91 : decode cX11_brief 91 = .ok (.if_icmp .ge 20, 3) := by decide +kernel
theorem dX11_brief_94 : decode cX11_brief 94 = .ok (.aload_n 0, 1) := by decide +kernel
theorem dX11_brief_95 : decode cX11_brief 95 = .ok (.getfield 69, 3) := by decide +kernel
theorem dX11_brief_98 : decode cX11_brief 98 = .ok (.iload_n 2, 1) := by decide +kernel
theorem dX11_brief_99 : decode cX11_brief 99 = .ok (.iload 5, 2) := by decide +kernel
theorem dX11_brief_101 : decode cX11_brief 101 = .ok (.iconst 1, 1) := by decide +kernel
theorem dX11_brief_102 : decode cX11_brief 102 = .ok (.isub, 1) := by decide +kernel
theorem dX11_brief_103 : decode cX11_brief 103 = .ok (.iload_n 3, 1) := by decide +kernel
theorem dX11_brief_104 : decode cX11_brief 104 = .ok (.isub, 1) := by decide +kernel
theorem dX11_brief_105 : decode cX11_brief 105 = .ok (.invokevirtual 227, 3) := by decide +kernel
theorem dX11_brief_108 : decode cX11_brief 108 = .ok (.goto 4, 3) := by decide +kernel
theorem dX11_brief_111 : decode cX11_brief 111 = .ok (.iconst (-1), 1) := by decide +kernel
theorem dX11_brief_112 : decode cX11_brief 112 = .ok (.ireturn, 1) := by decide +kernel
theorem dX11_must_0 : decode cX11_must 0 = .ok (.aload_n 0, 1) := by decide +kernel
theorem dX11_must_1 : decode cX11_must 1 = .ok (.getfield 37, 3) := by decide +kernel
theorem dX11_must_4 : decode cX11_must 4 = .ok (.iload_n 1, 1) := by decide +kernel
theorem dX11_must_5 : decode cX11_must 5 = .ok (.invokevirtual 157, 3) := by decide +kernel
theorem dX11_must_8 : decode cX11_must 8 = .ok (.astore_n 2, 1) := by decide +kernel
theorem dX11_must_9 : decode cX11_must 9 = .ok (.aload_n 2, 1) := by decide +kernel
theorem dX11_must_10 : decode cX11_must 10 = .ok (.ifnonnull 5, 3) := by decide +kernel
theorem dX11_must_13 : decode cX11_must 13 = .ok (.iconst (-1), 1) := by decide +kernel
theorem dX11_must_14 : decode cX11_must 14 = .ok (.ireturn, 1) := by decide +kernel
theorem dX11_must_15 : decode cX11_must 15 = .ok (.aload_n 2, 1) := by decide +kernel
theorem dX11_must_16 : decode cX11_must 16 = .ok (.invokevirtual 173, 3) := by decide +kernel
theorem dX11_must_19 : decode cX11_must 19 = .ok (.invokestatic 230, 3) := by decide +kernel
theorem dX11_must_22 : decode cX11_must 22 = .ok (.ifCond .eq 7, 3) := by decide +kernel
theorem dX11_must_25 : decode cX11_must 25 = .ok (.iconst 1, 1) := by decide +kernel
theorem dX11_must_26 : decode cX11_must 26 = .ok (.goto 4, 3) := by decide +kernel
theorem dX11_must_29 : decode cX11_must 29 = .ok (.iconst 0, 1) := by decide +kernel
theorem dX11_must_30 : decode cX11_must 30 = .ok (.ireturn, 1) := by decide +kernel
theorem dX11_late_0 : decode cX11_late 0 = .ok (.aload_n 0, 1) := by decide +kernel
theorem dX11_late_1 : decode cX11_late 1 = .ok (.getfield 37, 3) := by decide +kernel
theorem dX11_late_4 : decode cX11_late 4 = .ok (.iload_n 1, 1) := by decide +kernel
theorem dX11_late_5 : decode cX11_late 5 = .ok (.invokevirtual 157, 3) := by decide +kernel
theorem dX11_late_8 : decode cX11_late 8 = .ok (.astore_n 2, 1) := by decide +kernel
theorem dX11_late_9 : decode cX11_late 9 = .ok (.aload_n 2, 1) := by decide +kernel
theorem dX11_late_10 : decode cX11_late 10 = .ok (.ifnonnull 5, 3) := by decide +kernel
theorem dX11_late_13 : decode cX11_late 13 = .ok (.iconst (-1), 1) := by decide +kernel
theorem dX11_late_14 : decode cX11_late 14 = .ok (.ireturn, 1) := by decide +kernel
theorem dX11_late_15 : decode cX11_late 15 = .ok (.iconst 0, 1) := by decide +kernel
theorem dX11_late_16 : decode cX11_late 16 = .ok (.istore_n 3, 1) := by decide +kernel
theorem dX11_late_17 : decode cX11_late 17 = .ok (.iload_n 3, 1) := by decide +kernel
theorem dX11_late_18 : decode cX11_late 18 = .ok (.aload_n 2, 1) := by decide +kernel
theorem dX11_late_19 : decode cX11_late 19 = .ok (.getfield 198, 3) := by decide +kernel
theorem dX11_late_22 : decode cX11_late 22 = .ok (.if_icmp .ge 24, 3) := by decide +kernel
theorem dX11_late_25 : decode cX11_late 25 = .ok (.aload_n 2, 1) := by decide +kernel
theorem dX11_late_26 : decode cX11_late 26 = .ok (.iload_n 3, 1) := by decide +kernel
theorem dX11_late_27 : decode cX11_late 27 = .ok (.invokevirtual 233, 3) := by decide +kernel
theorem dX11_late_30 : decode cX11_late 30 = .ok (.invokestatic 230, 3) := by decide +kernel
theorem dX11_late_33 : decode cX11_late 33 = .ok (.ifCond .eq 7, 3) := by decide +kernel
theorem dX11_late_36 : decode cX11_late 36 = .ok (.iload_n 3, 1) := by decide +kernel
theorem dX11_late_37 : decode cX11_late 37 = .ok (.iconst 1, 1) := by decide +kernel
theorem dX11_late_38 : decode cX11_late 38 = .ok (.iadd, 1) := by decide +kernel
theorem dX11_late_39 : decode cX11_late 39 = .ok (.ireturn, 1) := by decide +kernel
theorem dX11_late_40 : decode cX11_late 40 = .ok (.iinc 3 1, 3) := by decide +kernel
theorem dX11_late_43 : decode cX11_late 43 = .ok (.goto (-26), 3) := by decide +kernel
theorem dX11_late_46 : decode cX11_late 46 = .ok (.bipush (-2), 2) := by decide +kernel
theorem dX11_late_48 : decode cX11_late 48 = .ok (.ireturn, 1) := by decide +kernel
theorem dX11_game_0 : decode cX11_game 0 = .ok (.aload_n 0, 1) := by decide +kernel
theorem dX11_game_1 : decode cX11_game 1 = .ok (.getfield 37, 3) := by decide +kernel
theorem dX11_game_4 : decode cX11_game 4 = .ok (.iload_n 1, 1) := by decide +kernel
theorem dX11_game_5 : decode cX11_game 5 = .ok (.invokevirtual 157, 3) := by decide +kernel
theorem dX11_game_8 : decode cX11_game 8 = .ok (.astore_n 3, 1) := by decide +kernel
theorem dX11_game_9 : decode cX11_game 9 = .ok (.aload_n 3, 1) := by decide +kernel
theorem dX11_game_10 : decode cX11_game 10 = .ok (.ifnull 12, 3) := by decide +kernel
theorem dX11_game_13 : decode cX11_game 13 = .ok (.iload_n 2, 1) := by decide +kernel
theorem dX11_game_14 : decode cX11_game 14 = .ok (.iconst 0, 1) := by decide +kernel
theorem dX11_game_15 : decode cX11_game 15 = .ok (.iconst 1, 1) := by decide +kernel
theorem dX11_game_16 : decode cX11_game 16 = .ok (.invokestatic 73, 3) := by decide +kernel
theorem dX11_game_19 : decode cX11_game 19 = .ok (.ifCond .ne 5, 3) := by decide +kernel
theorem dX11_game_22 : decode cX11_game 22 = .ok (.iconst (-1), 1) := by decide +kernel
theorem dX11_game_23 : decode cX11_game 23 = .ok (.ireturn, 1) := by decide +kernel
theorem dX11_game_24 : decode cX11_game 24 = .ok (.aload_n 0, 1) := by decide +kernel
theorem dX11_game_25 : decode cX11_game 25 = .ok (.aload_n 3, 1) := by decide +kernel
theorem dX11_game_26 : decode cX11_game 26 = .ok (.invokevirtual 161, 3) := by decide +kernel
theorem dX11_game_29 : decode cX11_game 29 = .ok (.aload_n 3, 1) := by decide +kernel
theorem dX11_game_30 : decode cX11_game 30 = .ok (.invokevirtual 173, 3) := by decide +kernel
theorem dX11_game_33 : decode cX11_game 33 = .ok (.istore 4, 2) := by decide +kernel
theorem dX11_game_35 : decode cX11_game 35 = .ok (.aload_n 0, 1) := by decide +kernel
theorem dX11_game_36 : decode cX11_game 36 = .ok (.getfield 62, 3) := by decide +kernel
theorem dX11_game_39 : decode cX11_game 39 = .ok (.invokevirtual 236, 3) := by decide +kernel
theorem dX11_game_42 : decode cX11_game 42 = .ok (.iload_n 2, 1) := by decide +kernel
theorem dX11_game_43 : decode cX11_game 43 = .ok (.ifCond .ne 17, 3) := by decide +kernel
theorem dX11_game_46 : decode cX11_game 46 = .ok (.aload_n 0, 1) := by decide +kernel
theorem dX11_game_47 : decode cX11_game 47 = .ok (.getfield 62, 3) := by decide +kernel
theorem dX11_game_50 : decode cX11_game 50 = .ok (.aload_n 0, 1) := by decide +kernel
theorem dX11_game_51 : decode cX11_game 51 = .ok (.getfield 55, 3) := by decide +kernel
theorem dX11_game_54 : decode cX11_game 54 = .ok (.iload 4, 2) := by decide +kernel
theorem dX11_game_56 : decode cX11_game 56 = .ok (.invokevirtual 239, 3) := by decide +kernel
theorem dX11_game_59 : decode cX11_game 59 = .ok (.ireturn, 1) := by decide +kernel
theorem dX11_game_60 : decode cX11_game 60 = .ok (.iload 4, 2) := by decide +kernel
theorem dX11_game_62 : decode cX11_game 62 = .ok (.invokestatic 177, 3) := by decide +kernel
theorem dX11_game_65 : decode cX11_game 65 = .ok (.ifCond .ne 19, 3) := by decide +kernel
theorem dX11_game_68 : decode cX11_game 68 = .ok (.aload_n 0, 1) := by decide +kernel
theorem dX11_game_69 : decode cX11_game 69 = .ok (.getfield 62, 3) := by decide +kernel
theorem dX11_game_72 : decode cX11_game 72 = .ok (.aload_n 0, 1) := by decide +kernel
theorem dX11_game_73 : decode cX11_game 73 = .ok (.getfield 55, 3) := by decide +kernel
theorem dX11_game_76 : decode cX11_game 76 = .ok (.iload 4, 2) := by decide +kernel
theorem dX11_game_78 : decode cX11_game 78 = .ok (.invokevirtual 243, 3) := by decide +kernel
theorem dX11_game_81 : decode cX11_game 81 = .ok (.goto 4, 3) := by decide +kernel
theorem dX11_game_84 : decode cX11_game 84 = .ok (.iconst (-1), 1) := by decide +kernel
theorem dX11_game_85 : decode cX11_game 85 = .ok (.ireturn, 1) := by decide +kernel
theorem dX11_otherwise_0 : decode cX11_otherwise 0 = .ok (.aload_n 0, 1) := by decide +kernel
theorem dX11_otherwise_1 : decode cX11_otherwise 1 = .ok (.getfield 37, 3) := by decide +kernel
theorem dX11_otherwise_4 : decode cX11_otherwise 4 = .ok (.iload_n 1, 1) := by decide +kernel
theorem dX11_otherwise_5 : decode cX11_otherwise 5 = .ok (.invokevirtual 157, 3) := by decide +kernel
theorem dX11_otherwise_8 : decode cX11_otherwise 8 = .ok (.astore 4, 2) := by decide +kernel
theorem dX11_otherwise_10 : decode cX11_otherwise 10 = .ok (.aload 4, 2) := by decide +kernel
theorem dX11_otherwise_12 : decode cX11_otherwise 12 = .ok (.ifnull 27, 3) := by decide +kernel
theorem dX11_otherwise_15 : decode cX11_otherwise 15 = .ok (.iload_n 2, 1) := by decide +kernel
theorem dX11_otherwise_16 : decode cX11_otherwise 16 = .ok (.iconst 1, 1) := by decide +kernel
theorem dX11_otherwise_17 : decode cX11_otherwise 17 = .ok (.if_icmp .lt 22, 3) := by decide +kernel
theorem dX11_otherwise_20 : decode cX11_otherwise 20 = .ok (.iload_n 2, 1) := by decide +kernel
theorem dX11_otherwise_21 : decode cX11_otherwise 21 = .ok (.aload 4, 2) := by decide +kernel
theorem dX11_otherwise_23 : decode cX11_otherwise 23 = .ok (.getfield 198, 3) := by decide +kernel
theorem dX11_otherwise_26 : decode cX11_otherwise 26 = .ok (.if_icmp .ge 13, 3) := by decide +kernel
theorem dX11_otherwise_29 : decode cX11_otherwise 29 = .ok (.iload_n 3, 1) := by decide +kernel
theorem dX11_otherwise_30 : decode cX11_otherwise 30 = .ok (.iconst 0, 1) := by decide +kernel
theorem dX11_otherwise_31 : decode cX11_otherwise 31 = .ok (.bipush 10, 2) := by decide +kernel
theorem dX11_otherwise_33 : decode cX11_otherwise 33 = .ok (.invokestatic 73, 3) := by decide +kernel
theorem dX11_otherwise_36 : decode cX11_otherwise 36 = .ok (.ifCond .ne 5, 3) := by decide +kernel
theorem dX11_otherwise_39 : decode cX11_otherwise 39 = .ok (.iconst (-1), 1) := by decide +kernel
theorem dX11_otherwise_40 : decode cX11_otherwise 40 = .ok (.ireturn, 1) := by decide +kernel
theorem dX11_otherwise_41 : decode cX11_otherwise 41 = .ok (.aload_n 0, 1) := by decide +kernel
theorem dX11_otherwise_42 : decode cX11_otherwise 42 = .ok (.aload 4, 2) := by decide +kernel
theorem dX11_otherwise_44 : decode cX11_otherwise 44 = .ok (.invokevirtual 161, 3) := by decide +kernel
theorem dX11_otherwise_47 : decode cX11_otherwise 47 = .ok (.aload 4, 2) := by decide +kernel
theorem dX11_otherwise_49 : decode cX11_otherwise 49 = .ok (.iload_n 2, 1) := by decide +kernel
theorem dX11_otherwise_50 : decode cX11_otherwise 50 = .ok (.iconst 1, 1) := by decide +kernel
theorem dX11_otherwise_51 : decode cX11_otherwise 51 = .ok (.isub, 1) := by decide +kernel
theorem dX11_otherwise_52 : decode cX11_otherwise 52 = .ok (.invokevirtual 233, 3) := by decide +kernel
theorem dX11_otherwise_55 : decode cX11_otherwise 55 = .ok (.istore 5, 2) := by decide +kernel
theorem dX11_otherwise_57 : decode cX11_otherwise 57 = .ok (.aload_n 0, 1) := by decide +kernel
theorem dX11_otherwise_58 : decode cX11_otherwise 58 = .ok (.getfield 55, 3) := by decide +kernel
theorem dX11_otherwise_61 : decode cX11_otherwise 61 = .ok (.iload 5, 2) := by decide +kernel
theorem dX11_otherwise_63 : decode cX11_otherwise 63 = .ok (.iload_n 3, 1) := by decide +kernel
theorem dX11_otherwise_64 : decode cX11_otherwise 64 = .ok (.invokevirtual 201, 3) := by decide +kernel
theorem dX11_otherwise_67 : decode cX11_otherwise 67 = .ok (.ifCond .ne 6, 3) := by decide +kernel
theorem dX11_otherwise_70 : decode cX11_otherwise 70 = .ok (.bipush (-2), 2) := by decide +kernel
theorem dX11_otherwise_72 : decode cX11_otherwise 72 = .ok (.ireturn, 1) := by decide +kernel
theorem dX11_otherwise_73 : decode cX11_otherwise 73 = .ok (.aload_n 0, 1) := by decide +kernel
theorem dX11_otherwise_74 : decode cX11_otherwise 74 = .ok (.getfield 55, 3) := by decide +kernel
theorem dX11_otherwise_77 : decode cX11_otherwise 77 = .ok (.iload 5, 2) := by decide +kernel
theorem dX11_otherwise_79 : decode cX11_otherwise 79 = .ok (.iload_n 3, 1) := by decide +kernel
theorem dX11_otherwise_80 : decode cX11_otherwise 80 = .ok (.iconst 1, 1) := by decide +kernel
theorem dX11_otherwise_81 : decode cX11_otherwise 81 = .ok (.invokevirtual 204, 3) := by decide +kernel
theorem dX11_otherwise_84 : decode cX11_otherwise 84 = .ok (.istore 6, 2) := by decide +kernel
theorem dX11_otherwise_86 : decode cX11_otherwise 86 = .ok (.iload_n 2, 1) := by decide +kernel
theorem dX11_otherwise_87 : decode cX11_otherwise 87 = .ok (.iconst 1, 1) := by decide +kernel
theorem dX11_otherwise_88 : decode cX11_otherwise 88 = .ok (.iadd, 1) := by decide +kernel
theorem dX11_otherwise_89 : decode cX11_otherwise 89 = .ok (.istore 7, 2) := by decide +kernel
theorem dX11_otherwise_91 : decode cX11_otherwise 91 = .ok (.iload 7, 2) := by decide +kernel
theorem dX11_otherwise_93 : decode cX11_otherwise 93 = .ok (.aload 4, 2) := by decide +kernel
theorem dX11_otherwise_95 : decode cX11_otherwise 95 = .ok (.getfield 198, 3) := by decide +kernel
theorem dX11_otherwise_98 : decode cX11_otherwise 98 = .ok (.if_icmp .ge 47, 3) := by decide +kernel
theorem dX11_otherwise_101 : decode cX11_otherwise 101 = .ok (.aload_n 0, 1) := by decide +kernel
theorem dX11_otherwise_102 : decode cX11_otherwise 102 = .ok (.getfield 55, 3) := by decide +kernel
theorem dX11_otherwise_105 : decode cX11_otherwise 105 = .ok (.iload 6, 2) := by decide +kernel
theorem dX11_otherwise_107 : decode cX11_otherwise 107 = .ok (.aload 4, 2) := by decide +kernel
theorem dX11_otherwise_109 : decode cX11_otherwise 109 = .ok (.iload 7, 2) := by decide +kernel
theorem dX11_otherwise_111 : decode cX11_otherwise 111 = .ok (.invokevirtual 208, 3) := by decide +kernel
theorem dX11_otherwise_114 : decode cX11_otherwise 114 = .ok (.invokevirtual 201, 3) := by decide +kernel
theorem dX11_otherwise_117 : decode cX11_otherwise 117 = .ok (.ifCond .eq 28, 3) := by decide +kernel
theorem dX11_otherwise_120 : decode cX11_otherwise 120 = .ok (.aload_n 0, 1) := by decide +kernel
theorem dX11_otherwise_121 : decode cX11_otherwise 121 = .ok (.getfield 55, 3) := by decide +kernel
theorem dX11_otherwise_124 : decode cX11_otherwise 124 = .ok (.iload 6, 2) := by decide +kernel
theorem dX11_otherwise_126 : decode cX11_otherwise 126 = .ok (.aload 4, 2) := by decide +kernel
theorem dX11_otherwise_128 : decode cX11_otherwise 128 = .ok (.iload 7, 2) := by decide +kernel
theorem dX11_otherwise_130 : decode cX11_otherwise 130 = .ok (.invokevirtual 208, 3) := by decide +kernel
theorem dX11_otherwise_133 : decode cX11_otherwise 133 = .ok (.iconst 1, 1) := by decide +kernel
theorem dX11_otherwise_134 : decode cX11_otherwise 134 = .ok (.invokevirtual 204, 3) := by decide +kernel
theorem dX11_otherwise_137 : decode cX11_otherwise 137 = .ok (.istore 6, 2) := by decide +kernel
theorem dX11_otherwise_139 : decode cX11_otherwise 139 = .ok (.iinc 7 1, 3) := by decide +kernel
theorem dX11_otherwise_142 : decode cX11_otherwise 142 = .ok (.goto (-51), 3) := by decide +kernel
theorem dX11_otherwise_145 : decode cX11_otherwise 145 = .ok (.aload_n 0, 1) := by decide +kernel
theorem dX11_otherwise_146 : decode cX11_otherwise 146 = .ok (.getfield 62, 3) := by decide +kernel
theorem dX11_otherwise_149 : decode cX11_otherwise 149 = .ok (.invokevirtual 236, 3) := by decide +kernel
theorem dX11_otherwise_152 : decode cX11_otherwise 152 = .ok (.aload_n 0, 1) := by decide +kernel
theorem dX11_otherwise_153 : decode cX11_otherwise 153 = .ok (.getfield 62, 3) := by decide +kernel
theorem dX11_otherwise_156 : decode cX11_otherwise 156 = .ok (.aload_n 0, 1) := by decide +kernel
theorem dX11_otherwise_157 : decode cX11_otherwise 157 = .ok (.getfield 55, 3) := by decide +kernel
theorem dX11_otherwise_160 : decode cX11_otherwise 160 = .ok (.iload 6, 2) := by decide +kernel
theorem dX11_otherwise_162 : decode cX11_otherwise 162 = .ok (.invokevirtual 239, 3) := by decide +kernel
theorem dX11_otherwise_165 : decode cX11_otherwise 165 = .ok (.ireturn, 1) := by decide +kernel
theorem dX11_doubt_0 : decode cX11_doubt 0 = .ok (.aload_n 0, 1) := by decide +kernel
theorem dX11_doubt_1 : decode cX11_doubt 1 = .ok (.getfield 37, 3) := by decide +kernel
theorem dX11_doubt_4 : decode cX11_doubt 4 = .ok (.iload_n 1, 1) := by decide +kernel
theorem dX11_doubt_5 : decode cX11_doubt 5 = .ok (.invokevirtual 157, 3) := by decide +kernel
theorem dX11_doubt_8 : decode cX11_doubt 8 = .ok (.astore_n 3, 1) := by decide +kernel
theorem dX11_doubt_9 : decode cX11_doubt 9 = .ok (.aload_n 3, 1) := by decide +kernel
theorem dX11_doubt_10 : decode cX11_doubt 10 = .ok (.ifnull 19, 3) := by decide +kernel
theorem dX11_doubt_13 : decode cX11_doubt 13 = .ok (.iload_n 2, 1) := by decide +kernel
theorem dX11_doubt_14 : decode cX11_doubt 14 = .ok (.iconst 0, 1) := by decide +kernel
theorem dX11_doubt_15 : decode cX11_doubt 15 = .ok (.iconst 1, 1) := by decide +kernel
theorem dX11_doubt_16 : decode cX11_doubt 16 = .ok (.aload_n 3, 1) := by decide +kernel
theorem dX11_doubt_17 : decode cX11_doubt 17 = .ok (.getfield 198, 3) := by decide +kernel
theorem dX11_doubt_20 : decode cX11_doubt 20 = .ok (.ishl, 1) := by decide +kernel
theorem dX11_doubt_21 : decode cX11_doubt 21 = .ok (.iconst 1, 1) := by decide +kernel
theorem dX11_doubt_22 : decode cX11_doubt 22 = .ok (.isub, 1) := by decide +kernel
theorem dX11_doubt_23 : decode cX11_doubt 23 = .ok (.invokestatic 73, 3) := by decide +kernel
theorem dX11_doubt_26 : decode cX11_doubt 26 = .ok (.ifCond .ne 5, 3) := by decide +kernel
theorem dX11_doubt_29 : decode cX11_doubt 29 = .ok (.iconst (-1), 1) := by decide +kernel
theorem dX11_doubt_30 : decode cX11_doubt 30 = .ok (.ireturn, 1) := by decide +kernel
theorem dX11_doubt_31 : decode cX11_doubt 31 = .ok (.aload_n 0, 1) := by decide +kernel
theorem dX11_doubt_32 : decode cX11_doubt 32 = .ok (.aload_n 3, 1) := by decide +kernel
theorem dX11_doubt_33 : decode cX11_doubt 33 = .ok (.invokevirtual 161, 3) := by decide +kernel
theorem dX11_doubt_36 : decode cX11_doubt 36 = .ok (.aload_n 0, 1) := by decide +kernel
theorem dX11_doubt_37 : decode cX11_doubt 37 = .ok (.getfield 62, 3) := by decide +kernel
theorem dX11_doubt_40 : decode cX11_doubt 40 = .ok (.invokevirtual 236, 3) := by decide +kernel
theorem dX11_doubt_43 : decode cX11_doubt 43 = .ok (.iload_n 2, 1) := by decide +kernel
theorem dX11_doubt_44 : decode cX11_doubt 44 = .ok (.aload_n 3, 1) := by decide +kernel
theorem dX11_doubt_45 : decode cX11_doubt 45 = .ok (.invokevirtual 246, 3) := by decide +kernel
theorem dX11_doubt_48 : decode cX11_doubt 48 = .ok (.iand, 1) := by decide +kernel
theorem dX11_doubt_49 : decode cX11_doubt 49 = .ok (.istore 4, 2) := by decide +kernel
theorem dX11_doubt_51 : decode cX11_doubt 51 = .ok (.iconst 0, 1) := by decide +kernel
theorem dX11_doubt_52 : decode cX11_doubt 52 = .ok (.istore 5, 2) := by decide +kernel
theorem dX11_doubt_54 : decode cX11_doubt 54 = .ok (.iconst 0, 1) := by decide +kernel
theorem dX11_doubt_55 : decode cX11_doubt 55 = .ok (.istore 6, 2) := by decide +kernel
theorem dX11_doubt_57 : decode cX11_doubt 57 = .ok (.iload 6, 2) := by decide +kernel
theorem dX11_doubt_59 : decode cX11_doubt 59 = .ok (.iload 4, 2) := by decide +kernel
theorem dX11_doubt_61 : decode cX11_doubt 61 = .ok (.if_icmp .gt 47, 3) := by decide +kernel
theorem dX11_doubt_64 : decode cX11_doubt 64 = .ok (.iload 6, 2) := by decide +kernel
theorem dX11_doubt_66 : decode cX11_doubt 66 = .ok (.iload 4, 2) := by decide +kernel
theorem dX11_doubt_68 : decode cX11_doubt 68 = .ok (.iconst (-1), 1) := by decide +kernel
theorem dX11_doubt_69 : decode cX11_doubt 69 = .ok (.ixor, 1) := by decide +kernel
theorem dX11_doubt_70 : decode cX11_doubt 70 = .ok (.iand, 1) := by decide +kernel
theorem dX11_doubt_71 : decode cX11_doubt 71 = .ok (.ifCond .ne 31, 3) := by decide +kernel
theorem dX11_doubt_74 : decode cX11_doubt 74 = .ok (.iload 5, 2) := by decide +kernel
theorem dX11_doubt_76 : decode cX11_doubt 76 = .ok (.iconst 1, 1) := by decide +kernel
theorem dX11_doubt_77 : decode cX11_doubt 77 = .ok (.aload_n 0, 1) := by decide +kernel
theorem dX11_doubt_78 : decode cX11_doubt 78 = .ok (.getfield 62, 3) := by decide +kernel
theorem dX11_doubt_81 : decode cX11_doubt 81 = .ok (.aload_n 0, 1) := by decide +kernel
theorem dX11_doubt_82 : decode cX11_doubt 82 = .ok (.getfield 55, 3) := by decide +kernel
theorem dX11_doubt_85 : decode cX11_doubt 85 = .ok (.aload_n 0, 1) := by decide +kernel
theorem dX11_doubt_86 : decode cX11_doubt 86 = .ok (.getfield 55, 3) := by decide +kernel
theorem dX11_doubt_89 : decode cX11_doubt 89 = .ok (.aload_n 3, 1) := by decide +kernel
theorem dX11_doubt_90 : decode cX11_doubt 90 = .ok (.iload 6, 2) := by decide +kernel
theorem dX11_doubt_92 : decode cX11_doubt 92 = .ok (.invokevirtual 249, 3) := by decide +kernel
theorem dX11_doubt_95 : decode cX11_doubt 95 = .ok (.invokevirtual 239, 3) := by decide +kernel
theorem dX11_doubt_98 : decode cX11_doubt 98 = .ok (.ishl, 1) := by decide +kernel
theorem dX11_doubt_99 : decode cX11_doubt 99 = .ok (.ior, 1) := by decide +kernel
theorem dX11_doubt_100 : decode cX11_doubt 100 = .ok (.istore 5, 2) := by decide +kernel
theorem dX11_doubt_102 : decode cX11_doubt 102 = .ok (.iinc 6 1, 3) := by decide +kernel
theorem dX11_doubt_105 : decode cX11_doubt 105 = .ok (.goto (-48), 3) := by decide +kernel
theorem dX11_doubt_108 : decode cX11_doubt 108 = .ok (.iload 5, 2) := by decide +kernel
theorem dX11_doubt_110 : decode cX11_doubt 110 = .ok (.ireturn, 1) := by decide +kernel
theorem dX11_hangs_0 : decode cX11_hangs 0 = .ok (.aload_n 0, 1) := by decide +kernel
theorem dX11_hangs_1 : decode cX11_hangs 1 = .ok (.getfield 37, 3) := by decide +kernel
theorem dX11_hangs_4 : decode cX11_hangs 4 = .ok (.iload_n 1, 1) := by decide +kernel
theorem dX11_hangs_5 : decode cX11_hangs 5 = .ok (.invokevirtual 157, 3) := by decide +kernel
theorem dX11_hangs_8 : decode cX11_hangs 8 = .ok (.astore_n 2, 1) := by decide +kernel
theorem dX11_hangs_9 : decode cX11_hangs 9 = .ok (.aload_n 2, 1) := by decide +kernel
theorem dX11_hangs_10 : decode cX11_hangs 10 = .ok (.ifnonnull 5, 3) := by decide +kernel
theorem dX11_hangs_13 : decode cX11_hangs 13 = .ok (.iconst (-1), 1) := by decide +kernel
theorem dX11_hangs_14 : decode cX11_hangs 14 = .ok (.ireturn, 1) := by decide +kernel
theorem dX11_hangs_15 : decode cX11_hangs 15 = .ok (.aload_n 0, 1) := by decide +kernel
theorem dX11_hangs_16 : decode cX11_hangs 16 = .ok (.aload_n 2, 1) := by decide +kernel
theorem dX11_hangs_17 : decode cX11_hangs 17 = .ok (.invokevirtual 161, 3) := by decide +kernel
theorem dX11_hangs_20 : decode cX11_hangs 20 = .ok (.aload_n 0, 1) := by decide +kernel
theorem dX11_hangs_21 : decode cX11_hangs 21 = .ok (.getfield 62, 3) := by decide +kernel
theorem dX11_hangs_24 : decode cX11_hangs 24 = .ok (.invokevirtual 236, 3) := by decide +kernel
theorem dX11_hangs_27 : decode cX11_hangs 27 = .ok (.aload_n 0, 1) := by decide +kernel
theorem dX11_hangs_28 : decode cX11_hangs 28 = .ok (.getfield 62, 3) := by decide +kernel
theorem dX11_hangs_31 : decode cX11_hangs 31 = .ok (.aload_n 0, 1) := by decide +kernel
theorem dX11_hangs_32 : decode cX11_hangs 32 = .ok (.getfield 55, 3) := by decide +kernel
theorem dX11_hangs_35 : decode cX11_hangs 35 = .ok (.aload_n 0, 1) := by decide +kernel
theorem dX11_hangs_36 : decode cX11_hangs 36 = .ok (.getfield 55, 3) := by decide +kernel
theorem dX11_hangs_39 : decode cX11_hangs 39 = .ok (.aload_n 2, 1) := by decide +kernel
theorem dX11_hangs_40 : decode cX11_hangs 40 = .ok (.iconst 0, 1) := by decide +kernel
theorem dX11_hangs_41 : decode cX11_hangs 41 = .ok (.invokevirtual 249, 3) := by decide +kernel
theorem dX11_hangs_44 : decode cX11_hangs 44 = .ok (.invokevirtual 239, 3) := by decide +kernel
theorem dX11_hangs_47 : decode cX11_hangs 47 = .ok (.istore_n 3, 1) := by decide +kernel
theorem dX11_hangs_48 : decode cX11_hangs 48 = .ok (.aload_n 2, 1) := by decide +kernel
theorem dX11_hangs_49 : decode cX11_hangs 49 = .ok (.invokevirtual 246, 3) := by decide +kernel
theorem dX11_hangs_52 : decode cX11_hangs 52 = .ok (.istore 4, 2) := by decide +kernel
theorem dX11_hangs_54 : decode cX11_hangs 54 = .ok (.iconst 0, 1) := by decide +kernel
theorem dX11_hangs_55 : decode cX11_hangs 55 = .ok (.istore 5, 2) := by decide +kernel
theorem dX11_hangs_57 : decode cX11_hangs 57 = .ok (.iconst 0, 1) := by decide +kernel
theorem dX11_hangs_58 : decode cX11_hangs 58 = .ok (.istore 6, 2) := by decide +kernel
theorem dX11_hangs_60 : decode cX11_hangs 60 = .ok (.iload 6, 2) := by decide +kernel
theorem dX11_hangs_62 : decode cX11_hangs 62 = .ok (.aload_n 2, 1) := by decide +kernel
theorem dX11_hangs_63 : decode cX11_hangs 63 = .ok (.getfield 198, 3) := by decide +kernel
theorem dX11_hangs_66 : decode cX11_hangs 66 = .ok (.if_icmp .ge 55, 3) := by decide +kernel
theorem dX11_hangs_69 : decode cX11_hangs 69 = .ok (.iload 4, 2) := by decide +kernel
theorem dX11_hangs_71 : decode cX11_hangs 71 = .ok (.iconst 1, 1) := by decide +kernel
theorem dX11_hangs_72 : decode cX11_hangs 72 = .ok (.iload 6, 2) := by decide +kernel
theorem dX11_hangs_74 : decode cX11_hangs 74 = .ok (.ishl, 1) := by decide +kernel
theorem dX11_hangs_75 : decode cX11_hangs 75 = .ok (.iand, 1) := by decide +kernel
theorem dX11_hangs_76 : decode cX11_hangs 76 = .ok (.istore 7, 2) := by decide +kernel
theorem dX11_hangs_78 : decode cX11_hangs 78 = .ok (.iload 7, 2) := by decide +kernel
theorem dX11_hangs_80 : decode cX11_hangs 80 = .ok (.ifCond .eq 35, 3) := by decide +kernel
theorem dX11_hangs_83 : decode cX11_hangs 83 = .ok (.aload_n 0, 1) := by decide +kernel
theorem dX11_hangs_84 : decode cX11_hangs 84 = .ok (.getfield 62, 3) := by decide +kernel
theorem dX11_hangs_87 : decode cX11_hangs 87 = .ok (.aload_n 0, 1) := by decide +kernel
theorem dX11_hangs_88 : decode cX11_hangs 88 = .ok (.getfield 55, 3) := by decide +kernel
theorem dX11_hangs_91 : decode cX11_hangs 91 = .ok (.aload_n 0, 1) := by decide +kernel
theorem dX11_hangs_92 : decode cX11_hangs 92 = .ok (.getfield 55, 3) := by decide +kernel
theorem dX11_hangs_95 : decode cX11_hangs 95 = .ok (.aload_n 2, 1) := by decide +kernel
theorem dX11_hangs_96 : decode cX11_hangs 96 = .ok (.iload 7, 2) := by decide +kernel
theorem dX11_hangs_98 : decode cX11_hangs 98 = .ok (.invokevirtual 249, 3) := by decide +kernel
theorem dX11_hangs_101 : decode cX11_hangs 101 = .ok (.invokevirtual 239, 3) := by decide +kernel
theorem dX11_hangs_104 : decode cX11_hangs 104 = .ok (.iload_n 3, 1) := by decide +kernel
theorem dX11_hangs_105 : decode cX11_hangs 105 = .ok (.if_icmp .eq 10, 3) := by decide +kernel
theorem dX11_hangs_108 : decode cX11_hangs 108 = .ok (.iload 5, 2) := by decide +kernel
theorem dX11_hangs_110 : decode cX11_hangs 110 = .ok (.iload 7, 2) := by decide +kernel
theorem dX11_hangs_112 : decode cX11_hangs 112 = .ok (.ior, 1) := by decide +kernel
theorem dX11_hangs_113 : decode cX11_hangs 113 = .ok (.istore 5, 2) := by decide +kernel
theorem dX11_hangs_115 : decode cX11_hangs 115 = .ok (.iinc 6 1, 3) := by decide +kernel
theorem dX11_hangs_118 : decode cX11_hangs 118 = .ok (.goto (-58), 3) := by decide +kernel
theorem dX11_hangs_121 : decode cX11_hangs 121 = .ok (.iload 5, 2) := by decide +kernel
theorem dX11_hangs_123 : decode cX11_hangs 123 = .ok (.ireturn, 1) := by decide +kernel
theorem dX11_thinks_0 : decode cX11_thinks 0 = .ok (.aload_n 0, 1) := by decide +kernel
theorem dX11_thinks_1 : decode cX11_thinks 1 = .ok (.getfield 37, 3) := by decide +kernel
theorem dX11_thinks_4 : decode cX11_thinks 4 = .ok (.iload_n 1, 1) := by decide +kernel
theorem dX11_thinks_5 : decode cX11_thinks 5 = .ok (.invokevirtual 157, 3) := by decide +kernel
theorem dX11_thinks_8 : decode cX11_thinks 8 = .ok (.astore 4, 2) := by decide +kernel
theorem dX11_thinks_10 : decode cX11_thinks 10 = .ok (.aload 4, 2) := by decide +kernel
theorem dX11_thinks_12 : decode cX11_thinks 12 = .ok (.ifnull 21, 3) := by decide +kernel
theorem dX11_thinks_15 : decode cX11_thinks 15 = .ok (.iload_n 2, 1) := by decide +kernel
theorem dX11_thinks_16 : decode cX11_thinks 16 = .ok (.iconst 0, 1) := by decide +kernel
theorem dX11_thinks_17 : decode cX11_thinks 17 = .ok (.iconst 1, 1) := by decide +kernel
theorem dX11_thinks_18 : decode cX11_thinks 18 = .ok (.invokestatic 73, 3) := by decide +kernel
theorem dX11_thinks_21 : decode cX11_thinks 21 = .ok (.ifCond .eq 12, 3) := by decide +kernel
theorem dX11_thinks_24 : decode cX11_thinks 24 = .ok (.iload_n 3, 1) := by decide +kernel
theorem dX11_thinks_25 : decode cX11_thinks 25 = .ok (.iconst 0, 1) := by decide +kernel
theorem dX11_thinks_26 : decode cX11_thinks 26 = .ok (.iconst 1, 1) := by decide +kernel
theorem dX11_thinks_27 : decode cX11_thinks 27 = .ok (.invokestatic 73, 3) := by decide +kernel
theorem dX11_thinks_30 : decode cX11_thinks 30 = .ok (.ifCond .ne 5, 3) := by decide +kernel
theorem dX11_thinks_33 : decode cX11_thinks 33 = .ok (.iconst (-1), 1) := by decide +kernel
theorem dX11_thinks_34 : decode cX11_thinks 34 = .ok (.ireturn, 1) := by decide +kernel
theorem dX11_thinks_35 : decode cX11_thinks 35 = .ok (.aload_n 0, 1) := by decide +kernel
theorem dX11_thinks_36 : decode cX11_thinks 36 = .ok (.aload 4, 2) := by decide +kernel
theorem dX11_thinks_38 : decode cX11_thinks 38 = .ok (.invokevirtual 161, 3) := by decide +kernel
theorem dX11_thinks_41 : decode cX11_thinks 41 = .ok (.aload_n 0, 1) := by decide +kernel
theorem dX11_thinks_42 : decode cX11_thinks 42 = .ok (.getfield 55, 3) := by decide +kernel
theorem dX11_thinks_45 : decode cX11_thinks 45 = .ok (.aload 4, 2) := by decide +kernel
theorem dX11_thinks_47 : decode cX11_thinks 47 = .ok (.iload_n 2, 1) := by decide +kernel
theorem dX11_thinks_48 : decode cX11_thinks 48 = .ok (.invokevirtual 253, 3) := by decide +kernel
theorem dX11_thinks_51 : decode cX11_thinks 51 = .ok (.iload_n 3, 1) := by decide +kernel
theorem dX11_thinks_52 : decode cX11_thinks 52 = .ok (.invokestatic 185, 3) := by decide +kernel
theorem dX11_thinks_55 : decode cX11_thinks 55 = .ok (.ireturn, 1) := by decide +kernel
theorem dX11_waits_0 : decode cX11_waits 0 = .ok (.aload_n 0, 1) := by decide +kernel
theorem dX11_waits_1 : decode cX11_waits 1 = .ok (.getfield 37, 3) := by decide +kernel
theorem dX11_waits_4 : decode cX11_waits 4 = .ok (.iload_n 1, 1) := by decide +kernel
theorem dX11_waits_5 : decode cX11_waits 5 = .ok (.invokevirtual 157, 3) := by decide +kernel
theorem dX11_waits_8 : decode cX11_waits 8 = .ok (.astore_n 2, 1) := by decide +kernel
theorem dX11_waits_9 : decode cX11_waits 9 = .ok (.aload_n 2, 1) := by decide +kernel
theorem dX11_waits_10 : decode cX11_waits 10 = .ok (.ifnonnull 5, 3) := by decide +kernel
theorem dX11_waits_13 : decode cX11_waits 13 = .ok (.iconst (-1), 1) := by decide +kernel
theorem dX11_waits_14 : decode cX11_waits 14 = .ok (.ireturn, 1) := by decide +kernel
theorem dX11_waits_15 : decode cX11_waits 15 = .ok (.aload_n 0, 1) := by decide +kernel
theorem dX11_waits_16 : decode cX11_waits 16 = .ok (.getfield 37, 3) := by decide +kernel
theorem dX11_waits_19 : decode cX11_waits 19 = .ok (.iload_n 1, 1) := by decide +kernel
theorem dX11_waits_20 : decode cX11_waits 20 = .ok (.invokevirtual 256, 3) := by decide +kernel
theorem dX11_waits_23 : decode cX11_waits 23 = .ok (.ireturn, 1) := by decide +kernel
theorem dX11_ring_0 : decode cX11_ring 0 = .ok (.aload_n 0, 1) := by decide +kernel
theorem dX11_ring_1 : decode cX11_ring 1 = .ok (.getfield 37, 3) := by decide +kernel
theorem dX11_ring_4 : decode cX11_ring 4 = .ok (.iload_n 1, 1) := by decide +kernel
theorem dX11_ring_5 : decode cX11_ring 5 = .ok (.invokevirtual 157, 3) := by decide +kernel
theorem dX11_ring_8 : decode cX11_ring 8 = .ok (.astore_n 2, 1) := by decide +kernel
theorem dX11_ring_9 : decode cX11_ring 9 = .ok (.aload_n 2, 1) := by decide +kernel
theorem dX11_ring_10 : decode cX11_ring 10 = .ok (.ifnonnull 5, 3) := by decide +kernel
theorem dX11_ring_13 : decode cX11_ring 13 = .ok (.iconst (-1), 1) := by decide +kernel
theorem dX11_ring_14 : decode cX11_ring 14 = .ok (.ireturn, 1) := by decide +kernel
theorem dX11_ring_15 : decode cX11_ring 15 = .ok (.aload_n 0, 1) := by decide +kernel
theorem dX11_ring_16 : decode cX11_ring 16 = .ok (.getfield 37, 3) := by decide +kernel
theorem dX11_ring_19 : decode cX11_ring 19 = .ok (.iload_n 1, 1) := by decide +kernel
theorem dX11_ring_20 : decode cX11_ring 20 = .ok (.invokevirtual 259, 3) := by decide +kernel
theorem dX11_ring_23 : decode cX11_ring 23 = .ok (.ifCond .eq 7, 3) := by decide +kernel
theorem dX11_ring_26 : decode cX11_ring 26 = .ok (.iconst 1, 1) := by decide +kernel
theorem dX11_ring_27 : decode cX11_ring 27 = .ok (.goto 4, 3) := by decide +kernel
theorem dX11_ring_30 : decode cX11_ring 30 = .ok (.iconst 0, 1) := by decide +kernel
theorem dX11_ring_31 : decode cX11_ring 31 = .ok (.ireturn, 1) := by decide +kernel
theorem dX11_first_0 : decode cX11_first 0 = .ok (.aload_n 0, 1) := by decide +kernel
theorem dX11_first_1 : decode cX11_first 1 = .ok (.getfield 37, 3) := by decide +kernel
theorem dX11_first_4 : decode cX11_first 4 = .ok (.iload_n 1, 1) := by decide +kernel
theorem dX11_first_5 : decode cX11_first 5 = .ok (.invokevirtual 107, 3) := by decide +kernel
theorem dX11_first_8 : decode cX11_first 8 = .ok (.ifCond .ne 5, 3) := by decide +kernel
theorem dX11_first_11 : decode cX11_first 11 = .ok (.iconst (-1), 1) := by decide +kernel
theorem dX11_first_12 : decode cX11_first 12 = .ok (.ireturn, 1) := by decide +kernel
theorem dX11_first_13 : decode cX11_first 13 = .ok (.aload_n 0, 1) := by decide +kernel
theorem dX11_first_14 : decode cX11_first 14 = .ok (.getfield 37, 3) := by decide +kernel
theorem dX11_first_17 : decode cX11_first 17 = .ok (.iload_n 1, 1) := by decide +kernel
theorem dX11_first_18 : decode cX11_first 18 = .ok (.invokevirtual 262, 3) := by decide +kernel
theorem dX11_first_21 : decode cX11_first 21 = .ok (.ireturn, 1) := by decide +kernel
theorem dX11_harsh_0 : decode cX11_harsh 0 = .ok (.aload_n 0, 1) := by decide +kernel
theorem dX11_harsh_1 : decode cX11_harsh 1 = .ok (.iload_n 1, 1) := by decide +kernel
theorem dX11_harsh_2 : decode cX11_harsh 2 = .ok (.invokevirtual 111, 3) := by decide +kernel
theorem dX11_harsh_5 : decode cX11_harsh 5 = .ok (.ifCond .eq 23, 3) := by decide +kernel
theorem dX11_harsh_8 : decode cX11_harsh 8 = .ok (.aload_n 0, 1) := by decide +kernel
theorem dX11_harsh_9 : decode cX11_harsh 9 = .ok (.iload_n 2, 1) := by decide +kernel
theorem dX11_harsh_10 : decode cX11_harsh 10 = .ok (.iload_n 3, 1) := by decide +kernel
theorem dX11_harsh_11 : decode cX11_harsh 11 = .ok (.invokevirtual 81, 3) := by decide +kernel
theorem dX11_harsh_14 : decode cX11_harsh 14 = .ok (.ifCond .eq 14, 3) := by decide +kernel
theorem dX11_harsh_17 : decode cX11_harsh 17 = .ok (.iload 4, 2) := by decide +kernel
theorem dX11_harsh_19 : decode cX11_harsh 19 = .ok (.iconst 0, 1) := by decide +kernel
theorem dX11_harsh_20 : decode cX11_harsh 20 = .ok (.bipush 9, 2) := by decide +kernel
theorem dX11_harsh_22 : decode cX11_harsh 22 = .ok (.invokestatic 73, 3) := by decide +kernel
theorem dX11_harsh_25 : decode cX11_harsh 25 = .ok (.ifCond .ne 5, 3) := by decide +kernel
theorem dX11_harsh_28 : decode cX11_harsh 28 = .ok (.iconst (-1), 1) := by decide +kernel
theorem dX11_harsh_29 : decode cX11_harsh 29 = .ok (.ireturn, 1) := by decide +kernel
theorem dX11_harsh_30 : decode cX11_harsh 30 = .ok (.aload_n 0, 1) := by decide +kernel
theorem dX11_harsh_31 : decode cX11_harsh 31 = .ok (.getfield 55, 3) := by decide +kernel
theorem dX11_harsh_34 : decode cX11_harsh 34 = .ok (.aload_n 0, 1) := by decide +kernel
theorem dX11_harsh_35 : decode cX11_harsh 35 = .ok (.getfield 37, 3) := by decide +kernel
theorem dX11_harsh_38 : decode cX11_harsh 38 = .ok (.iload_n 2, 1) := by decide +kernel
theorem dX11_harsh_39 : decode cX11_harsh 39 = .ok (.iload_n 3, 1) := by decide +kernel
theorem dX11_harsh_40 : decode cX11_harsh 40 = .ok (.iload 4, 2) := by decide +kernel
theorem dX11_harsh_42 : decode cX11_harsh 42 = .ok (.aload_n 0, 1) := by decide +kernel
theorem dX11_harsh_43 : decode cX11_harsh 43 = .ok (.iload_n 1, 1) := by decide +kernel
theorem dX11_harsh_44 : decode cX11_harsh 44 = .ok (.invokevirtual 118, 3) := by decide +kernel
theorem dX11_harsh_47 : decode cX11_harsh 47 = .ok (.aload_n 0, 1) := by decide +kernel
theorem dX11_harsh_48 : decode cX11_harsh 48 = .ok (.iload_n 1, 1) := by decide +kernel
theorem dX11_harsh_49 : decode cX11_harsh 49 = .ok (.invokevirtual 118, 3) := by decide +kernel
theorem dX11_harsh_52 : decode cX11_harsh 52 = .ok (.invokevirtual 265, 3) := by decide +kernel
theorem dX11_harsh_55 : decode cX11_harsh 55 = .ok (.aload_n 0, 1) := by decide +kernel
theorem dX11_harsh_56 : decode cX11_harsh 56 = .ok (.getfield 62, 3) := by decide +kernel
theorem dX11_harsh_59 : decode cX11_harsh 59 = .ok (.invokevirtual 236, 3) := by decide +kernel
theorem dX11_harsh_62 : decode cX11_harsh 62 = .ok (.iconst 0, 1) := by decide +kernel
theorem dX11_harsh_63 : decode cX11_harsh 63 = .ok (.istore 5, 2) := by decide +kernel
theorem dX11_harsh_65 : decode cX11_harsh 65 = .ok (.iconst 0, 1) := by decide +kernel
theorem dX11_harsh_66 : decode cX11_harsh 66 = .ok (.istore 6, 2) := by decide +kernel
theorem dX11_harsh_68 : decode cX11_harsh 68 = .ok (.iload 6, 2) := by decide +kernel
theorem dX11_harsh_70 : decode cX11_harsh 70 = .ok (.iconst 4, 1) := by decide +kernel
theorem dX11_harsh_71 : decode cX11_harsh 71 = .ok (.if_icmp .ge 44, 3) := by decide +kernel
theorem dX11_harsh_74 : decode cX11_harsh 74 = .ok (.aload_n 0, 1) := by decide +kernel
theorem dX11_harsh_75 : decode cX11_harsh 75 = .ok (.getfield 62, 3) := by decide +kernel
theorem dX11_harsh_78 : decode cX11_harsh 78 = .ok (.aload_n 0, 1) := by decide +kernel
theorem dX11_harsh_79 : decode cX11_harsh 79 = .ok (.getfield 55, 3) := by decide +kernel
theorem dX11_harsh_82 : decode cX11_harsh 82 = .ok (.aload_n 0, 1) := by decide +kernel
theorem dX11_harsh_83 : decode cX11_harsh 83 = .ok (.getfield 55, 3) := by decide +kernel
theorem dX11_harsh_86 : decode cX11_harsh 86 = .ok (.iload 6, 2) := by decide +kernel
theorem dX11_harsh_88 : decode cX11_harsh 88 = .ok (.iconst 1, 1) := by decide +kernel
theorem dX11_harsh_89 : decode cX11_harsh 89 = .ok (.invokevirtual 165, 3) := by decide +kernel
theorem dX11_harsh_92 : decode cX11_harsh 92 = .ok (.invokevirtual 239, 3) := by decide +kernel
theorem dX11_harsh_95 : decode cX11_harsh 95 = .ok (.bipush 8, 2) := by decide +kernel
theorem dX11_harsh_97 : decode cX11_harsh 97 = .ok (.if_icmp .ne 12, 3) := by decide +kernel
theorem dX11_harsh_100 : decode cX11_harsh 100 = .ok (.iload 5, 2) := by decide +kernel
theorem dX11_harsh_102 : decode cX11_harsh 102 = .ok (.iconst 1, 1) := by decide +kernel
theorem dX11_harsh_103 : decode cX11_harsh 103 = .ok (.iload 6, 2) := by decide +kernel
theorem dX11_harsh_105 : decode cX11_harsh 105 = .ok (.ishl, 1) := by decide +kernel
theorem dX11_harsh_106 : decode cX11_harsh 106 = .ok (.ior, 1) := by decide +kernel
theorem dX11_harsh_107 : decode cX11_harsh 107 = .ok (.istore 5, 2) := by decide +kernel
theorem dX11_harsh_109 : decode cX11_harsh 109 = .ok (.iinc 6 1, 3) := by decide +kernel
theorem dX11_harsh_112 : decode cX11_harsh 112 = .ok (.goto (-44), 3) := by decide +kernel
theorem dX11_harsh_115 : decode cX11_harsh 115 = .ok (.iload 5, 2) := by decide +kernel
theorem dX11_harsh_117 : decode cX11_harsh 117 = .ok (.ireturn, 1) := by decide +kernel
theorem dX11_mend_0 : decode cX11_mend 0 = .ok (.aload_n 0, 1) := by decide +kernel
theorem dX11_mend_1 : decode cX11_mend 1 = .ok (.iload_n 1, 1) := by decide +kernel
theorem dX11_mend_2 : decode cX11_mend 2 = .ok (.invokevirtual 111, 3) := by decide +kernel
theorem dX11_mend_5 : decode cX11_mend 5 = .ok (.ifCond .eq 33, 3) := by decide +kernel
theorem dX11_mend_8 : decode cX11_mend 8 = .ok (.aload_n 0, 1) := by decide +kernel
theorem dX11_mend_9 : decode cX11_mend 9 = .ok (.iload_n 2, 1) := by decide +kernel
theorem dX11_mend_10 : decode cX11_mend 10 = .ok (.iload_n 3, 1) := by decide +kernel
theorem dX11_mend_11 : decode cX11_mend 11 = .ok (.invokevirtual 81, 3) := by decide +kernel
theorem dX11_mend_14 : decode cX11_mend 14 = .ok (.ifCond .eq 24, 3) := by decide +kernel
theorem dX11_mend_17 : decode cX11_mend 17 = .ok (.iload 4, 2) := by decide +kernel
theorem dX11_mend_19 : decode cX11_mend 19 = .ok (.iconst 0, 1) := by decide +kernel
theorem dX11_mend_20 : decode cX11_mend 20 = .ok (.bipush 9, 2) := by decide +kernel
theorem dX11_mend_22 : decode cX11_mend 22 = .ok (.invokestatic 73, 3) := by decide +kernel
theorem dX11_mend_25 : decode cX11_mend 25 = .ok (.ifCond .eq 13, 3) := by decide +kernel
theorem dX11_mend_28 : decode cX11_mend 28 = .ok (.iload 5, 2) := by decide +kernel
theorem dX11_mend_30 : decode cX11_mend 30 = .ok (.iconst 0, 1) := by decide +kernel
theorem dX11_mend_31 : decode cX11_mend 31 = .ok (.iconst 3, 1) := by decide +kernel
theorem dX11_mend_32 : decode cX11_mend 32 = .ok (.invokestatic 73, 3) := by decide +kernel
theorem dX11_mend_35 : decode cX11_mend 35 = .ok (.ifCond .ne 5, 3) := by decide +kernel
theorem dX11_mend_38 : decode cX11_mend 38 = .ok (.iconst (-1), 1) := by decide +kernel
theorem dX11_mend_39 : decode cX11_mend 39 = .ok (.ireturn, 1) := by decide +kernel
theorem dX11_mend_40 : decode cX11_mend 40 = .ok (.aload_n 0, 1) := by decide +kernel
theorem dX11_mend_41 : decode cX11_mend 41 = .ok (.iload_n 1, 1) := by decide +kernel
theorem dX11_mend_42 : decode cX11_mend 42 = .ok (.invokevirtual 118, 3) := by decide +kernel
theorem dX11_mend_45 : decode cX11_mend 45 = .ok (.astore 6, 2) := by decide +kernel
theorem dX11_mend_47 : decode cX11_mend 47 = .ok (.aload_n 0, 1) := by decide +kernel
theorem dX11_mend_48 : decode cX11_mend 48 = .ok (.getfield 55, 3) := by decide +kernel
theorem dX11_mend_51 : decode cX11_mend 51 = .ok (.aload_n 0, 1) := by decide +kernel
theorem dX11_mend_52 : decode cX11_mend 52 = .ok (.getfield 37, 3) := by decide +kernel
theorem dX11_mend_55 : decode cX11_mend 55 = .ok (.iload_n 2, 1) := by decide +kernel
theorem dX11_mend_56 : decode cX11_mend 56 = .ok (.iload_n 3, 1) := by decide +kernel
theorem dX11_mend_57 : decode cX11_mend 57 = .ok (.iload 4, 2) := by decide +kernel
theorem dX11_mend_59 : decode cX11_mend 59 = .ok (.aload 6, 2) := by decide +kernel
theorem dX11_mend_61 : decode cX11_mend 61 = .ok (.aload 6, 2) := by decide +kernel
theorem dX11_mend_63 : decode cX11_mend 63 = .ok (.invokevirtual 265, 3) := by decide +kernel
theorem dX11_mend_66 : decode cX11_mend 66 = .ok (.iconst 1, 1) := by decide +kernel
theorem dX11_mend_67 : decode cX11_mend 67 = .ok (.aload 6, 2) := by decide +kernel
theorem dX11_mend_69 : decode cX11_mend 69 = .ok (.bipush 6, 2) := by decide +kernel
theorem dX11_mend_71 : decode cX11_mend 71 = .ok (.invokevirtual 269, 3) := by decide +kernel
theorem dX11_mend_74 : decode cX11_mend 74 = .ok (.ishl, 1) := by decide +kernel
theorem dX11_mend_75 : decode cX11_mend 75 = .ok (.istore 7, 2) := by decide +kernel
theorem dX11_mend_77 : decode cX11_mend 77 = .ok (.iconst 0, 1) := by decide +kernel
theorem dX11_mend_78 : decode cX11_mend 78 = .ok (.istore 8, 2) := by decide +kernel
theorem dX11_mend_80 : decode cX11_mend 80 = .ok (.iload 8, 2) := by decide +kernel
theorem dX11_mend_82 : decode cX11_mend 82 = .ok (.bipush 6, 2) := by decide +kernel
theorem dX11_mend_84 : decode cX11_mend 84 = .ok (.if_icmp .gt 85, 3) := by decide +kernel
theorem dX11_mend_87 : decode cX11_mend 87 = .ok (.iconst 0, 1) := by decide +kernel
theorem dX11_mend_88 : decode cX11_mend 88 = .ok (.istore 9, 2) := by decide +kernel
theorem dX11_mend_90 : decode cX11_mend 90 = .ok (.iload 9, 2) := by decide +kernel
theorem dX11_mend_92 : decode cX11_mend 92 = .ok (.iload 7, 2) := by decide +kernel
theorem dX11_mend_94 : decode cX11_mend 94 = .ok (.if_icmp .ge 69, 3) := by decide +kernel
theorem dX11_mend_97 : decode cX11_mend 97 = .ok (.iload 9, 2) := by decide +kernel
theorem dX11_mend_99 : decode cX11_mend 99 = .ok (.invokestatic 272, 3) := by decide +kernel
theorem dX11_mend_102 : decode cX11_mend 102 = .ok (.iload 8, 2) := by decide +kernel
theorem dX11_mend_104 : decode cX11_mend 104 = .ok (.if_icmp .ne 53, 3) := by decide +kernel
theorem dX11_mend_107 : decode cX11_mend 107 = .ok (.aload_n 0, 1) := by decide +kernel
theorem dX11_mend_108 : decode cX11_mend 108 = .ok (.getfield 55, 3) := by decide +kernel
theorem dX11_mend_111 : decode cX11_mend 111 = .ok (.aload 6, 2) := by decide +kernel
theorem dX11_mend_113 : decode cX11_mend 113 = .ok (.iload 9, 2) := by decide +kernel
theorem dX11_mend_115 : decode cX11_mend 115 = .ok (.invokevirtual 277, 3) := by decide +kernel
theorem dX11_mend_118 : decode cX11_mend 118 = .ok (.putfield 280, 3) := by decide +kernel
theorem dX11_mend_121 : decode cX11_mend 121 = .ok (.aload_n 0, 1) := by decide +kernel
theorem dX11_mend_122 : decode cX11_mend 122 = .ok (.getfield 62, 3) := by decide +kernel
theorem dX11_mend_125 : decode cX11_mend 125 = .ok (.invokevirtual 236, 3) := by decide +kernel
theorem dX11_mend_128 : decode cX11_mend 128 = .ok (.aload_n 0, 1) := by decide +kernel
theorem dX11_mend_129 : decode cX11_mend 129 = .ok (.getfield 62, 3) := by decide +kernel
theorem dX11_mend_132 : decode cX11_mend 132 = .ok (.aload_n 0, 1) := by decide +kernel
theorem dX11_mend_133 : decode cX11_mend 133 = .ok (.getfield 55, 3) := by decide +kernel
theorem dX11_mend_136 : decode cX11_mend 136 = .ok (.aload_n 0, 1) := by decide +kernel
theorem dX11_mend_137 : decode cX11_mend 137 = .ok (.getfield 55, 3) := by decide +kernel
theorem dX11_mend_140 : decode cX11_mend 140 = .ok (.iload 5, 2) := by decide +kernel
theorem dX11_mend_142 : decode cX11_mend 142 = .ok (.iconst 1, 1) := by decide +kernel
theorem dX11_mend_143 : decode cX11_mend 143 = .ok (.invokevirtual 165, 3) := by decide +kernel
theorem dX11_mend_146 : decode cX11_mend 146 = .ok (.invokevirtual 239, 3) := by decide +kernel
theorem dX11_mend_149 : decode cX11_mend 149 = .ok (.bipush 8, 2) := by decide +kernel
theorem dX11_mend_151 : decode cX11_mend 151 = .ok (.if_icmp .eq 6, 3) := by decide +kernel
theorem dX11_mend_154 : decode cX11_mend 154 = .ok (.iload 9, 2) := by decide +kernel
theorem dX11_mend_156 : decode cX11_mend 156 = .ok (.ireturn, 1) := by decide +kernel
theorem dX11_mend_157 : decode cX11_mend 157 = .ok (.iinc 9 1, 3) := by decide +kernel
theorem dX11_mend_160 : decode cX11_mend 160 = .ok (.goto (-70), 3) := by decide +kernel
theorem dX11_mend_163 : decode cX11_mend 163 = .ok (.iinc 8 1, 3) := by decide +kernel
theorem dX11_mend_166 : decode cX11_mend 166 = .ok (.goto (-86), 3) := by decide +kernel
theorem dX11_mend_169 : decode cX11_mend 169 = .ok (.bipush (-2), 2) := by decide +kernel
theorem dX11_mend_171 : decode cX11_mend 171 = .ok (.ireturn, 1) := by decide +kernel
theorem dX11_image_0 : decode cX11_image 0 = .ok (.iload_n 1, 1) := by decide +kernel
theorem dX11_image_1 : decode cX11_image 1 = .ok (.iconst 0, 1) := by decide +kernel
theorem dX11_image_2 : decode cX11_image 2 = .ok (.iconst 3, 1) := by decide +kernel
theorem dX11_image_3 : decode cX11_image 3 = .ok (.invokestatic 73, 3) := by decide +kernel
theorem dX11_image_6 : decode cX11_image 6 = .ok (.ifCond .ne 5, 3) := by decide +kernel
theorem dX11_image_9 : decode cX11_image 9 = .ok (.iconst (-1), 1) := by decide +kernel
theorem dX11_image_10 : decode cX11_image 10 = .ok (.ireturn, 1) := by decide +kernel
theorem dX11_image_11 : decode cX11_image 11 = .ok (.aload_n 0, 1) := by decide +kernel
theorem dX11_image_12 : decode cX11_image 12 = .ok (.getfield 41, 3) := by decide +kernel
theorem dX11_image_15 : decode cX11_image 15 = .ok (.iload_n 1, 1) := by decide +kernel
theorem dX11_image_16 : decode cX11_image 16 = .ok (.aaload, 1) := by decide +kernel
theorem dX11_image_17 : decode cX11_image 17 = .ok (.aload_n 0, 1) := by decide +kernel
theorem dX11_image_18 : decode cX11_image 18 = .ok (.getfield 37, 3) := by decide +kernel
theorem dX11_image_21 : decode cX11_image 21 = .ok (.invokevirtual 283, 3) := by decide +kernel
theorem dX11_image_24 : decode cX11_image 24 = .ok (.aload_n 0, 1) := by decide +kernel
theorem dX11_image_25 : decode cX11_image 25 = .ok (.getfield 41, 3) := by decide +kernel
theorem dX11_image_28 : decode cX11_image 28 = .ok (.iload_n 1, 1) := by decide +kernel
theorem dX11_image_29 : decode cX11_image 29 = .ok (.aaload, 1) := by decide +kernel
theorem dX11_image_30 : decode cX11_image 30 = .ok (.iconst 1, 1) := by decide +kernel
theorem dX11_image_31 : decode cX11_image 31 = .ok (.putfield 287, 3) := by decide +kernel
theorem dX11_image_34 : decode cX11_image 34 = .ok (.aload_n 0, 1) := by decide +kernel
theorem dX11_image_35 : decode cX11_image 35 = .ok (.getfield 37, 3) := by decide +kernel
theorem dX11_image_38 : decode cX11_image 38 = .ok (.getfield 291, 3) := by decide +kernel
theorem dX11_image_41 : decode cX11_image 41 = .ok (.ireturn, 1) := by decide +kernel
theorem dX11_back_0 : decode cX11_back 0 = .ok (.iload_n 1, 1) := by decide +kernel
theorem dX11_back_1 : decode cX11_back 1 = .ok (.iconst 0, 1) := by decide +kernel
theorem dX11_back_2 : decode cX11_back 2 = .ok (.iconst 3, 1) := by decide +kernel
theorem dX11_back_3 : decode cX11_back 3 = .ok (.invokestatic 73, 3) := by decide +kernel
theorem dX11_back_6 : decode cX11_back 6 = .ok (.ifCond .eq 15, 3) := by decide +kernel
theorem dX11_back_9 : decode cX11_back 9 = .ok (.aload_n 0, 1) := by decide +kernel
theorem dX11_back_10 : decode cX11_back 10 = .ok (.getfield 41, 3) := by decide +kernel
theorem dX11_back_13 : decode cX11_back 13 = .ok (.iload_n 1, 1) := by decide +kernel
theorem dX11_back_14 : decode cX11_back 14 = .ok (.aaload, 1) := by decide +kernel
theorem dX11_back_15 : decode cX11_back 15 = .ok (.getfield 287, 3) := by decide +kernel
theorem dX11_back_18 : decode cX11_back 18 = .ok (.ifCond .ne 5, 3) := by decide +kernel
theorem dX11_back_21 : decode cX11_back 21 = .ok (.iconst (-1), 1) := by decide +kernel
theorem dX11_back_22 : decode cX11_back 22 = .ok (.ireturn, 1) := by decide +kernel
theorem dX11_back_23 : decode cX11_back 23 = .ok (.aload_n 0, 1) := by decide +kernel
theorem dX11_back_24 : decode cX11_back 24 = .ok (.getfield 37, 3) := by decide +kernel
theorem dX11_back_27 : decode cX11_back 27 = .ok (.aload_n 0, 1) := by decide +kernel
theorem dX11_back_28 : decode cX11_back 28 = .ok (.getfield 41, 3) := by decide +kernel
theorem dX11_back_31 : decode cX11_back 31 = .ok (.iload_n 1, 1) := by decide +kernel
theorem dX11_back_32 : decode cX11_back 32 = .ok (.aaload, 1) := by decide +kernel
theorem dX11_back_33 : decode cX11_back 33 = .ok (.invokevirtual 283, 3) := by decide +kernel
theorem dX11_back_36 : decode cX11_back 36 = .ok (.aload_n 0, 1) := by decide +kernel
theorem dX11_back_37 : decode cX11_back 37 = .ok (.getfield 37, 3) := by decide +kernel
theorem dX11_back_40 : decode cX11_back 40 = .ok (.getfield 291, 3) := by decide +kernel
theorem dX11_back_43 : decode cX11_back 43 = .ok (.ireturn, 1) := by decide +kernel
theorem dX11_count_0 : decode cX11_count 0 = .ok (.iload_n 1, 1) := by decide +kernel
theorem dX11_count_1 : decode cX11_count 1 = .ok (.tableswitch 72 0 4 #[35, 43, 48, 56, 64], 35) := by decide +kernel
theorem dX11_count_36 : decode cX11_count 36 = .ok (.aload_n 0, 1) := by decide +kernel
theorem dX11_count_37 : decode cX11_count 37 = .ok (.getfield 37, 3) := by decide +kernel
theorem dX11_count_40 : decode cX11_count 40 = .ok (.getfield 294, 3) := by decide +kernel
theorem dX11_count_43 : decode cX11_count 43 = .ok (.ireturn, 1) := by decide +kernel
theorem dX11_count_44 : decode cX11_count 44 = .ok (.aload_n 0, 1) := by decide +kernel
theorem dX11_count_45 : decode cX11_count 45 = .ok (.getfield 100, 3) := by decide +kernel
theorem dX11_count_48 : decode cX11_count 48 = .ok (.ireturn, 1) := by decide +kernel
theorem dX11_count_49 : decode cX11_count 49 = .ok (.aload_n 0, 1) := by decide +kernel
theorem dX11_count_50 : decode cX11_count 50 = .ok (.getfield 37, 3) := by decide +kernel
theorem dX11_count_53 : decode cX11_count 53 = .ok (.getfield 291, 3) := by decide +kernel
theorem dX11_count_56 : decode cX11_count 56 = .ok (.ireturn, 1) := by decide +kernel
theorem dX11_count_57 : decode cX11_count 57 = .ok (.aload_n 0, 1) := by decide +kernel
theorem dX11_count_58 : decode cX11_count 58 = .ok (.getfield 37, 3) := by decide +kernel
theorem dX11_count_61 : decode cX11_count 61 = .ok (.invokevirtual 297, 3) := by decide +kernel
theorem dX11_count_64 : decode cX11_count 64 = .ok (.ireturn, 1) := by decide +kernel
theorem dX11_count_65 : decode cX11_count 65 = .ok (.aload_n 0, 1) := by decide +kernel
theorem dX11_count_66 : decode cX11_count 66 = .ok (.getfield 12, 3) := by decide +kernel
theorem dX11_count_69 : decode cX11_count 69 = .ok (.getfield 92, 3) := by decide +kernel
theorem dX11_count_72 : decode cX11_count 72 = .ok (.ireturn, 1) := by decide +kernel
theorem dX11_count_73 : decode cX11_count 73 = .ok (.iconst (-1), 1) := by decide +kernel
theorem dX11_count_74 : decode cX11_count 74 = .ok (.ireturn, 1) := by decide +kernel
theorem dX11_isWithin_0 : decode cX11_isWithin 0 = .ok (.iload_n 0, 1) := by decide +kernel
theorem dX11_isWithin_1 : decode cX11_isWithin 1 = .ok (.iload_n 1, 1) := by decide +kernel
theorem dX11_isWithin_2 : decode cX11_isWithin 2 = .ok (.if_icmp .lt 12, 3) := by decide +kernel
theorem dX11_isWithin_5 : decode cX11_isWithin 5 = .ok (.iload_n 0, 1) := by decide +kernel
theorem dX11_isWithin_6 : decode cX11_isWithin 6 = .ok (.iload_n 2, 1) := by decide +kernel
theorem dX11_isWithin_7 : decode cX11_isWithin 7 = .ok (.if_icmp .gt 7, 3) := by decide +kernel
theorem dX11_isWithin_10 : decode cX11_isWithin 10 = .ok (.iconst 1, 1) := by decide +kernel
theorem dX11_isWithin_11 : decode cX11_isWithin 11 = .ok (.goto 4, 3) := by decide +kernel
theorem dX11_isWithin_14 : decode cX11_isWithin 14 = .ok (.iconst 0, 1) := by decide +kernel
theorem dX11_isWithin_15 : decode cX11_isWithin 15 = .ok (.ireturn, 1) := by decide +kernel
theorem dX11_areTwo_0 : decode cX11_areTwo 0 = .ok (.iload_n 1, 1) := by decide +kernel
theorem dX11_areTwo_1 : decode cX11_areTwo 1 = .ok (.iload_n 2, 1) := by decide +kernel
theorem dX11_areTwo_2 : decode cX11_areTwo 2 = .ok (.if_icmp .eq 29, 3) := by decide +kernel
theorem dX11_areTwo_5 : decode cX11_areTwo 5 = .ok (.aload_n 0, 1) := by decide +kernel
theorem dX11_areTwo_6 : decode cX11_areTwo 6 = .ok (.getfield 37, 3) := by decide +kernel
theorem dX11_areTwo_9 : decode cX11_areTwo 9 = .ok (.iload_n 1, 1) := by decide +kernel
theorem dX11_areTwo_10 : decode cX11_areTwo 10 = .ok (.invokevirtual 107, 3) := by decide +kernel
theorem dX11_areTwo_13 : decode cX11_areTwo 13 = .ok (.ifCond .eq 18, 3) := by decide +kernel
theorem dX11_areTwo_16 : decode cX11_areTwo 16 = .ok (.aload_n 0, 1) := by decide +kernel
theorem dX11_areTwo_17 : decode cX11_areTwo 17 = .ok (.getfield 37, 3) := by decide +kernel
theorem dX11_areTwo_20 : decode cX11_areTwo 20 = .ok (.iload_n 2, 1) := by decide +kernel
theorem dX11_areTwo_21 : decode cX11_areTwo 21 = .ok (.invokevirtual 107, 3) := by decide +kernel
theorem dX11_areTwo_24 : decode cX11_areTwo 24 = .ok (.ifCond .eq 7, 3) := by decide +kernel
theorem dX11_areTwo_27 : decode cX11_areTwo 27 = .ok (.iconst 1, 1) := by decide +kernel
theorem dX11_areTwo_28 : decode cX11_areTwo 28 = .ok (.goto 4, 3) := by decide +kernel
theorem dX11_areTwo_31 : decode cX11_areTwo 31 = .ok (.iconst 0, 1) := by decide +kernel
theorem dX11_areTwo_32 : decode cX11_areTwo 32 = .ok (.ireturn, 1) := by decide +kernel
theorem dX11_hasCode_0 : decode cX11_hasCode 0 = .ok (.iload_n 1, 1) := by decide +kernel
theorem dX11_hasCode_1 : decode cX11_hasCode 1 = .ok (.ifCond .lt 15, 3) := by decide +kernel
theorem dX11_hasCode_4 : decode cX11_hasCode 4 = .ok (.iload_n 1, 1) := by decide +kernel
theorem dX11_hasCode_5 : decode cX11_hasCode 5 = .ok (.aload_n 0, 1) := by decide +kernel
theorem dX11_hasCode_6 : decode cX11_hasCode 6 = .ok (.getfield 100, 3) := by decide +kernel
theorem dX11_hasCode_9 : decode cX11_hasCode 9 = .ok (.if_icmp .ge 7, 3) := by decide +kernel
theorem dX11_hasCode_12 : decode cX11_hasCode 12 = .ok (.iconst 1, 1) := by decide +kernel
theorem dX11_hasCode_13 : decode cX11_hasCode 13 = .ok (.goto 4, 3) := by decide +kernel
theorem dX11_hasCode_16 : decode cX11_hasCode 16 = .ok (.iconst 0, 1) := by decide +kernel
theorem dX11_hasCode_17 : decode cX11_hasCode 17 = .ok (.ireturn, 1) := by decide +kernel
theorem dX11_codeAt_0 : decode cX11_codeAt 0 = .ok (.iload_n 1, 1) := by decide +kernel
theorem dX11_codeAt_1 : decode cX11_codeAt 1 = .ok (.ifCond .lt 18, 3) := by decide +kernel
theorem dX11_codeAt_4 : decode cX11_codeAt 4 = .ok (.iload_n 1, 1) := by decide +kernel
theorem dX11_codeAt_5 : decode cX11_codeAt 5 = .ok (.bipush 6, 2) := by decide +kernel
theorem dX11_codeAt_7 : decode cX11_codeAt 7 = .ok (.if_icmp .ge 12, 3) := by decide +kernel
theorem dX11_codeAt_10 : decode cX11_codeAt 10 = .ok (.aload_n 0, 1) := by decide +kernel
theorem dX11_codeAt_11 : decode cX11_codeAt 11 = .ok (.getfield 18, 3) := by decide +kernel
theorem dX11_codeAt_14 : decode cX11_codeAt 14 = .ok (.iload_n 1, 1) := by decide +kernel
theorem dX11_codeAt_15 : decode cX11_codeAt 15 = .ok (.aaload, 1) := by decide +kernel
theorem dX11_codeAt_16 : decode cX11_codeAt 16 = .ok (.goto 7, 3) := by decide +kernel
theorem dX11_codeAt_19 : decode cX11_codeAt 19 = .ok (.aload_n 0, 1) := by decide +kernel
theorem dX11_codeAt_20 : decode cX11_codeAt 20 = .ok (.getfield 23, 3) := by decide +kernel
theorem dX11_codeAt_23 : decode cX11_codeAt 23 = .ok (.areturn, 1) := by decide +kernel
theorem dX11_study_0 : decode cX11_study 0 = .ok (.aload_n 0, 1) := by decide +kernel
theorem dX11_study_1 : decode cX11_study 1 = .ok (.getfield 55, 3) := by decide +kernel
theorem dX11_study_4 : decode cX11_study 4 = .ok (.aload_n 0, 1) := by decide +kernel
theorem dX11_study_5 : decode cX11_study 5 = .ok (.getfield 37, 3) := by decide +kernel
theorem dX11_study_8 : decode cX11_study 8 = .ok (.aload_n 1, 1) := by decide +kernel
theorem dX11_study_9 : decode cX11_study 9 = .ok (.getfield 300, 3) := by decide +kernel
theorem dX11_study_12 : decode cX11_study 12 = .ok (.aload_n 1, 1) := by decide +kernel
theorem dX11_study_13 : decode cX11_study 13 = .ok (.getfield 303, 3) := by decide +kernel
theorem dX11_study_16 : decode cX11_study 16 = .ok (.aload_n 1, 1) := by decide +kernel
theorem dX11_study_17 : decode cX11_study 17 = .ok (.getfield 306, 3) := by decide +kernel
theorem dX11_study_20 : decode cX11_study 20 = .ok (.aload_n 0, 1) := by decide +kernel
theorem dX11_study_21 : decode cX11_study 21 = .ok (.aload_n 1, 1) := by decide +kernel
theorem dX11_study_22 : decode cX11_study 22 = .ok (.getfield 309, 3) := by decide +kernel
theorem dX11_study_25 : decode cX11_study 25 = .ok (.invokevirtual 118, 3) := by decide +kernel
theorem dX11_study_28 : decode cX11_study 28 = .ok (.aload_n 0, 1) := by decide +kernel
theorem dX11_study_29 : decode cX11_study 29 = .ok (.aload_n 1, 1) := by decide +kernel
