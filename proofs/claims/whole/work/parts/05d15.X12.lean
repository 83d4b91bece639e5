theorem dX12_place_27 : decode cX12_place 27 = .ok (.getfield 59, 3) := by decide +kernel
theorem dX12_place_30 : decode cX12_place 30 = .ok (.iconst 0, 1) := by decide +kernel
theorem dX12_place_31 : decode cX12_place 31 = .ok (.iaload, 1) := by decide +kernel
theorem dX12_place_32 : decode cX12_place 32 = .ok (.imul, 1) := by decide +kernel
theorem dX12_place_33 : decode cX12_place 33 = .ok (.iadd, 1) := by decide +kernel
theorem dX12_place_34 : decode cX12_place 34 = .ok (.aload_n 0, 1) := by decide +kernel
theorem dX12_place_35 : decode cX12_place 35 = .ok (.getfield 59, 3) := by decide +kernel
theorem dX12_place_38 : decode cX12_place 38 = .ok (.iconst 1, 1) := by decide +kernel
theorem dX12_place_39 : decode cX12_place 39 = .ok (.iaload, 1) := by decide +kernel
theorem dX12_place_40 : decode cX12_place 40 = .ok (.iadd, 1) := by decide +kernel
theorem dX12_place_41 : decode cX12_place 41 = .ok (.ireturn, 1) := by decide +kernel
theorem dX12_goTo_0 : decode cX12_goTo 0 = .ok (.aload_n 0, 1) := by decide +kernel
theorem dX12_goTo_1 : decode cX12_goTo 1 = .ok (.getfield 59, 3) := by decide +kernel
theorem dX12_goTo_4 : decode cX12_goTo 4 = .ok (.iconst 1, 1) := by decide +kernel
theorem dX12_goTo_5 : decode cX12_goTo 5 = .ok (.iload_n 1, 1) := by decide +kernel
theorem dX12_goTo_6 : decode cX12_goTo 6 = .ok (.bipush 15, 2) := by decide +kernel
theorem dX12_goTo_8 : decode cX12_goTo 8 = .ok (.iand, 1) := by decide +kernel
theorem dX12_goTo_9 : decode cX12_goTo 9 = .ok (.iastore, 1) := by decide +kernel
theorem dX12_goTo_10 : decode cX12_goTo 10 = .ok (.aload_n 0, 1) := by decide +kernel
theorem dX12_goTo_11 : decode cX12_goTo 11 = .ok (.getfield 59, 3) := by decide +kernel
theorem dX12_goTo_14 : decode cX12_goTo 14 = .ok (.iconst 0, 1) := by decide +kernel
theorem dX12_goTo_15 : decode cX12_goTo 15 = .ok (.iload_n 1, 1) := by decide +kernel
theorem dX12_goTo_16 : decode cX12_goTo 16 = .ok (.iconst 4, 1) := by decide +kernel
theorem dX12_goTo_17 : decode cX12_goTo 17 = .ok (.ishr, 1) := by decide +kernel
theorem dX12_goTo_18 : decode cX12_goTo 18 = .ok (.bipush 15, 2) := by decide +kernel
theorem dX12_goTo_20 : decode cX12_goTo 20 = .ok (.iand, 1) := by decide +kernel
theorem dX12_goTo_21 : decode cX12_goTo 21 = .ok (.iastore, 1) := by decide +kernel
theorem dX12_goTo_22 : decode cX12_goTo 22 = .ok (.iload_n 1, 1) := by decide +kernel
theorem dX12_goTo_23 : decode cX12_goTo 23 = .ok (.sipush 256, 3) := by decide +kernel
theorem dX12_goTo_26 : decode cX12_goTo 26 = .ok (.idiv, 1) := by decide +kernel
theorem dX12_goTo_27 : decode cX12_goTo 27 = .ok (.istore_n 2, 1) := by decide +kernel
theorem dX12_goTo_28 : decode cX12_goTo 28 = .ok (.aload_n 0, 1) := by decide +kernel
theorem dX12_goTo_29 : decode cX12_goTo 29 = .ok (.iload_n 2, 1) := by decide +kernel
theorem dX12_goTo_30 : decode cX12_goTo 30 = .ok (.iconst 3, 1) := by decide +kernel
theorem dX12_goTo_31 : decode cX12_goTo 31 = .ok (.irem, 1) := by decide +kernel
theorem dX12_goTo_32 : decode cX12_goTo 32 = .ok (.iconst 1, 1) := by decide +kernel
theorem dX12_goTo_33 : decode cX12_goTo 33 = .ok (.isub, 1) := by decide +kernel
theorem dX12_goTo_34 : decode cX12_goTo 34 = .ok (.putfield 344, 3) := by decide +kernel
theorem dX12_goTo_37 : decode cX12_goTo 37 = .ok (.aload_n 0, 1) := by decide +kernel
theorem dX12_goTo_38 : decode cX12_goTo 38 = .ok (.iload_n 2, 1) := by decide +kernel
theorem dX12_goTo_39 : decode cX12_goTo 39 = .ok (.iconst 3, 1) := by decide +kernel
theorem dX12_goTo_40 : decode cX12_goTo 40 = .ok (.idiv, 1) := by decide +kernel
theorem dX12_goTo_41 : decode cX12_goTo 41 = .ok (.iconst 2, 1) := by decide +kernel
theorem dX12_goTo_42 : decode cX12_goTo 42 = .ok (.irem, 1) := by decide +kernel
theorem dX12_goTo_43 : decode cX12_goTo 43 = .ok (.putfield 338, 3) := by decide +kernel
theorem dX12_goTo_46 : decode cX12_goTo 46 = .ok (.aload_n 0, 1) := by decide +kernel
theorem dX12_goTo_47 : decode cX12_goTo 47 = .ok (.iload_n 2, 1) := by decide +kernel
theorem dX12_goTo_48 : decode cX12_goTo 48 = .ok (.bipush 6, 2) := by decide +kernel
theorem dX12_goTo_50 : decode cX12_goTo 50 = .ok (.idiv, 1) := by decide +kernel
theorem dX12_goTo_51 : decode cX12_goTo 51 = .ok (.putfield 341, 3) := by decide +kernel
theorem dX12_goTo_54 : decode cX12_goTo 54 = .ok (.aload_n 0, 1) := by decide +kernel
theorem dX12_goTo_55 : decode cX12_goTo 55 = .ok (.iconst 0, 1) := by decide +kernel
theorem dX12_goTo_56 : decode cX12_goTo 56 = .ok (.putfield 347, 3) := by decide +kernel
theorem dX12_goTo_59 : decode cX12_goTo 59 = .ok (.aload_n 0, 1) := by decide +kernel
theorem dX12_goTo_60 : decode cX12_goTo 60 = .ok (.iconst 0, 1) := by decide +kernel
theorem dX12_goTo_61 : decode cX12_goTo 61 = .ok (.putfield 350, 3) := by decide +kernel
theorem dX12_goTo_64 : decode cX12_goTo 64 = .ok (.return_, 1) := by decide +kernel
theorem dX12_forgets_0 : decode cX12_forgets 0 = .ok (.iconst 0, 1) := by decide +kernel
theorem dX12_forgets_1 : decode cX12_forgets 1 = .ok (.istore_n 1, 1) := by decide +kernel
theorem dX12_forgets_2 : decode cX12_forgets 2 = .ok (.iload_n 1, 1) := by decide +kernel
theorem dX12_forgets_3 : decode cX12_forgets 3 = .ok (.sipush 13824, 3) := by decide +kernel
theorem dX12_forgets_6 : decode cX12_forgets 6 = .ok (.if_icmp .ge 16, 3) := by decide +kernel
theorem dX12_forgets_9 : decode cX12_forgets 9 = .ok (.aload_n 0, 1) := by decide +kernel
theorem dX12_forgets_10 : decode cX12_forgets 10 = .ok (.getfield 62, 3) := by decide +kernel
theorem dX12_forgets_13 : decode cX12_forgets 13 = .ok (.iload_n 1, 1) := by decide +kernel
theorem dX12_forgets_14 : decode cX12_forgets 14 = .ok (.iconst 0, 1) := by decide +kernel
theorem dX12_forgets_15 : decode cX12_forgets 15 = .ok (.bastore, 1) := by decide +kernel
theorem dX12_forgets_16 : decode cX12_forgets 16 = .ok (.iinc 1 1, 3) := by decide +kernel
theorem dX12_forgets_19 : decode cX12_forgets 19 = .ok (.goto (-17), 3) := by decide +kernel
theorem dX12_forgets_22 : decode cX12_forgets 22 = .ok (.return_, 1) := by decide +kernel
theorem dX12_worth_0 : decode cX12_worth 0 = .ok (.iload_n 0, 1) := by decide +kernel
theorem dX12_worth_1 : decode cX12_worth 1 = .ok (.iload_n 1, 1) := by decide +kernel
theorem dX12_worth_2 : decode cX12_worth 2 = .ok (.ishr, 1) := by decide +kernel
theorem dX12_worth_3 : decode cX12_worth 3 = .ok (.iconst 1, 1) := by decide +kernel
theorem dX12_worth_4 : decode cX12_worth 4 = .ok (.iand, 1) := by decide +kernel
theorem dX12_worth_5 : decode cX12_worth 5 = .ok (.istore_n 2, 1) := by decide +kernel
theorem dX12_worth_6 : decode cX12_worth 6 = .ok (.iload_n 0, 1) := by decide +kernel
theorem dX12_worth_7 : decode cX12_worth 7 = .ok (.iconst 1, 1) := by decide +kernel
theorem dX12_worth_8 : decode cX12_worth 8 = .ok (.iload_n 1, 1) := by decide +kernel
theorem dX12_worth_9 : decode cX12_worth 9 = .ok (.isub, 1) := by decide +kernel
theorem dX12_worth_10 : decode cX12_worth 10 = .ok (.ishr, 1) := by decide +kernel
theorem dX12_worth_11 : decode cX12_worth 11 = .ok (.iconst 1, 1) := by decide +kernel
theorem dX12_worth_12 : decode cX12_worth 12 = .ok (.iand, 1) := by decide +kernel
theorem dX12_worth_13 : decode cX12_worth 13 = .ok (.istore_n 3, 1) := by decide +kernel
theorem dX12_worth_14 : decode cX12_worth 14 = .ok (.iconst 4, 1) := by decide +kernel
theorem dX12_worth_15 : decode cX12_worth 15 = .ok (.iload_n 2, 1) := by decide +kernel
theorem dX12_worth_16 : decode cX12_worth 16 = .ok (.imul, 1) := by decide +kernel
theorem dX12_worth_17 : decode cX12_worth 17 = .ok (.iload_n 0, 1) := by decide +kernel
theorem dX12_worth_18 : decode cX12_worth 18 = .ok (.iconst 4, 1) := by decide +kernel
theorem dX12_worth_19 : decode cX12_worth 19 = .ok (.idiv, 1) := by decide +kernel
theorem dX12_worth_20 : decode cX12_worth 20 = .ok (.iconst 2, 1) := by decide +kernel
theorem dX12_worth_21 : decode cX12_worth 21 = .ok (.if_icmp .ne 7, 3) := by decide +kernel
theorem dX12_worth_24 : decode cX12_worth 24 = .ok (.iconst 2, 1) := by decide +kernel
theorem dX12_worth_25 : decode cX12_worth 25 = .ok (.goto 4, 3) := by decide +kernel
theorem dX12_worth_28 : decode cX12_worth 28 = .ok (.iconst 0, 1) := by decide +kernel
theorem dX12_worth_29 : decode cX12_worth 29 = .ok (.iadd, 1) := by decide +kernel
theorem dX12_worth_30 : decode cX12_worth 30 = .ok (.iload_n 3, 1) := by decide +kernel
theorem dX12_worth_31 : decode cX12_worth 31 = .ok (.iadd, 1) := by decide +kernel
theorem dX12_worth_32 : decode cX12_worth 32 = .ok (.ireturn, 1) := by decide +kernel
theorem dX12_spreads_0 : decode cX12_spreads 0 = .ok (.sipush 13823, 3) := by decide +kernel
theorem dX12_spreads_3 : decode cX12_spreads 3 = .ok (.istore_n 1, 1) := by decide +kernel
theorem dX12_spreads_4 : decode cX12_spreads 4 = .ok (.iload_n 1, 1) := by decide +kernel
theorem dX12_spreads_5 : decode cX12_spreads 5 = .ok (.sipush 1536, 3) := by decide +kernel
theorem dX12_spreads_8 : decode cX12_spreads 8 = .ok (.if_icmp .lt 74, 3) := by decide +kernel
theorem dX12_spreads_11 : decode cX12_spreads 11 = .ok (.aload_n 0, 1) := by decide +kernel
theorem dX12_spreads_12 : decode cX12_spreads 12 = .ok (.getfield 62, 3) := by decide +kernel
theorem dX12_spreads_15 : decode cX12_spreads 15 = .ok (.iload_n 1, 1) := by decide +kernel
theorem dX12_spreads_16 : decode cX12_spreads 16 = .ok (.baload, 1) := by decide +kernel
theorem dX12_spreads_17 : decode cX12_spreads 17 = .ok (.ifCond .ne 6, 3) := by decide +kernel
theorem dX12_spreads_20 : decode cX12_spreads 20 = .ok (.goto 56, 3) := by decide +kernel
theorem dX12_spreads_23 : decode cX12_spreads 23 = .ok (.iconst 0, 1) := by decide +kernel
theorem dX12_spreads_24 : decode cX12_spreads 24 = .ok (.istore_n 2, 1) := by decide +kernel
theorem dX12_spreads_25 : decode cX12_spreads 25 = .ok (.iload_n 2, 1) := by decide +kernel
theorem dX12_spreads_26 : decode cX12_spreads 26 = .ok (.bipush 11, 2) := by decide +kernel
theorem dX12_spreads_28 : decode cX12_spreads 28 = .ok (.if_icmp .ge 48, 3) := by decide +kernel
theorem dX12_spreads_31 : decode cX12_spreads 31 = .ok (.aload_n 0, 1) := by decide +kernel
theorem dX12_spreads_32 : decode cX12_spreads 32 = .ok (.iload_n 1, 1) := by decide +kernel
theorem dX12_spreads_33 : decode cX12_spreads 33 = .ok (.invokevirtual 361, 3) := by decide +kernel
theorem dX12_spreads_36 : decode cX12_spreads 36 = .ok (.aload_n 0, 1) := by decide +kernel
theorem dX12_spreads_37 : decode cX12_spreads 37 = .ok (.iload_n 2, 1) := by decide +kernel
theorem dX12_spreads_38 : decode cX12_spreads 38 = .ok (.invokevirtual 364, 3) := by decide +kernel
theorem dX12_spreads_41 : decode cX12_spreads 41 = .ok (.ifCond .ne 6, 3) := by decide +kernel
theorem dX12_spreads_44 : decode cX12_spreads 44 = .ok (.goto 26, 3) := by decide +kernel
theorem dX12_spreads_47 : decode cX12_spreads 47 = .ok (.aload_n 0, 1) := by decide +kernel
theorem dX12_spreads_48 : decode cX12_spreads 48 = .ok (.iload_n 2, 1) := by decide +kernel
theorem dX12_spreads_49 : decode cX12_spreads 49 = .ok (.iconst 1, 1) := by decide +kernel
theorem dX12_spreads_50 : decode cX12_spreads 50 = .ok (.invokevirtual 367, 3) := by decide +kernel
theorem dX12_spreads_53 : decode cX12_spreads 53 = .ok (.aload_n 0, 1) := by decide +kernel
theorem dX12_spreads_54 : decode cX12_spreads 54 = .ok (.getfield 347, 3) := by decide +kernel
theorem dX12_spreads_57 : decode cX12_spreads 57 = .ok (.ifCond .ne 13, 3) := by decide +kernel
theorem dX12_spreads_60 : decode cX12_spreads 60 = .ok (.aload_n 0, 1) := by decide +kernel
theorem dX12_spreads_61 : decode cX12_spreads 61 = .ok (.getfield 62, 3) := by decide +kernel
theorem dX12_spreads_64 : decode cX12_spreads 64 = .ok (.aload_n 0, 1) := by decide +kernel
theorem dX12_spreads_65 : decode cX12_spreads 65 = .ok (.invokevirtual 371, 3) := by decide +kernel
theorem dX12_spreads_68 : decode cX12_spreads 68 = .ok (.iconst 1, 1) := by decide +kernel
theorem dX12_spreads_69 : decode cX12_spreads 69 = .ok (.bastore, 1) := by decide +kernel
theorem dX12_spreads_70 : decode cX12_spreads 70 = .ok (.iinc 2 1, 3) := by decide +kernel
theorem dX12_spreads_73 : decode cX12_spreads 73 = .ok (.goto (-48), 3) := by decide +kernel
theorem dX12_spreads_76 : decode cX12_spreads 76 = .ok (.iinc 1 (-1), 3) := by decide +kernel
theorem dX12_spreads_79 : decode cX12_spreads 79 = .ok (.goto (-75), 3) := by decide +kernel
theorem dX12_spreads_82 : decode cX12_spreads 82 = .ok (.return_, 1) := by decide +kernel
theorem dX12_works_0 : decode cX12_works 0 = .ok (.aload_n 0, 1) := by decide +kernel
theorem dX12_works_1 : decode cX12_works 1 = .ok (.invokevirtual 374, 3) := by decide +kernel
theorem dX12_works_4 : decode cX12_works 4 = .ok (.sipush 1536, 3) := by decide +kernel
theorem dX12_works_7 : decode cX12_works 7 = .ok (.istore_n 2, 1) := by decide +kernel
theorem dX12_works_8 : decode cX12_works 8 = .ok (.iload_n 2, 1) := by decide +kernel
theorem dX12_works_9 : decode cX12_works 9 = .ok (.sipush 13824, 3) := by decide +kernel
theorem dX12_works_12 : decode cX12_works 12 = .ok (.if_icmp .ge 319, 3) := by decide +kernel
theorem dX12_works_15 : decode cX12_works 15 = .ok (.aload_n 0, 1) := by decide +kernel
theorem dX12_works_16 : decode cX12_works 16 = .ok (.getfield 62, 3) := by decide +kernel
theorem dX12_works_19 : decode cX12_works 19 = .ok (.iload_n 2, 1) := by decide +kernel
theorem dX12_works_20 : decode cX12_works 20 = .ok (.baload, 1) := by decide +kernel
theorem dX12_works_21 : decode cX12_works 21 = .ok (.ifCond .ne 6, 3) := by decide +kernel
theorem dX12_works_24 : decode cX12_works 24 = .ok (.goto 301, 3) := by decide +kernel
theorem dX12_works_27 : decode cX12_works 27 = .ok (.aload_n 0, 1) := by decide +kernel
theorem dX12_works_28 : decode cX12_works 28 = .ok (.getfield 69, 3) := by decide +kernel
theorem dX12_works_31 : decode cX12_works 31 = .ok (.iload_n 2, 1) := by decide +kernel
theorem dX12_works_32 : decode cX12_works 32 = .ok (.iconst (-1), 1) := by decide +kernel
theorem dX12_works_33 : decode cX12_works 33 = .ok (.iastore, 1) := by decide +kernel
theorem dX12_works_34 : decode cX12_works 34 = .ok (.aload_n 0, 1) := by decide +kernel
theorem dX12_works_35 : decode cX12_works 35 = .ok (.getfield 72, 3) := by decide +kernel
theorem dX12_works_38 : decode cX12_works 38 = .ok (.iload_n 2, 1) := by decide +kernel
theorem dX12_works_39 : decode cX12_works 39 = .ok (.iconst 0, 1) := by decide +kernel
theorem dX12_works_40 : decode cX12_works 40 = .ok (.iastore, 1) := by decide +kernel
theorem dX12_works_41 : decode cX12_works 41 = .ok (.aload_n 0, 1) := by decide +kernel
theorem dX12_works_42 : decode cX12_works 42 = .ok (.getfield 75, 3) := by decide +kernel
theorem dX12_works_45 : decode cX12_works 45 = .ok (.iload_n 2, 1) := by decide +kernel
theorem dX12_works_46 : decode cX12_works 46 = .ok (.lconst 0, 1) := by decide +kernel
theorem dX12_works_47 : decode cX12_works 47 = .ok (.lastore, 1) := by decide +kernel
theorem dX12_works_48 : decode cX12_works 48 = .ok (.aload_n 0, 1) := by decide +kernel
theorem dX12_works_49 : decode cX12_works 49 = .ok (.getfield 79, 3) := by decide +kernel
theorem dX12_works_52 : decode cX12_works 52 = .ok (.iload_n 2, 1) := by decide +kernel
theorem dX12_works_53 : decode cX12_works 53 = .ok (.bipush 99, 2) := by decide +kernel
theorem dX12_works_55 : decode cX12_works 55 = .ok (.iastore, 1) := by decide +kernel
theorem dX12_works_56 : decode cX12_works 56 = .ok (.aload_n 0, 1) := by decide +kernel
theorem dX12_works_57 : decode cX12_works 57 = .ok (.iload_n 2, 1) := by decide +kernel
theorem dX12_works_58 : decode cX12_works 58 = .ok (.invokevirtual 361, 3) := by decide +kernel
theorem dX12_works_61 : decode cX12_works 61 = .ok (.aload_n 0, 1) := by decide +kernel
theorem dX12_works_62 : decode cX12_works 62 = .ok (.getfield 338, 3) := by decide +kernel
theorem dX12_works_65 : decode cX12_works 65 = .ok (.istore_n 3, 1) := by decide +kernel
theorem dX12_works_66 : decode cX12_works 66 = .ok (.iconst 0, 1) := by decide +kernel
theorem dX12_works_67 : decode cX12_works 67 = .ok (.istore 4, 2) := by decide +kernel
theorem dX12_works_69 : decode cX12_works 69 = .ok (.iload 4, 2) := by decide +kernel
theorem dX12_works_71 : decode cX12_works 71 = .ok (.bipush 11, 2) := by decide +kernel
theorem dX12_works_73 : decode cX12_works 73 = .ok (.if_icmp .ge 252, 3) := by decide +kernel
theorem dX12_works_76 : decode cX12_works 76 = .ok (.aload_n 0, 1) := by decide +kernel
theorem dX12_works_77 : decode cX12_works 77 = .ok (.iload_n 2, 1) := by decide +kernel
theorem dX12_works_78 : decode cX12_works 78 = .ok (.invokevirtual 361, 3) := by decide +kernel
theorem dX12_works_81 : decode cX12_works 81 = .ok (.aload_n 0, 1) := by decide +kernel
theorem dX12_works_82 : decode cX12_works 82 = .ok (.iload 4, 2) := by decide +kernel
theorem dX12_works_84 : decode cX12_works 84 = .ok (.invokevirtual 364, 3) := by decide +kernel
theorem dX12_works_87 : decode cX12_works 87 = .ok (.ifCond .ne 6, 3) := by decide +kernel
theorem dX12_works_90 : decode cX12_works 90 = .ok (.goto 229, 3) := by decide +kernel
theorem dX12_works_93 : decode cX12_works 93 = .ok (.aload_n 0, 1) := by decide +kernel
theorem dX12_works_94 : decode cX12_works 94 = .ok (.iload 4, 2) := by decide +kernel
theorem dX12_works_96 : decode cX12_works 96 = .ok (.iconst 1, 1) := by decide +kernel
theorem dX12_works_97 : decode cX12_works 97 = .ok (.invokevirtual 367, 3) := by decide +kernel
theorem dX12_works_100 : decode cX12_works 100 = .ok (.aload_n 0, 1) := by decide +kernel
theorem dX12_works_101 : decode cX12_works 101 = .ok (.getfield 347, 3) := by decide +kernel
theorem dX12_works_104 : decode cX12_works 104 = .ok (.ifCond .le 7, 3) := by decide +kernel
theorem dX12_works_107 : decode cX12_works 107 = .ok (.iconst (-1), 1) := by decide +kernel
theorem dX12_works_108 : decode cX12_works 108 = .ok (.goto 7, 3) := by decide +kernel
theorem dX12_works_111 : decode cX12_works 111 = .ok (.aload_n 0, 1) := by decide +kernel
theorem dX12_works_112 : decode cX12_works 112 = .ok (.invokevirtual 371, 3) := by decide +kernel
theorem dX12_works_115 : decode cX12_works 115 = .ok (.istore 5, 2) := by decide +kernel
theorem dX12_works_117 : decode cX12_works 117 = .ok (.iload 5, 2) := by decide +kernel
theorem dX12_works_119 : decode cX12_works 119 = .ok (.ifCond .ge 10, 3) := by decide +kernel
theorem dX12_works_122 : decode cX12_works 122 = .ok (.aload_n 0, 1) := by decide +kernel
theorem dX12_works_123 : decode cX12_works 123 = .ok (.invokevirtual 377, 3) := by decide +kernel
theorem dX12_works_126 : decode cX12_works 126 = .ok (.goto 10, 3) := by decide +kernel
theorem dX12_works_129 : decode cX12_works 129 = .ok (.aload_n 0, 1) := by decide +kernel
theorem dX12_works_130 : decode cX12_works 130 = .ok (.getfield 66, 3) := by decide +kernel
theorem dX12_works_133 : decode cX12_works 133 = .ok (.iload 5, 2) := by decide +kernel
theorem dX12_works_135 : decode cX12_works 135 = .ok (.iaload, 1) := by decide +kernel
theorem dX12_works_136 : decode cX12_works 136 = .ok (.istore 6, 2) := by decide +kernel
theorem dX12_works_138 : decode cX12_works 138 = .ok (.aload_n 0, 1) := by decide +kernel
theorem dX12_works_139 : decode cX12_works 139 = .ok (.getfield 69, 3) := by decide +kernel
theorem dX12_works_142 : decode cX12_works 142 = .ok (.iload_n 2, 1) := by decide +kernel
theorem dX12_works_143 : decode cX12_works 143 = .ok (.iaload, 1) := by decide +kernel
theorem dX12_works_144 : decode cX12_works 144 = .ok (.ifCond .lt 22, 3) := by decide +kernel
theorem dX12_works_147 : decode cX12_works 147 = .ok (.iload 6, 2) := by decide +kernel
theorem dX12_works_149 : decode cX12_works 149 = .ok (.iload_n 3, 1) := by decide +kernel
theorem dX12_works_150 : decode cX12_works 150 = .ok (.invokestatic 380, 3) := by decide +kernel
theorem dX12_works_153 : decode cX12_works 153 = .ok (.aload_n 0, 1) := by decide +kernel
theorem dX12_works_154 : decode cX12_works 154 = .ok (.getfield 66, 3) := by decide +kernel
theorem dX12_works_157 : decode cX12_works 157 = .ok (.iload_n 2, 1) := by decide +kernel
theorem dX12_works_158 : decode cX12_works 158 = .ok (.iaload, 1) := by decide +kernel
theorem dX12_works_159 : decode cX12_works 159 = .ok (.iload_n 3, 1) := by decide +kernel
theorem dX12_works_160 : decode cX12_works 160 = .ok (.invokestatic 380, 3) := by decide +kernel
theorem dX12_works_163 : decode cX12_works 163 = .ok (.if_icmp .ge 19, 3) := by decide +kernel
theorem dX12_works_166 : decode cX12_works 166 = .ok (.aload_n 0, 1) := by decide +kernel
theorem dX12_works_167 : decode cX12_works 167 = .ok (.getfield 69, 3) := by decide +kernel
theorem dX12_works_170 : decode cX12_works 170 = .ok (.iload_n 2, 1) := by decide +kernel
theorem dX12_works_171 : decode cX12_works 171 = .ok (.iload 4, 2) := by decide +kernel
theorem dX12_works_173 : decode cX12_works 173 = .ok (.iastore, 1) := by decide +kernel
theorem dX12_works_174 : decode cX12_works 174 = .ok (.aload_n 0, 1) := by decide +kernel
theorem dX12_works_175 : decode cX12_works 175 = .ok (.getfield 66, 3) := by decide +kernel
theorem dX12_works_178 : decode cX12_works 178 = .ok (.iload_n 2, 1) := by decide +kernel
theorem dX12_works_179 : decode cX12_works 179 = .ok (.iload 6, 2) := by decide +kernel
theorem dX12_works_181 : decode cX12_works 181 = .ok (.iastore, 1) := by decide +kernel
theorem dX12_works_182 : decode cX12_works 182 = .ok (.aload_n 0, 1) := by decide +kernel
theorem dX12_works_183 : decode cX12_works 183 = .ok (.getfield 72, 3) := by decide +kernel
theorem dX12_works_186 : decode cX12_works 186 = .ok (.iload_n 2, 1) := by decide +kernel
theorem dX12_works_187 : decode cX12_works 187 = .ok (.dup2, 1) := by decide +kernel
theorem dX12_works_188 : decode cX12_works 188 = .ok (.iaload, 1) := by decide +kernel
theorem dX12_works_189 : decode cX12_works 189 = .ok (.iload 5, 2) := by decide +kernel
theorem dX12_works_191 : decode cX12_works 191 = .ok (.ifCond .ge 12, 3) := by decide +kernel
theorem dX12_works_194 : decode cX12_works 194 = .ok (.iconst 1, 1) := by decide +kernel
theorem dX12_works_195 : decode cX12_works 195 = .ok (.aload_n 0, 1) := by decide +kernel
theorem dX12_works_196 : decode cX12_works 196 = .ok (.invokevirtual 377, 3) := by decide +kernel
theorem dX12_works_199 : decode cX12_works 199 = .ok (.ishl, 1) := by decide +kernel
theorem dX12_works_200 : decode cX12_works 200 = .ok (.goto 10, 3) := by decide +kernel
theorem dX12_works_203 : decode cX12_works 203 = .ok (.aload_n 0, 1) := by decide +kernel
theorem dX12_works_204 : decode cX12_works 204 = .ok (.getfield 72, 3) := by decide +kernel
theorem dX12_works_207 : decode cX12_works 207 = .ok (.iload 5, 2) := by decide +kernel
theorem dX12_works_209 : decode cX12_works 209 = .ok (.iaload, 1) := by decide +kernel
theorem dX12_works_210 : decode cX12_works 210 = .ok (.ior, 1) := by decide +kernel
theorem dX12_works_211 : decode cX12_works 211 = .ok (.iastore, 1) := by decide +kernel
theorem dX12_works_212 : decode cX12_works 212 = .ok (.aload_n 0, 1) := by decide +kernel
theorem dX12_works_213 : decode cX12_works 213 = .ok (.getfield 75, 3) := by decide +kernel
theorem dX12_works_216 : decode cX12_works 216 = .ok (.iload_n 2, 1) := by decide +kernel
theorem dX12_works_217 : decode cX12_works 217 = .ok (.dup2, 1) := by decide +kernel
theorem dX12_works_218 : decode cX12_works 218 = .ok (.laload, 1) := by decide +kernel
theorem dX12_works_219 : decode cX12_works 219 = .ok (.iload 5, 2) := by decide +kernel
theorem dX12_works_221 : decode cX12_works 221 = .ok (.ifCond .ge 19, 3) := by decide +kernel
theorem dX12_works_224 : decode cX12_works 224 = .ok (.aload_n 0, 1) := by decide +kernel
theorem dX12_works_225 : decode cX12_works 225 = .ok (.invokevirtual 377, 3) := by decide +kernel
theorem dX12_works_228 : decode cX12_works 228 = .ok (.iload_n 1, 1) := by decide +kernel
theorem dX12_works_229 : decode cX12_works 229 = .ok (.if_icmp .ne 7, 3) := by decide +kernel
theorem dX12_works_232 : decode cX12_works 232 = .ok (.lconst 1, 1) := by decide +kernel
theorem dX12_works_233 : decode cX12_works 233 = .ok (.goto 14, 3) := by decide +kernel
theorem dX12_works_236 : decode cX12_works 236 = .ok (.lconst 0, 1) := by decide +kernel
theorem dX12_works_237 : decode cX12_works 237 = .ok (.goto 10, 3) := by decide +kernel
theorem dX12_works_240 : decode cX12_works 240 = .ok (.aload_n 0, 1) := by decide +kernel
theorem dX12_works_241 : decode cX12_works 241 = .ok (.getfield 75, 3) := by decide +kernel
theorem dX12_works_244 : decode cX12_works 244 = .ok (.iload 5, 2) := by decide +kernel
theorem dX12_works_246 : decode cX12_works 246 = .ok (.laload, 1) := by decide +kernel
theorem dX12_works_247 : decode cX12_works 247 = .ok (.ladd, 1) := by decide +kernel
theorem dX12_works_248 : decode cX12_works 248 = .ok (.lastore, 1) := by decide +kernel
theorem dX12_works_249 : decode cX12_works 249 = .ok (.iload 5, 2) := by decide +kernel
theorem dX12_works_251 : decode cX12_works 251 = .ok (.ifCond .ge 20, 3) := by decide +kernel
theorem dX12_works_254 : decode cX12_works 254 = .ok (.aload_n 0, 1) := by decide +kernel
theorem dX12_works_255 : decode cX12_works 255 = .ok (.invokevirtual 377, 3) := by decide +kernel
theorem dX12_works_258 : decode cX12_works 258 = .ok (.iload_n 1, 1) := by decide +kernel
theorem dX12_works_259 : decode cX12_works 259 = .ok (.if_icmp .ne 7, 3) := by decide +kernel
theorem dX12_works_262 : decode cX12_works 262 = .ok (.iconst 0, 1) := by decide +kernel
theorem dX12_works_263 : decode cX12_works 263 = .ok (.goto 15, 3) := by decide +kernel
theorem dX12_works_266 : decode cX12_works 266 = .ok (.bipush 99, 2) := by decide +kernel
theorem dX12_works_268 : decode cX12_works 268 = .ok (.goto 10, 3) := by decide +kernel
theorem dX12_works_271 : decode cX12_works 271 = .ok (.aload_n 0, 1) := by decide +kernel
theorem dX12_works_272 : decode cX12_works 272 = .ok (.getfield 79, 3) := by decide +kernel
theorem dX12_works_275 : decode cX12_works 275 = .ok (.iload 5, 2) := by decide +kernel
theorem dX12_works_277 : decode cX12_works 277 = .ok (.iaload, 1) := by decide +kernel
theorem dX12_works_278 : decode cX12_works 278 = .ok (.istore 7, 2) := by decide +kernel
theorem dX12_works_280 : decode cX12_works 280 = .ok (.aload_n 0, 1) := by decide +kernel
theorem dX12_works_281 : decode cX12_works 281 = .ok (.getfield 79, 3) := by decide +kernel
theorem dX12_works_284 : decode cX12_works 284 = .ok (.iload_n 2, 1) := by decide +kernel
theorem dX12_works_285 : decode cX12_works 285 = .ok (.iload 7, 2) := by decide +kernel
theorem dX12_works_287 : decode cX12_works 287 = .ok (.bipush 99, 2) := by decide +kernel
theorem dX12_works_289 : decode cX12_works 289 = .ok (.if_icmp .ge 23, 3) := by decide +kernel
theorem dX12_works_292 : decode cX12_works 292 = .ok (.iload 7, 2) := by decide +kernel
theorem dX12_works_294 : decode cX12_works 294 = .ok (.iconst 1, 1) := by decide +kernel
theorem dX12_works_295 : decode cX12_works 295 = .ok (.iadd, 1) := by decide +kernel
theorem dX12_works_296 : decode cX12_works 296 = .ok (.aload_n 0, 1) := by decide +kernel
theorem dX12_works_297 : decode cX12_works 297 = .ok (.getfield 79, 3) := by decide +kernel
theorem dX12_works_300 : decode cX12_works 300 = .ok (.iload_n 2, 1) := by decide +kernel
theorem dX12_works_301 : decode cX12_works 301 = .ok (.iaload, 1) := by decide +kernel
theorem dX12_works_302 : decode cX12_works 302 = .ok (.if_icmp .ge 10, 3) := by decide +kernel
theorem dX12_works_305 : decode cX12_works 305 = .ok (.iload 7, 2) := by decide +kernel
theorem dX12_works_307 : decode cX12_works 307 = .ok (.iconst 1, 1) := by decide +kernel
theorem dX12_works_308 : decode cX12_works 308 = .ok (.iadd, 1) := by decide +kernel
theorem dX12_works_309 : decode cX12_works 309 = .ok (.goto 9, 3) := by decide +kernel
theorem dX12_works_312 : decode cX12_works 312 = .ok (.aload_n 0, 1) := by decide +kernel
theorem dX12_works_313 : decode cX12_works 313 = .ok (.getfield 79, 3) := by decide +kernel
theorem dX12_works_316 : decode cX12_works 316 = .ok (.iload_n 2, 1) := by decide +kernel
theorem dX12_works_317 : decode cX12_works 317 = .ok (.iaload, 1) := by decide +kernel
theorem dX12_works_318 : decode cX12_works 318 = .ok (.iastore, 1) := by decide +kernel
theorem dX12_works_319 : decode cX12_works 319 = .ok (.iinc 4 1, 3) := by decide +kernel
theorem dX12_works_322 : decode cX12_works 322 = .ok (.goto (-253), 3) := by decide +kernel
theorem dX12_works_325 : decode cX12_works 325 = .ok (.iinc 2 1, 3) := by decide +kernel
theorem dX12_works_328 : decode cX12_works 328 = .ok (.goto (-320), 3) := by decide +kernel
theorem dX12_works_331 : decode cX12_works 331 = .ok (.return_, 1) := by decide +kernel
theorem dX12_plays_0 : decode cX12_plays 0 = .ok (.aload_n 0, 1) := by decide +kernel
theorem dX12_plays_1 : decode cX12_plays 1 = .ok (.getfield 347, 3) := by decide +kernel
theorem dX12_plays_4 : decode cX12_plays 4 = .ok (.ifCond .le 8, 3) := by decide +kernel
theorem dX12_plays_7 : decode cX12_plays 7 = .ok (.aload_n 0, 1) := by decide +kernel
theorem dX12_plays_8 : decode cX12_plays 8 = .ok (.invokevirtual 377, 3) := by decide +kernel
theorem dX12_plays_11 : decode cX12_plays 11 = .ok (.ireturn, 1) := by decide +kernel
theorem dX12_plays_12 : decode cX12_plays 12 = .ok (.aload_n 0, 1) := by decide +kernel
theorem dX12_plays_13 : decode cX12_plays 13 = .ok (.invokevirtual 371, 3) := by decide +kernel
theorem dX12_plays_16 : decode cX12_plays 16 = .ok (.istore_n 1, 1) := by decide +kernel
theorem dX12_plays_17 : decode cX12_plays 17 = .ok (.aload_n 0, 1) := by decide +kernel
theorem dX12_plays_18 : decode cX12_plays 18 = .ok (.invokevirtual 383, 3) := by decide +kernel
theorem dX12_plays_21 : decode cX12_plays 21 = .ok (.aload_n 0, 1) := by decide +kernel
theorem dX12_plays_22 : decode cX12_plays 22 = .ok (.getfield 62, 3) := by decide +kernel
theorem dX12_plays_25 : decode cX12_plays 25 = .ok (.iload_n 1, 1) := by decide +kernel
theorem dX12_plays_26 : decode cX12_plays 26 = .ok (.iconst 1, 1) := by decide +kernel
theorem dX12_plays_27 : decode cX12_plays 27 = .ok (.bastore, 1) := by decide +kernel
theorem dX12_plays_28 : decode cX12_plays 28 = .ok (.aload_n 0, 1) := by decide +kernel
theorem dX12_plays_29 : decode cX12_plays 29 = .ok (.iconst (-1), 1) := by decide +kernel
theorem dX12_plays_30 : decode cX12_plays 30 = .ok (.invokevirtual 386, 3) := by decide +kernel
theorem dX12_plays_33 : decode cX12_plays 33 = .ok (.aload_n 0, 1) := by decide +kernel
theorem dX12_plays_34 : decode cX12_plays 34 = .ok (.getfield 66, 3) := by decide +kernel
theorem dX12_plays_37 : decode cX12_plays 37 = .ok (.iload_n 1, 1) := by decide +kernel
theorem dX12_plays_38 : decode cX12_plays 38 = .ok (.iaload, 1) := by decide +kernel
theorem dX12_plays_39 : decode cX12_plays 39 = .ok (.ireturn, 1) := by decide +kernel
theorem dX12_isQuarrel_0 : decode cX12_isQuarrel 0 = .ok (.iload_n 1, 1) := by decide +kernel
theorem dX12_isQuarrel_1 : decode cX12_isQuarrel 1 = .ok (.ifCond .lt 15, 3) := by decide +kernel
theorem dX12_isQuarrel_4 : decode cX12_isQuarrel 4 = .ok (.iload_n 1, 1) := by decide +kernel
theorem dX12_isQuarrel_5 : decode cX12_isQuarrel 5 = .ok (.aload_n 0, 1) := by decide +kernel
theorem dX12_isQuarrel_6 : decode cX12_isQuarrel 6 = .ok (.getfield 389, 3) := by decide +kernel
theorem dX12_isQuarrel_9 : decode cX12_isQuarrel 9 = .ok (.if_icmp .ge 7, 3) := by decide +kernel
theorem dX12_isQuarrel_12 : decode cX12_isQuarrel 12 = .ok (.iconst 1, 1) := by decide +kernel
theorem dX12_isQuarrel_13 : decode cX12_isQuarrel 13 = .ok (.goto 4, 3) := by decide +kernel
theorem dX12_isQuarrel_16 : decode cX12_isQuarrel 16 = .ok (.iconst 0, 1) := by decide +kernel
theorem dX12_isQuarrel_17 : decode cX12_isQuarrel 17 = .ok (.ireturn, 1) := by decide +kernel
theorem dX12_party_0 : decode cX12_party 0 = .ok (.bipush 64, 2) := by decide +kernel
theorem dX12_party_2 : decode cX12_party 2 = .ok (.iload_n 1, 1) := by decide +kernel
theorem dX12_party_3 : decode cX12_party 3 = .ok (.imul, 1) := by decide +kernel
theorem dX12_party_4 : decode cX12_party 4 = .ok (.istore_n 2, 1) := by decide +kernel
theorem dX12_party_5 : decode cX12_party 5 = .ok (.aload_n 0, 1) := by decide +kernel
theorem dX12_party_6 : decode cX12_party 6 = .ok (.aload_n 0, 1) := by decide +kernel
theorem dX12_party_7 : decode cX12_party 7 = .ok (.getfield 82, 3) := by decide +kernel
theorem dX12_party_10 : decode cX12_party 10 = .ok (.iload_n 2, 1) := by decide +kernel
theorem dX12_party_11 : decode cX12_party 11 = .ok (.iaload, 1) := by decide +kernel
theorem dX12_party_12 : decode cX12_party 12 = .ok (.aload_n 0, 1) := by decide +kernel
theorem dX12_party_13 : decode cX12_party 13 = .ok (.getfield 82, 3) := by decide +kernel
theorem dX12_party_16 : decode cX12_party 16 = .ok (.iload_n 2, 1) := by decide +kernel
theorem dX12_party_17 : decode cX12_party 17 = .ok (.iconst 1, 1) := by decide +kernel
theorem dX12_party_18 : decode cX12_party 18 = .ok (.iadd, 1) := by decide +kernel
theorem dX12_party_19 : decode cX12_party 19 = .ok (.iaload, 1) := by decide +kernel
theorem dX12_party_20 : decode cX12_party 20 = .ok (.aload_n 0, 1) := by decide +kernel
theorem dX12_party_21 : decode cX12_party 21 = .ok (.getfield 82, 3) := by decide +kernel
theorem dX12_party_24 : decode cX12_party 24 = .ok (.iload_n 2, 1) := by decide +kernel
theorem dX12_party_25 : decode cX12_party 25 = .ok (.iconst 2, 1) := by decide +kernel
theorem dX12_party_26 : decode cX12_party 26 = .ok (.iadd, 1) := by decide +kernel
theorem dX12_party_27 : decode cX12_party 27 = .ok (.iaload, 1) := by decide +kernel
theorem dX12_party_28 : decode cX12_party 28 = .ok (.aload_n 0, 1) := by decide +kernel
theorem dX12_party_29 : decode cX12_party 29 = .ok (.getfield 82, 3) := by decide +kernel
theorem dX12_party_32 : decode cX12_party 32 = .ok (.iload_n 2, 1) := by decide +kernel
theorem dX12_party_33 : decode cX12_party 33 = .ok (.iconst 3, 1) := by decide +kernel
theorem dX12_party_34 : decode cX12_party 34 = .ok (.iadd, 1) := by decide +kernel
theorem dX12_party_35 : decode cX12_party 35 = .ok (.iaload, 1) := by decide +kernel
theorem dX12_party_36 : decode cX12_party 36 = .ok (.aload_n 0, 1) := by decide +kernel
theorem dX12_party_37 : decode cX12_party 37 = .ok (.getfield 82, 3) := by decide +kernel
theorem dX12_party_40 : decode cX12_party 40 = .ok (.iload_n 2, 1) := by decide +kernel
theorem dX12_party_41 : decode cX12_party 41 = .ok (.iconst 4, 1) := by decide +kernel
theorem dX12_party_42 : decode cX12_party 42 = .ok (.iadd, 1) := by decide +kernel
theorem dX12_party_43 : decode cX12_party 43 = .ok (.iaload, 1) := by decide +kernel
theorem dX12_party_44 : decode cX12_party 44 = .ok (.invokevirtual 392, 3) := by decide +kernel
theorem dX12_party_47 : decode cX12_party 47 = .ok (.return_, 1) := by decide +kernel
theorem dX12_load_0 : decode cX12_load 0 = .ok (.aload_n 0, 1) := by decide +kernel
theorem dX12_load_1 : decode cX12_load 1 = .ok (.iload_n 1, 1) := by decide +kernel
theorem dX12_load_2 : decode cX12_load 2 = .ok (.invokevirtual 396, 3) := by decide +kernel
theorem dX12_load_5 : decode cX12_load 5 = .ok (.bipush 64, 2) := by decide +kernel
theorem dX12_load_7 : decode cX12_load 7 = .ok (.iload_n 1, 1) := by decide +kernel
theorem dX12_load_8 : decode cX12_load 8 = .ok (.imul, 1) := by decide +kernel
theorem dX12_load_9 : decode cX12_load 9 = .ok (.bipush 17, 2) := by decide +kernel
theorem dX12_load_11 : decode cX12_load 11 = .ok (.iadd, 1) := by decide +kernel
theorem dX12_load_12 : decode cX12_load 12 = .ok (.iconst 5, 1) := by decide +kernel
theorem dX12_load_13 : decode cX12_load 13 = .ok (.iload_n 2, 1) := by decide +kernel
theorem dX12_load_14 : decode cX12_load 14 = .ok (.imul, 1) := by decide +kernel
theorem dX12_load_15 : decode cX12_load 15 = .ok (.iadd, 1) := by decide +kernel
theorem dX12_load_16 : decode cX12_load 16 = .ok (.istore_n 3, 1) := by decide +kernel
theorem dX12_load_17 : decode cX12_load 17 = .ok (.aload_n 0, 1) := by decide +kernel
theorem dX12_load_18 : decode cX12_load 18 = .ok (.getfield 59, 3) := by decide +kernel
theorem dX12_load_21 : decode cX12_load 21 = .ok (.iconst 0, 1) := by decide +kernel
theorem dX12_load_22 : decode cX12_load 22 = .ok (.aload_n 0, 1) := by decide +kernel
theorem dX12_load_23 : decode cX12_load 23 = .ok (.getfield 82, 3) := by decide +kernel
theorem dX12_load_26 : decode cX12_load 26 = .ok (.iload_n 3, 1) := by decide +kernel
theorem dX12_load_27 : decode cX12_load 27 = .ok (.iaload, 1) := by decide +kernel
theorem dX12_load_28 : decode cX12_load 28 = .ok (.iastore, 1) := by decide +kernel
theorem dX12_load_29 : decode cX12_load 29 = .ok (.aload_n 0, 1) := by decide +kernel
theorem dX12_load_30 : decode cX12_load 30 = .ok (.getfield 59, 3) := by decide +kernel
theorem dX12_load_33 : decode cX12_load 33 = .ok (.iconst 1, 1) := by decide +kernel
theorem dX12_load_34 : decode cX12_load 34 = .ok (.aload_n 0, 1) := by decide +kernel
theorem dX12_load_35 : decode cX12_load 35 = .ok (.getfield 82, 3) := by decide +kernel
theorem dX12_load_38 : decode cX12_load 38 = .ok (.iload_n 3, 1) := by decide +kernel
theorem dX12_load_39 : decode cX12_load 39 = .ok (.iconst 1, 1) := by decide +kernel
theorem dX12_load_40 : decode cX12_load 40 = .ok (.iadd, 1) := by decide +kernel
theorem dX12_load_41 : decode cX12_load 41 = .ok (.iaload, 1) := by decide +kernel
theorem dX12_load_42 : decode cX12_load 42 = .ok (.iastore, 1) := by decide +kernel
theorem dX12_load_43 : decode cX12_load 43 = .ok (.aload_n 0, 1) := by decide +kernel
theorem dX12_load_44 : decode cX12_load 44 = .ok (.aload_n 0, 1) := by decide +kernel
theorem dX12_load_45 : decode cX12_load 45 = .ok (.getfield 82, 3) := by decide +kernel
theorem dX12_load_48 : decode cX12_load 48 = .ok (.iload_n 3, 1) := by decide +kernel
theorem dX12_load_49 : decode cX12_load 49 = .ok (.iconst 2, 1) := by decide +kernel
theorem dX12_load_50 : decode cX12_load 50 = .ok (.iadd, 1) := by decide +kernel
theorem dX12_load_51 : decode cX12_load 51 = .ok (.iaload, 1) := by decide +kernel
theorem dX12_load_52 : decode cX12_load 52 = .ok (.putfield 338, 3) := by decide +kernel
theorem dX12_load_55 : decode cX12_load 55 = .ok (.aload_n 0, 1) := by decide +kernel
theorem dX12_load_56 : decode cX12_load 56 = .ok (.aload_n 0, 1) := by decide +kernel
theorem dX12_load_57 : decode cX12_load 57 = .ok (.getfield 82, 3) := by decide +kernel
theorem dX12_load_60 : decode cX12_load 60 = .ok (.iload_n 3, 1) := by decide +kernel
theorem dX12_load_61 : decode cX12_load 61 = .ok (.iconst 3, 1) := by decide +kernel
theorem dX12_load_62 : decode cX12_load 62 = .ok (.iadd, 1) := by decide +kernel
theorem dX12_load_63 : decode cX12_load 63 = .ok (.iaload, 1) := by decide +kernel
theorem dX12_load_64 : decode cX12_load 64 = .ok (.putfield 344, 3) := by decide +kernel
theorem dX12_load_67 : decode cX12_load 67 = .ok (.aload_n 0, 1) := by decide +kernel
theorem dX12_load_68 : decode cX12_load 68 = .ok (.aload_n 0, 1) := by decide +kernel
theorem dX12_load_69 : decode cX12_load 69 = .ok (.getfield 82, 3) := by decide +kernel
theorem dX12_load_72 : decode cX12_load 72 = .ok (.iload_n 3, 1) := by decide +kernel
theorem dX12_load_73 : decode cX12_load 73 = .ok (.iconst 4, 1) := by decide +kernel
theorem dX12_load_74 : decode cX12_load 74 = .ok (.iadd, 1) := by decide +kernel
theorem dX12_load_75 : decode cX12_load 75 = .ok (.iaload, 1) := by decide +kernel
theorem dX12_load_76 : decode cX12_load 76 = .ok (.putfield 341, 3) := by decide +kernel
theorem dX12_load_79 : decode cX12_load 79 = .ok (.iload_n 2, 1) := by decide +kernel
theorem dX12_load_80 : decode cX12_load 80 = .ok (.aload_n 0, 1) := by decide +kernel
theorem dX12_load_81 : decode cX12_load 81 = .ok (.getfield 82, 3) := by decide +kernel
theorem dX12_load_84 : decode cX12_load 84 = .ok (.bipush 64, 2) := by decide +kernel
theorem dX12_load_86 : decode cX12_load 86 = .ok (.iload_n 1, 1) := by decide +kernel
theorem dX12_load_87 : decode cX12_load 87 = .ok (.imul, 1) := by decide +kernel
theorem dX12_load_88 : decode cX12_load 88 = .ok (.iconst 5, 1) := by decide +kernel
theorem dX12_load_89 : decode cX12_load 89 = .ok (.iadd, 1) := by decide +kernel
theorem dX12_load_90 : decode cX12_load 90 = .ok (.iaload, 1) := by decide +kernel
theorem dX12_load_91 : decode cX12_load 91 = .ok (.iconst 1, 1) := by decide +kernel
theorem dX12_load_92 : decode cX12_load 92 = .ok (.isub, 1) := by decide +kernel
theorem dX12_load_93 : decode cX12_load 93 = .ok (.if_icmp .ne 7, 3) := by decide +kernel
theorem dX12_load_96 : decode cX12_load 96 = .ok (.iconst 1, 1) := by decide +kernel
theorem dX12_load_97 : decode cX12_load 97 = .ok (.goto 4, 3) := by decide +kernel
theorem dX12_load_100 : decode cX12_load 100 = .ok (.iconst 0, 1) := by decide +kernel
theorem dX12_load_101 : decode cX12_load 101 = .ok (.istore 4, 2) := by decide +kernel
theorem dX12_load_103 : decode cX12_load 103 = .ok (.aload_n 0, 1) := by decide +kernel
theorem dX12_load_104 : decode cX12_load 104 = .ok (.iload 4, 2) := by decide +kernel
theorem dX12_load_106 : decode cX12_load 106 = .ok (.ifCond .eq 18, 3) := by decide +kernel
theorem dX12_load_109 : decode cX12_load 109 = .ok (.aload_n 0, 1) := by decide +kernel
theorem dX12_load_110 : decode cX12_load 110 = .ok (.getfield 82, 3) := by decide +kernel
theorem dX12_load_113 : decode cX12_load 113 = .ok (.bipush 64, 2) := by decide +kernel
theorem dX12_load_115 : decode cX12_load 115 = .ok (.iload_n 1, 1) := by decide +kernel
theorem dX12_load_116 : decode cX12_load 116 = .ok (.imul, 1) := by decide +kernel
theorem dX12_load_117 : decode cX12_load 117 = .ok (.bipush 6, 2) := by decide +kernel
theorem dX12_load_119 : decode cX12_load 119 = .ok (.iadd, 1) := by decide +kernel
theorem dX12_load_120 : decode cX12_load 120 = .ok (.iaload, 1) := by decide +kernel
theorem dX12_load_121 : decode cX12_load 121 = .ok (.goto 4, 3) := by decide +kernel
theorem dX12_load_124 : decode cX12_load 124 = .ok (.iconst 0, 1) := by decide +kernel
theorem dX12_load_125 : decode cX12_load 125 = .ok (.putfield 347, 3) := by decide +kernel
theorem dX12_load_128 : decode cX12_load 128 = .ok (.aload_n 0, 1) := by decide +kernel
theorem dX12_load_129 : decode cX12_load 129 = .ok (.iload 4, 2) := by decide +kernel
theorem dX12_load_131 : decode cX12_load 131 = .ok (.ifCond .eq 18, 3) := by decide +kernel
theorem dX12_load_134 : decode cX12_load 134 = .ok (.aload_n 0, 1) := by decide +kernel
theorem dX12_load_135 : decode cX12_load 135 = .ok (.getfield 82, 3) := by decide +kernel
theorem dX12_load_138 : decode cX12_load 138 = .ok (.bipush 64, 2) := by decide +kernel
theorem dX12_load_140 : decode cX12_load 140 = .ok (.iload_n 1, 1) := by decide +kernel
theorem dX12_load_141 : decode cX12_load 141 = .ok (.imul, 1) := by decide +kernel
theorem dX12_load_142 : decode cX12_load 142 = .ok (.bipush 7, 2) := by decide +kernel
theorem dX12_load_144 : decode cX12_load 144 = .ok (.iadd, 1) := by decide +kernel
theorem dX12_load_145 : decode cX12_load 145 = .ok (.iaload, 1) := by decide +kernel
theorem dX12_load_146 : decode cX12_load 146 = .ok (.goto 4, 3) := by decide +kernel
theorem dX12_load_149 : decode cX12_load 149 = .ok (.iconst 0, 1) := by decide +kernel
theorem dX12_load_150 : decode cX12_load 150 = .ok (.putfield 350, 3) := by decide +kernel
theorem dX12_load_153 : decode cX12_load 153 = .ok (.return_, 1) := by decide +kernel
theorem dX12_loadLast_0 : decode cX12_loadLast 0 = .ok (.aload_n 0, 1) := by decide +kernel
theorem dX12_loadLast_1 : decode cX12_loadLast 1 = .ok (.iload_n 1, 1) := by decide +kernel
theorem dX12_loadLast_2 : decode cX12_loadLast 2 = .ok (.aload_n 0, 1) := by decide +kernel
theorem dX12_loadLast_3 : decode cX12_loadLast 3 = .ok (.getfield 82, 3) := by decide +kernel
theorem dX12_loadLast_6 : decode cX12_loadLast 6 = .ok (.bipush 64, 2) := by decide +kernel
theorem dX12_loadLast_8 : decode cX12_loadLast 8 = .ok (.iload_n 1, 1) := by decide +kernel
theorem dX12_loadLast_9 : decode cX12_loadLast 9 = .ok (.imul, 1) := by decide +kernel
theorem dX12_loadLast_10 : decode cX12_loadLast 10 = .ok (.iconst 5, 1) := by decide +kernel
theorem dX12_loadLast_11 : decode cX12_loadLast 11 = .ok (.iadd, 1) := by decide +kernel
theorem dX12_loadLast_12 : decode cX12_loadLast 12 = .ok (.iaload, 1) := by decide +kernel
theorem dX12_loadLast_13 : decode cX12_loadLast 13 = .ok (.iconst 1, 1) := by decide +kernel
theorem dX12_loadLast_14 : decode cX12_loadLast 14 = .ok (.isub, 1) := by decide +kernel
theorem dX12_loadLast_15 : decode cX12_loadLast 15 = .ok (.invokevirtual 399, 3) := by decide +kernel
theorem dX12_loadLast_18 : decode cX12_loadLast 18 = .ok (.return_, 1) := by decide +kernel
theorem dX12_writes_0 : decode cX12_writes 0 = .ok (.aload_n 0, 1) := by decide +kernel
theorem dX12_writes_1 : decode cX12_writes 1 = .ok (.getfield 82, 3) := by decide +kernel
theorem dX12_writes_4 : decode cX12_writes 4 = .ok (.bipush 64, 2) := by decide +kernel
theorem dX12_writes_6 : decode cX12_writes 6 = .ok (.iload_n 1, 1) := by decide +kernel
theorem dX12_writes_7 : decode cX12_writes 7 = .ok (.imul, 1) := by decide +kernel
theorem dX12_writes_8 : decode cX12_writes 8 = .ok (.iconst 5, 1) := by decide +kernel
theorem dX12_writes_9 : decode cX12_writes 9 = .ok (.iadd, 1) := by decide +kernel
theorem dX12_writes_10 : decode cX12_writes 10 = .ok (.iaload, 1) := by decide +kernel
theorem dX12_writes_11 : decode cX12_writes 11 = .ok (.istore_n 3, 1) := by decide +kernel
theorem dX12_writes_12 : decode cX12_writes 12 = .ok (.bipush 64, 2) := by decide +kernel
theorem dX12_writes_14 : decode cX12_writes 14 = .ok (.iload_n 1, 1) := by decide +kernel
theorem dX12_writes_15 : decode cX12_writes 15 = .ok (.imul, 1) := by decide +kernel
theorem dX12_writes_16 : decode cX12_writes 16 = .ok (.bipush 17, 2) := by decide +kernel
theorem dX12_writes_18 : decode cX12_writes 18 = .ok (.iadd, 1) := by decide +kernel
theorem dX12_writes_19 : decode cX12_writes 19 = .ok (.iconst 5, 1) := by decide +kernel
theorem dX12_writes_20 : decode cX12_writes 20 = .ok (.iload_n 3, 1) := by decide +kernel
theorem dX12_writes_21 : decode cX12_writes 21 = .ok (.imul, 1) := by decide +kernel
theorem dX12_writes_22 : decode cX12_writes 22 = .ok (.iadd, 1) := by decide +kernel
theorem dX12_writes_23 : decode cX12_writes 23 = .ok (.istore 4, 2) := by decide +kernel
theorem dX12_writes_25 : decode cX12_writes 25 = .ok (.aload_n 0, 1) := by decide +kernel
theorem dX12_writes_26 : decode cX12_writes 26 = .ok (.getfield 82, 3) := by decide +kernel
theorem dX12_writes_29 : decode cX12_writes 29 = .ok (.bipush 64, 2) := by decide +kernel
theorem dX12_writes_31 : decode cX12_writes 31 = .ok (.iload_n 1, 1) := by decide +kernel
theorem dX12_writes_32 : decode cX12_writes 32 = .ok (.imul, 1) := by decide +kernel
theorem dX12_writes_33 : decode cX12_writes 33 = .ok (.bipush 8, 2) := by decide +kernel
theorem dX12_writes_35 : decode cX12_writes 35 = .ok (.iadd, 1) := by decide +kernel
theorem dX12_writes_36 : decode cX12_writes 36 = .ok (.iload_n 3, 1) := by decide +kernel
theorem dX12_writes_37 : decode cX12_writes 37 = .ok (.iadd, 1) := by decide +kernel
theorem dX12_writes_38 : decode cX12_writes 38 = .ok (.iload_n 2, 1) := by decide +kernel
theorem dX12_writes_39 : decode cX12_writes 39 = .ok (.iastore, 1) := by decide +kernel
theorem dX12_writes_40 : decode cX12_writes 40 = .ok (.aload_n 0, 1) := by decide +kernel
theorem dX12_writes_41 : decode cX12_writes 41 = .ok (.getfield 82, 3) := by decide +kernel
theorem dX12_writes_44 : decode cX12_writes 44 = .ok (.iload 4, 2) := by decide +kernel
theorem dX12_writes_46 : decode cX12_writes 46 = .ok (.aload_n 0, 1) := by decide +kernel
theorem dX12_writes_47 : decode cX12_writes 47 = .ok (.getfield 59, 3) := by decide +kernel
theorem dX12_writes_50 : decode cX12_writes 50 = .ok (.iconst 0, 1) := by decide +kernel
theorem dX12_writes_51 : decode cX12_writes 51 = .ok (.iaload, 1) := by decide +kernel
theorem dX12_writes_52 : decode cX12_writes 52 = .ok (.iastore, 1) := by decide +kernel
theorem dX12_writes_53 : decode cX12_writes 53 = .ok (.aload_n 0, 1) := by decide +kernel
theorem dX12_writes_54 : decode cX12_writes 54 = .ok (.getfield 82, 3) := by decide +kernel
theorem dX12_writes_57 : decode cX12_writes 57 = .ok (.iload 4, 2) := by decide +kernel
theorem dX12_writes_59 : decode cX12_writes 59 = .ok (.iconst 1, 1) := by decide +kernel
theorem dX12_writes_60 : decode cX12_writes 60 = .ok (.iadd, 1) := by decide +kernel
theorem dX12_writes_61 : decode cX12_writes 61 = .ok (.aload_n 0, 1) := by decide +kernel
theorem dX12_writes_62 : decode cX12_writes 62 = .ok (.getfield 59, 3) := by decide +kernel
theorem dX12_writes_65 : decode cX12_writes 65 = .ok (.iconst 1, 1) := by decide +kernel
theorem dX12_writes_66 : decode cX12_writes 66 = .ok (.iaload, 1) := by decide +kernel
theorem dX12_writes_67 : decode cX12_writes 67 = .ok (.iastore, 1) := by decide +kernel
theorem dX12_writes_68 : decode cX12_writes 68 = .ok (.aload_n 0, 1) := by decide +kernel
theorem dX12_writes_69 : decode cX12_writes 69 = .ok (.getfield 82, 3) := by decide +kernel
theorem dX12_writes_72 : decode cX12_writes 72 = .ok (.iload 4, 2) := by decide +kernel
theorem dX12_writes_74 : decode cX12_writes 74 = .ok (.iconst 2, 1) := by decide +kernel
theorem dX12_writes_75 : decode cX12_writes 75 = .ok (.iadd, 1) := by decide +kernel
theorem dX12_writes_76 : decode cX12_writes 76 = .ok (.aload_n 0, 1) := by decide +kernel
theorem dX12_writes_77 : decode cX12_writes 77 = .ok (.getfield 338, 3) := by decide +kernel
theorem dX12_writes_80 : decode cX12_writes 80 = .ok (.iastore, 1) := by decide +kernel
theorem dX12_writes_81 : decode cX12_writes 81 = .ok (.aload_n 0, 1) := by decide +kernel
theorem dX12_writes_82 : decode cX12_writes 82 = .ok (.getfield 82, 3) := by decide +kernel
theorem dX12_writes_85 : decode cX12_writes 85 = .ok (.iload 4, 2) := by decide +kernel
theorem dX12_writes_87 : decode cX12_writes 87 = .ok (.iconst 3, 1) := by decide +kernel
theorem dX12_writes_88 : decode cX12_writes 88 = .ok (.iadd, 1) := by decide +kernel
theorem dX12_writes_89 : decode cX12_writes 89 = .ok (.aload_n 0, 1) := by decide +kernel
theorem dX12_writes_90 : decode cX12_writes 90 = .ok (.getfield 344, 3) := by decide +kernel
theorem dX12_writes_93 : decode cX12_writes 93 = .ok (.iastore, 1) := by decide +kernel
theorem dX12_writes_94 : decode cX12_writes 94 = .ok (.aload_n 0, 1) := by decide +kernel
theorem dX12_writes_95 : decode cX12_writes 95 = .ok (.getfield 82, 3) := by decide +kernel
theorem dX12_writes_98 : decode cX12_writes 98 = .ok (.iload 4, 2) := by decide +kernel
theorem dX12_writes_100 : decode cX12_writes 100 = .ok (.iconst 4, 1) := by decide +kernel
theorem dX12_writes_101 : decode cX12_writes 101 = .ok (.iadd, 1) := by decide +kernel
theorem dX12_writes_102 : decode cX12_writes 102 = .ok (.aload_n 0, 1) := by decide +kernel
theorem dX12_writes_103 : decode cX12_writes 103 = .ok (.getfield 341, 3) := by decide +kernel
theorem dX12_writes_106 : decode cX12_writes 106 = .ok (.iastore, 1) := by decide +kernel
theorem dX12_writes_107 : decode cX12_writes 107 = .ok (.aload_n 0, 1) := by decide +kernel
theorem dX12_writes_108 : decode cX12_writes 108 = .ok (.getfield 82, 3) := by decide +kernel
theorem dX12_writes_111 : decode cX12_writes 111 = .ok (.bipush 64, 2) := by decide +kernel
theorem dX12_writes_113 : decode cX12_writes 113 = .ok (.iload_n 1, 1) := by decide +kernel
theorem dX12_writes_114 : decode cX12_writes 114 = .ok (.imul, 1) := by decide +kernel
theorem dX12_writes_115 : decode cX12_writes 115 = .ok (.iconst 5, 1) := by decide +kernel
theorem dX12_writes_116 : decode cX12_writes 116 = .ok (.iadd, 1) := by decide +kernel
theorem dX12_writes_117 : decode cX12_writes 117 = .ok (.iload_n 3, 1) := by decide +kernel
theorem dX12_writes_118 : decode cX12_writes 118 = .ok (.iconst 1, 1) := by decide +kernel
theorem dX12_writes_119 : decode cX12_writes 119 = .ok (.iadd, 1) := by decide +kernel
theorem dX12_writes_120 : decode cX12_writes 120 = .ok (.iastore, 1) := by decide +kernel
theorem dX12_writes_121 : decode cX12_writes 121 = .ok (.aload_n 0, 1) := by decide +kernel
theorem dX12_writes_122 : decode cX12_writes 122 = .ok (.getfield 82, 3) := by decide +kernel
theorem dX12_writes_125 : decode cX12_writes 125 = .ok (.bipush 64, 2) := by decide +kernel
theorem dX12_writes_127 : decode cX12_writes 127 = .ok (.iload_n 1, 1) := by decide +kernel
theorem dX12_writes_128 : decode cX12_writes 128 = .ok (.imul, 1) := by decide +kernel
theorem dX12_writes_129 : decode cX12_writes 129 = .ok (.bipush 6, 2) := by decide +kernel
theorem dX12_writes_131 : decode cX12_writes 131 = .ok (.iadd, 1) := by decide +kernel
theorem dX12_writes_132 : decode cX12_writes 132 = .ok (.aload_n 0, 1) := by decide +kernel
theorem dX12_writes_133 : decode cX12_writes 133 = .ok (.getfield 347, 3) := by decide +kernel
theorem dX12_writes_136 : decode cX12_writes 136 = .ok (.iastore, 1) := by decide +kernel
theorem dX12_writes_137 : decode cX12_writes 137 = .ok (.aload_n 0, 1) := by decide +kernel
theorem dX12_writes_138 : decode cX12_writes 138 = .ok (.getfield 82, 3) := by decide +kernel
theorem dX12_writes_141 : decode cX12_writes 141 = .ok (.bipush 64, 2) := by decide +kernel
theorem dX12_writes_143 : decode cX12_writes 143 = .ok (.iload_n 1, 1) := by decide +kernel
theorem dX12_writes_144 : decode cX12_writes 144 = .ok (.imul, 1) := by decide +kernel
theorem dX12_writes_145 : decode cX12_writes 145 = .ok (.bipush 7, 2) := by decide +kernel
theorem dX12_writes_147 : decode cX12_writes 147 = .ok (.iadd, 1) := by decide +kernel
theorem dX12_writes_148 : decode cX12_writes 148 = .ok (.aload_n 0, 1) := by decide +kernel
theorem dX12_writes_149 : decode cX12_writes 149 = .ok (.getfield 350, 3) := by decide +kernel
theorem dX12_writes_152 : decode cX12_writes 152 = .ok (.iastore, 1) := by decide +kernel
theorem dX12_writes_153 : decode cX12_writes 153 = .ok (.return_, 1) := by decide +kernel
theorem dX12_quarrel_0 : decode cX12_quarrel 0 = .ok (.aload_n 0, 1) := by decide +kernel
theorem dX12_quarrel_1 : decode cX12_quarrel 1 = .ok (.getfield 389, 3) := by decide +kernel
theorem dX12_quarrel_4 : decode cX12_quarrel 4 = .ok (.bipush 24, 2) := by decide +kernel
theorem dX12_quarrel_6 : decode cX12_quarrel 6 = .ok (.if_icmp .eq 63, 3) := by decide +kernel
theorem dX12_quarrel_9 : decode cX12_quarrel 9 = .ok (.aload_n 0, 1) := by decide +kernel
theorem dX12_quarrel_10 : decode cX12_quarrel 10 = .ok (.iload_n 1, 1) := by decide +kernel
theorem dX12_quarrel_11 : decode cX12_quarrel 11 = .ok (.iload_n 2, 1) := by decide +kernel
theorem dX12_quarrel_12 : decode cX12_quarrel 12 = .ok (.invokevirtual 107, 3) := by decide +kernel
theorem dX12_quarrel_15 : decode cX12_quarrel 15 = .ok (.ifCond .eq 54, 3) := by decide +kernel
theorem dX12_quarrel_18 : decode cX12_quarrel 18 = .ok (.iload_n 3, 1) := by decide +kernel
theorem dX12_quarrel_19 : decode cX12_quarrel 19 = .ok (.i2l, 1) := by decide +kernel
theorem dX12_quarrel_20 : decode cX12_quarrel 20 = .ok (.lconst 0, 1) := by decide +kernel
theorem dX12_quarrel_21 : decode cX12_quarrel 21 = .ok (.ldc2_w 101, 3) := by decide +kernel
theorem dX12_quarrel_24 : decode cX12_quarrel 24 = .ok (.invokestatic 97, 3) := by decide +kernel
theorem dX12_quarrel_27 : decode cX12_quarrel 27 = .ok (.ifCond .eq 42, 3) := by decide +kernel
theorem dX12_quarrel_30 : decode cX12_quarrel 30 = .ok (.iload 4, 2) := by decide +kernel
theorem dX12_quarrel_32 : decode cX12_quarrel 32 = .ok (.i2l, 1) := by decide +kernel
theorem dX12_quarrel_33 : decode cX12_quarrel 33 = .ok (.lconst 0, 1) := by decide +kernel
theorem dX12_quarrel_34 : decode cX12_quarrel 34 = .ok (.ldc2_w 289, 3) := by decide +kernel
theorem dX12_quarrel_37 : decode cX12_quarrel 37 = .ok (.invokestatic 97, 3) := by decide +kernel
theorem dX12_quarrel_40 : decode cX12_quarrel 40 = .ok (.ifCond .eq 29, 3) := by decide +kernel
theorem dX12_quarrel_43 : decode cX12_quarrel 43 = .ok (.aload_n 0, 1) := by decide +kernel
theorem dX12_quarrel_44 : decode cX12_quarrel 44 = .ok (.getfield 7, 3) := by decide +kernel
theorem dX12_quarrel_47 : decode cX12_quarrel 47 = .ok (.iconst 4, 1) := by decide +kernel
theorem dX12_quarrel_48 : decode cX12_quarrel 48 = .ok (.iload_n 1, 1) := by decide +kernel
theorem dX12_quarrel_49 : decode cX12_quarrel 49 = .ok (.imul, 1) := by decide +kernel
theorem dX12_quarrel_50 : decode cX12_quarrel 50 = .ok (.iconst 3, 1) := by decide +kernel
theorem dX12_quarrel_51 : decode cX12_quarrel 51 = .ok (.iadd, 1) := by decide +kernel
theorem dX12_quarrel_52 : decode cX12_quarrel 52 = .ok (.iaload, 1) := by decide +kernel
theorem dX12_quarrel_53 : decode cX12_quarrel 53 = .ok (.ifCond .lt 16, 3) := by decide +kernel
theorem dX12_quarrel_56 : decode cX12_quarrel 56 = .ok (.aload_n 0, 1) := by decide +kernel
theorem dX12_quarrel_57 : decode cX12_quarrel 57 = .ok (.getfield 7, 3) := by decide +kernel
theorem dX12_quarrel_60 : decode cX12_quarrel 60 = .ok (.iconst 4, 1) := by decide +kernel
theorem dX12_quarrel_61 : decode cX12_quarrel 61 = .ok (.iload_n 2, 1) := by decide +kernel
theorem dX12_quarrel_62 : decode cX12_quarrel 62 = .ok (.imul, 1) := by decide +kernel
theorem dX12_quarrel_63 : decode cX12_quarrel 63 = .ok (.iconst 3, 1) := by decide +kernel
theorem dX12_quarrel_64 : decode cX12_quarrel 64 = .ok (.iadd, 1) := by decide +kernel
theorem dX12_quarrel_65 : decode cX12_quarrel 65 = .ok (.iaload, 1) := by decide +kernel
theorem dX12_quarrel_66 : decode cX12_quarrel 66 = .ok (.ifCond .ge 5, 3) := by decide +kernel
theorem dX12_quarrel_69 : decode cX12_quarrel 69 = .ok (.iconst (-1), 1) := by decide +kernel
theorem dX12_quarrel_70 : decode cX12_quarrel 70 = .ok (.ireturn, 1) := by decide +kernel
theorem dX12_quarrel_71 : decode cX12_quarrel 71 = .ok (.bipush 64, 2) := by decide +kernel
theorem dX12_quarrel_73 : decode cX12_quarrel 73 = .ok (.aload_n 0, 1) := by decide +kernel
theorem dX12_quarrel_74 : decode cX12_quarrel 74 = .ok (.getfield 389, 3) := by decide +kernel
theorem dX12_quarrel_77 : decode cX12_quarrel 77 = .ok (.imul, 1) := by decide +kernel
theorem dX12_quarrel_78 : decode cX12_quarrel 78 = .ok (.istore 5, 2) := by decide +kernel
theorem dX12_quarrel_80 : decode cX12_quarrel 80 = .ok (.aload_n 0, 1) := by decide +kernel
theorem dX12_quarrel_81 : decode cX12_quarrel 81 = .ok (.getfield 82, 3) := by decide +kernel
theorem dX12_quarrel_84 : decode cX12_quarrel 84 = .ok (.iload 5, 2) := by decide +kernel
theorem dX12_quarrel_86 : decode cX12_quarrel 86 = .ok (.iload_n 1, 1) := by decide +kernel
theorem dX12_quarrel_87 : decode cX12_quarrel 87 = .ok (.iastore, 1) := by decide +kernel
theorem dX12_quarrel_88 : decode cX12_quarrel 88 = .ok (.aload_n 0, 1) := by decide +kernel
theorem dX12_quarrel_89 : decode cX12_quarrel 89 = .ok (.getfield 82, 3) := by decide +kernel
theorem dX12_quarrel_92 : decode cX12_quarrel 92 = .ok (.iload 5, 2) := by decide +kernel
theorem dX12_quarrel_94 : decode cX12_quarrel 94 = .ok (.iconst 1, 1) := by decide +kernel
theorem dX12_quarrel_95 : decode cX12_quarrel 95 = .ok (.iadd, 1) := by decide +kernel
theorem dX12_quarrel_96 : decode cX12_quarrel 96 = .ok (.iload_n 2, 1) := by decide +kernel
theorem dX12_quarrel_97 : decode cX12_quarrel 97 = .ok (.iastore, 1) := by decide +kernel
theorem dX12_quarrel_98 : decode cX12_quarrel 98 = .ok (.aload_n 0, 1) := by decide +kernel
theorem dX12_quarrel_99 : decode cX12_quarrel 99 = .ok (.getfield 82, 3) := by decide +kernel
theorem dX12_quarrel_102 : decode cX12_quarrel 102 = .ok (.iload 5, 2) := by decide +kernel
theorem dX12_quarrel_104 : decode cX12_quarrel 104 = .ok (.iconst 2, 1) := by decide +kernel
theorem dX12_quarrel_105 : decode cX12_quarrel 105 = .ok (.iadd, 1) := by decide +kernel
theorem dX12_quarrel_106 : decode cX12_quarrel 106 = .ok (.iload_n 3, 1) := by decide +kernel
theorem dX12_quarrel_107 : decode cX12_quarrel 107 = .ok (.iastore, 1) := by decide +kernel
theorem dX12_quarrel_108 : decode cX12_quarrel 108 = .ok (.aload_n 0, 1) := by decide +kernel
theorem dX12_quarrel_109 : decode cX12_quarrel 109 = .ok (.getfield 82, 3) := by decide +kernel
theorem dX12_quarrel_112 : decode cX12_quarrel 112 = .ok (.iload 5, 2) := by decide +kernel
theorem dX12_quarrel_114 : decode cX12_quarrel 114 = .ok (.iconst 3, 1) := by decide +kernel
theorem dX12_quarrel_115 : decode cX12_quarrel 115 = .ok (.iadd, 1) := by decide +kernel
theorem dX12_quarrel_116 : decode cX12_quarrel 116 = .ok (.aload_n 0, 1) := by decide +kernel
theorem dX12_quarrel_117 : decode cX12_quarrel 117 = .ok (.getfield 7, 3) := by decide +kernel
theorem dX12_quarrel_120 : decode cX12_quarrel 120 = .ok (.iconst 4, 1) := by decide +kernel
theorem dX12_quarrel_121 : decode cX12_quarrel 121 = .ok (.iload_n 1, 1) := by decide +kernel
theorem dX12_quarrel_122 : decode cX12_quarrel 122 = .ok (.imul, 1) := by decide +kernel
theorem dX12_quarrel_123 : decode cX12_quarrel 123 = .ok (.iconst 3, 1) := by decide +kernel
theorem dX12_quarrel_124 : decode cX12_quarrel 124 = .ok (.iadd, 1) := by decide +kernel
theorem dX12_quarrel_125 : decode cX12_quarrel 125 = .ok (.iaload, 1) := by decide +kernel
theorem dX12_quarrel_126 : decode cX12_quarrel 126 = .ok (.iastore, 1) := by decide +kernel
theorem dX12_quarrel_127 : decode cX12_quarrel 127 = .ok (.aload_n 0, 1) := by decide +kernel
theorem dX12_quarrel_128 : decode cX12_quarrel 128 = .ok (.getfield 82, 3) := by decide +kernel
theorem dX12_quarrel_131 : decode cX12_quarrel 131 = .ok (.iload 5, 2) := by decide +kernel
theorem dX12_quarrel_133 : decode cX12_quarrel 133 = .ok (.iconst 4, 1) := by decide +kernel
theorem dX12_quarrel_134 : decode cX12_quarrel 134 = .ok (.iadd, 1) := by decide +kernel
theorem dX12_quarrel_135 : decode cX12_quarrel 135 = .ok (.aload_n 0, 1) := by decide +kernel
theorem dX12_quarrel_136 : decode cX12_quarrel 136 = .ok (.getfield 7, 3) := by decide +kernel
theorem dX12_quarrel_139 : decode cX12_quarrel 139 = .ok (.iconst 4, 1) := by decide +kernel
theorem dX12_quarrel_140 : decode cX12_quarrel 140 = .ok (.iload_n 2, 1) := by decide +kernel
theorem dX12_quarrel_141 : decode cX12_quarrel 141 = .ok (.imul, 1) := by decide +kernel
theorem dX12_quarrel_142 : decode cX12_quarrel 142 = .ok (.iconst 3, 1) := by decide +kernel
theorem dX12_quarrel_143 : decode cX12_quarrel 143 = .ok (.iadd, 1) := by decide +kernel
theorem dX12_quarrel_144 : decode cX12_quarrel 144 = .ok (.iaload, 1) := by decide +kernel
theorem dX12_quarrel_145 : decode cX12_quarrel 145 = .ok (.iastore, 1) := by decide +kernel
theorem dX12_quarrel_146 : decode cX12_quarrel 146 = .ok (.aload_n 0, 1) := by decide +kernel
theorem dX12_quarrel_147 : decode cX12_quarrel 147 = .ok (.getfield 82, 3) := by decide +kernel
theorem dX12_quarrel_150 : decode cX12_quarrel 150 = .ok (.iload 5, 2) := by decide +kernel
theorem dX12_quarrel_152 : decode cX12_quarrel 152 = .ok (.iconst 5, 1) := by decide +kernel
theorem dX12_quarrel_153 : decode cX12_quarrel 153 = .ok (.iadd, 1) := by decide +kernel
theorem dX12_quarrel_154 : decode cX12_quarrel 154 = .ok (.iconst 0, 1) := by decide +kernel
theorem dX12_quarrel_155 : decode cX12_quarrel 155 = .ok (.iastore, 1) := by decide +kernel
theorem dX12_quarrel_156 : decode cX12_quarrel 156 = .ok (.aload_n 0, 1) := by decide +kernel
theorem dX12_quarrel_157 : decode cX12_quarrel 157 = .ok (.aload_n 0, 1) := by decide +kernel
theorem dX12_quarrel_158 : decode cX12_quarrel 158 = .ok (.getfield 389, 3) := by decide +kernel
theorem dX12_quarrel_161 : decode cX12_quarrel 161 = .ok (.invokevirtual 396, 3) := by decide +kernel
theorem dX12_quarrel_164 : decode cX12_quarrel 164 = .ok (.aload_n 0, 1) := by decide +kernel
theorem dX12_quarrel_165 : decode cX12_quarrel 165 = .ok (.iload 4, 2) := by decide +kernel
theorem dX12_quarrel_167 : decode cX12_quarrel 167 = .ok (.iconst 1, 1) := by decide +kernel
theorem dX12_quarrel_168 : decode cX12_quarrel 168 = .ok (.invokevirtual 402, 3) := by decide +kernel
theorem dX12_quarrel_171 : decode cX12_quarrel 171 = .ok (.aload_n 0, 1) := by decide +kernel
theorem dX12_quarrel_172 : decode cX12_quarrel 172 = .ok (.aload_n 0, 1) := by decide +kernel
theorem dX12_quarrel_173 : decode cX12_quarrel 173 = .ok (.getfield 389, 3) := by decide +kernel
theorem dX12_quarrel_176 : decode cX12_quarrel 176 = .ok (.iload 4, 2) := by decide +kernel
theorem dX12_quarrel_178 : decode cX12_quarrel 178 = .ok (.invokevirtual 405, 3) := by decide +kernel
theorem dX12_quarrel_181 : decode cX12_quarrel 181 = .ok (.aload_n 0, 1) := by decide +kernel
theorem dX12_quarrel_182 : decode cX12_quarrel 182 = .ok (.dup, 1) := by decide +kernel
theorem dX12_quarrel_183 : decode cX12_quarrel 183 = .ok (.getfield 389, 3) := by decide +kernel
theorem dX12_quarrel_186 : decode cX12_quarrel 186 = .ok (.iconst 1, 1) := by decide +kernel
theorem dX12_quarrel_187 : decode cX12_quarrel 187 = .ok (.iadd, 1) := by decide +kernel
theorem dX12_quarrel_188 : decode cX12_quarrel 188 = .ok (.putfield 389, 3) := by decide +kernel
theorem dX12_quarrel_191 : decode cX12_quarrel 191 = .ok (.aload_n 0, 1) := by decide +kernel
theorem dX12_quarrel_192 : decode cX12_quarrel 192 = .ok (.getfield 389, 3) := by decide +kernel
theorem dX12_quarrel_195 : decode cX12_quarrel 195 = .ok (.iconst 1, 1) := by decide +kernel
theorem dX12_quarrel_196 : decode cX12_quarrel 196 = .ok (.isub, 1) := by decide +kernel
theorem dX12_quarrel_197 : decode cX12_quarrel 197 = .ok (.ireturn, 1) := by decide +kernel
theorem dX12_isOn_0 : decode cX12_isOn 0 = .ok (.aload_n 0, 1) := by decide +kernel
theorem dX12_isOn_1 : decode cX12_isOn 1 = .ok (.getfield 82, 3) := by decide +kernel
theorem dX12_isOn_4 : decode cX12_isOn 4 = .ok (.bipush 64, 2) := by decide +kernel
theorem dX12_isOn_6 : decode cX12_isOn 6 = .ok (.iload_n 1, 1) := by decide +kernel
theorem dX12_isOn_7 : decode cX12_isOn 7 = .ok (.imul, 1) := by decide +kernel
theorem dX12_isOn_8 : decode cX12_isOn 8 = .ok (.bipush 6, 2) := by decide +kernel
theorem dX12_isOn_10 : decode cX12_isOn 10 = .ok (.iadd, 1) := by decide +kernel
theorem dX12_isOn_11 : decode cX12_isOn 11 = .ok (.iaload, 1) := by decide +kernel
theorem dX12_isOn_12 : decode cX12_isOn 12 = .ok (.ifCond .ne 7, 3) := by decide +kernel
theorem dX12_isOn_15 : decode cX12_isOn 15 = .ok (.iconst 1, 1) := by decide +kernel
theorem dX12_isOn_16 : decode cX12_isOn 16 = .ok (.goto 4, 3) := by decide +kernel
theorem dX12_isOn_19 : decode cX12_isOn 19 = .ok (.iconst 0, 1) := by decide +kernel
theorem dX12_isOn_20 : decode cX12_isOn 20 = .ok (.ireturn, 1) := by decide +kernel
theorem dX12_state_0 : decode cX12_state 0 = .ok (.aload_n 0, 1) := by decide +kernel
theorem dX12_state_1 : decode cX12_state 1 = .ok (.iload_n 1, 1) := by decide +kernel
theorem dX12_state_2 : decode cX12_state 2 = .ok (.invokevirtual 408, 3) := by decide +kernel
theorem dX12_state_5 : decode cX12_state 5 = .ok (.ifCond .eq 15, 3) := by decide +kernel
theorem dX12_state_8 : decode cX12_state 8 = .ok (.iload_n 2, 1) := by decide +kernel
theorem dX12_state_9 : decode cX12_state 9 = .ok (.i2l, 1) := by decide +kernel
theorem dX12_state_10 : decode cX12_state 10 = .ok (.lconst 0, 1) := by decide +kernel
theorem dX12_state_11 : decode cX12_state 11 = .ok (.ldc2_w 411, 3) := by decide +kernel
theorem dX12_state_14 : decode cX12_state 14 = .ok (.invokestatic 97, 3) := by decide +kernel
theorem dX12_state_17 : decode cX12_state 17 = .ok (.ifCond .ne 5, 3) := by decide +kernel
theorem dX12_state_20 : decode cX12_state 20 = .ok (.iconst (-1), 1) := by decide +kernel
theorem dX12_state_21 : decode cX12_state 21 = .ok (.ireturn, 1) := by decide +kernel
theorem dX12_state_22 : decode cX12_state 22 = .ok (.aload_n 0, 1) := by decide +kernel
theorem dX12_state_23 : decode cX12_state 23 = .ok (.iload_n 1, 1) := by decide +kernel
theorem dX12_state_24 : decode cX12_state 24 = .ok (.invokevirtual 413, 3) := by decide +kernel
theorem dX12_state_27 : decode cX12_state 27 = .ok (.iload_n 2, 1) := by decide +kernel
theorem dX12_state_28 : decode cX12_state 28 = .ok (.tableswitch 94 0 6 #[44, 49, 54, 61, 68, 84, 89], 44) := by decide +kernel
theorem dX12_state_72 : decode cX12_state 72 = .ok (.aload_n 0, 1) := by decide +kernel
theorem dX12_state_73 : decode cX12_state 73 = .ok (.getfield 347, 3) := by decide +kernel
theorem dX12_state_76 : decode cX12_state 76 = .ok (.ireturn, 1) := by decide +kernel
theorem dX12_state_77 : decode cX12_state 77 = .ok (.aload_n 0, 1) := by decide +kernel
theorem dX12_state_78 : decode cX12_state 78 = .ok (.getfield 350, 3) := by decide +kernel
theorem dX12_state_81 : decode cX12_state 81 = .ok (.ireturn, 1) := by decide +kernel
theorem dX12_state_82 : decode cX12_state 82 = .ok (.aload_n 0, 1) := by decide +kernel
theorem dX12_state_83 : decode cX12_state 83 = .ok (.getfield 59, 3) := by decide +kernel
theorem dX12_state_86 : decode cX12_state 86 = .ok (.iconst 0, 1) := by decide +kernel
theorem dX12_state_87 : decode cX12_state 87 = .ok (.iaload, 1) := by decide +kernel
theorem dX12_state_88 : decode cX12_state 88 = .ok (.ireturn, 1) := by decide +kernel
theorem dX12_state_89 : decode cX12_state 89 = .ok (.aload_n 0, 1) := by decide +kernel
theorem dX12_state_90 : decode cX12_state 90 = .ok (.getfield 59, 3) := by decide +kernel
theorem dX12_state_93 : decode cX12_state 93 = .ok (.iconst 1, 1) := by decide +kernel
theorem dX12_state_94 : decode cX12_state 94 = .ok (.iaload, 1) := by decide +kernel
theorem dX12_state_95 : decode cX12_state 95 = .ok (.ireturn, 1) := by decide +kernel
theorem dX12_state_96 : decode cX12_state 96 = .ok (.aload_n 0, 1) := by decide +kernel
theorem dX12_state_97 : decode cX12_state 97 = .ok (.getfield 347, 3) := by decide +kernel
theorem dX12_state_100 : decode cX12_state 100 = .ok (.ifCond .le 7, 3) := by decide +kernel
theorem dX12_state_103 : decode cX12_state 103 = .ok (.iconst (-1), 1) := by decide +kernel
theorem dX12_state_104 : decode cX12_state 104 = .ok (.goto 7, 3) := by decide +kernel
theorem dX12_state_107 : decode cX12_state 107 = .ok (.aload_n 0, 1) := by decide +kernel
theorem dX12_state_108 : decode cX12_state 108 = .ok (.getfield 338, 3) := by decide +kernel
theorem dX12_state_111 : decode cX12_state 111 = .ok (.ireturn, 1) := by decide +kernel
theorem dX12_state_112 : decode cX12_state 112 = .ok (.aload_n 0, 1) := by decide +kernel
theorem dX12_state_113 : decode cX12_state 113 = .ok (.getfield 344, 3) := by decide +kernel
theorem dX12_state_116 : decode cX12_state 116 = .ok (.ireturn, 1) := by decide +kernel
theorem dX12_state_117 : decode cX12_state 117 = .ok (.aload_n 0, 1) := by decide +kernel
theorem dX12_state_118 : decode cX12_state 118 = .ok (.getfield 341, 3) := by decide +kernel
theorem dX12_state_121 : decode cX12_state 121 = .ok (.ireturn, 1) := by decide +kernel
theorem dX12_state_122 : decode cX12_state 122 = .ok (.aload_n 0, 1) := by decide +kernel
theorem dX12_state_123 : decode cX12_state 123 = .ok (.getfield 82, 3) := by decide +kernel
theorem dX12_state_126 : decode cX12_state 126 = .ok (.bipush 64, 2) := by decide +kernel
theorem dX12_state_128 : decode cX12_state 128 = .ok (.iload_n 1, 1) := by decide +kernel
theorem dX12_state_129 : decode cX12_state 129 = .ok (.imul, 1) := by decide +kernel
theorem dX12_state_130 : decode cX12_state 130 = .ok (.iconst 5, 1) := by decide +kernel
theorem dX12_state_131 : decode cX12_state 131 = .ok (.iadd, 1) := by decide +kernel
theorem dX12_state_132 : decode cX12_state 132 = .ok (.iaload, 1) := by decide +kernel
theorem dX12_state_133 : decode cX12_state 133 = .ok (.ireturn, 1) := by decide +kernel
theorem dX12_may_0 : decode cX12_may 0 = .ok (.aload_n 0, 1) := by decide +kernel
theorem dX12_may_1 : decode cX12_may 1 = .ok (.iload_n 1, 1) := by decide +kernel
theorem dX12_may_2 : decode cX12_may 2 = .ok (.invokevirtual 408, 3) := by decide +kernel
theorem dX12_may_5 : decode cX12_may 5 = .ok (.ifCond .ne 5, 3) := by decide +kernel
theorem dX12_may_8 : decode cX12_may 8 = .ok (.iconst (-1), 1) := by decide +kernel
theorem dX12_may_9 : decode cX12_may 9 = .ok (.ireturn, 1) := by decide +kernel
theorem dX12_may_10 : decode cX12_may 10 = .ok (.aload_n 0, 1) := by decide +kernel
theorem dX12_may_11 : decode cX12_may 11 = .ok (.iload_n 1, 1) := by decide +kernel
theorem dX12_may_12 : decode cX12_may 12 = .ok (.invokevirtual 413, 3) := by decide +kernel
theorem dX12_may_15 : decode cX12_may 15 = .ok (.iconst 0, 1) := by decide +kernel
theorem dX12_may_16 : decode cX12_may 16 = .ok (.istore_n 2, 1) := by decide +kernel
theorem dX12_may_17 : decode cX12_may 17 = .ok (.iconst 0, 1) := by decide +kernel
theorem dX12_may_18 : decode cX12_may 18 = .ok (.istore_n 3, 1) := by decide +kernel
theorem dX12_may_19 : decode cX12_may 19 = .ok (.iload_n 3, 1) := by decide +kernel
theorem dX12_may_20 : decode cX12_may 20 = .ok (.bipush 11, 2) := by decide +kernel
theorem dX12_may_22 : decode cX12_may 22 = .ok (.if_icmp .ge 27, 3) := by decide +kernel
theorem dX12_may_25 : decode cX12_may 25 = .ok (.iload_n 2, 1) := by decide +kernel
theorem dX12_may_26 : decode cX12_may 26 = .ok (.aload_n 0, 1) := by decide +kernel
theorem dX12_may_27 : decode cX12_may 27 = .ok (.iload_n 3, 1) := by decide +kernel
theorem dX12_may_28 : decode cX12_may 28 = .ok (.invokevirtual 364, 3) := by decide +kernel
theorem dX12_may_31 : decode cX12_may 31 = .ok (.ifCond .eq 9, 3) := by decide +kernel
theorem dX12_may_34 : decode cX12_may 34 = .ok (.iconst 1, 1) := by decide +kernel
theorem dX12_may_35 : decode cX12_may 35 = .ok (.iload_n 3, 1) := by decide +kernel
theorem dX12_may_36 : decode cX12_may 36 = .ok (.ishl, 1) := by decide +kernel
theorem dX12_may_37 : decode cX12_may 37 = .ok (.goto 4, 3) := by decide +kernel
theorem dX12_may_40 : decode cX12_may 40 = .ok (.iconst 0, 1) := by decide +kernel
theorem dX12_may_41 : decode cX12_may 41 = .ok (.ior, 1) := by decide +kernel
theorem dX12_may_42 : decode cX12_may 42 = .ok (.istore_n 2, 1) := by decide +kernel
theorem dX12_may_43 : decode cX12_may 43 = .ok (.iinc 3 1, 3) := by decide +kernel
theorem dX12_may_46 : decode cX12_may 46 = .ok (.goto (-27), 3) := by decide +kernel
theorem dX12_may_49 : decode cX12_may 49 = .ok (.iload_n 2, 1) := by decide +kernel
theorem dX12_may_50 : decode cX12_may 50 = .ok (.ireturn, 1) := by decide +kernel
theorem dX12_move_0 : decode cX12_move 0 = .ok (.aload_n 0, 1) := by decide +kernel
theorem dX12_move_1 : decode cX12_move 1 = .ok (.iload_n 1, 1) := by decide +kernel
theorem dX12_move_2 : decode cX12_move 2 = .ok (.invokevirtual 408, 3) := by decide +kernel
theorem dX12_move_5 : decode cX12_move 5 = .ok (.ifCond .ne 5, 3) := by decide +kernel
theorem dX12_move_8 : decode cX12_move 8 = .ok (.iconst (-1), 1) := by decide +kernel
theorem dX12_move_9 : decode cX12_move 9 = .ok (.ireturn, 1) := by decide +kernel
theorem dX12_move_10 : decode cX12_move 10 = .ok (.aload_n 0, 1) := by decide +kernel
theorem dX12_move_11 : decode cX12_move 11 = .ok (.iload_n 1, 1) := by decide +kernel
theorem dX12_move_12 : decode cX12_move 12 = .ok (.invokevirtual 413, 3) := by decide +kernel
theorem dX12_move_15 : decode cX12_move 15 = .ok (.aload_n 0, 1) := by decide +kernel
theorem dX12_move_16 : decode cX12_move 16 = .ok (.iload_n 2, 1) := by decide +kernel
theorem dX12_move_17 : decode cX12_move 17 = .ok (.invokevirtual 364, 3) := by decide +kernel
theorem dX12_move_20 : decode cX12_move 20 = .ok (.ifCond .ne 5, 3) := by decide +kernel
theorem dX12_move_23 : decode cX12_move 23 = .ok (.iconst (-1), 1) := by decide +kernel
theorem dX12_move_24 : decode cX12_move 24 = .ok (.ireturn, 1) := by decide +kernel
theorem dX12_move_25 : decode cX12_move 25 = .ok (.aload_n 0, 1) := by decide +kernel
theorem dX12_move_26 : decode cX12_move 26 = .ok (.iload_n 2, 1) := by decide +kernel
theorem dX12_move_27 : decode cX12_move 27 = .ok (.iconst 1, 1) := by decide +kernel
theorem dX12_move_28 : decode cX12_move 28 = .ok (.invokevirtual 367, 3) := by decide +kernel
theorem dX12_move_31 : decode cX12_move 31 = .ok (.aload_n 0, 1) := by decide +kernel
theorem dX12_move_32 : decode cX12_move 32 = .ok (.iload_n 1, 1) := by decide +kernel
theorem dX12_move_33 : decode cX12_move 33 = .ok (.iload_n 2, 1) := by decide +kernel
theorem dX12_move_34 : decode cX12_move 34 = .ok (.invokevirtual 405, 3) := by decide +kernel
theorem dX12_move_37 : decode cX12_move 37 = .ok (.aload_n 0, 1) := by decide +kernel
theorem dX12_move_38 : decode cX12_move 38 = .ok (.getfield 347, 3) := by decide +kernel
theorem dX12_move_41 : decode cX12_move 41 = .ok (.ireturn, 1) := by decide +kernel
theorem dX12_history_0 : decode cX12_history 0 = .ok (.aload_n 0, 1) := by decide +kernel
theorem dX12_history_1 : decode cX12_history 1 = .ok (.iload_n 1, 1) := by decide +kernel
theorem dX12_history_2 : decode cX12_history 2 = .ok (.invokevirtual 408, 3) := by decide +kernel
theorem dX12_history_5 : decode cX12_history 5 = .ok (.ifCond .eq 43, 3) := by decide +kernel
theorem dX12_history_8 : decode cX12_history 8 = .ok (.iload_n 2, 1) := by decide +kernel
theorem dX12_history_9 : decode cX12_history 9 = .ok (.i2l, 1) := by decide +kernel
theorem dX12_history_10 : decode cX12_history 10 = .ok (.lconst 0, 1) := by decide +kernel
theorem dX12_history_11 : decode cX12_history 11 = .ok (.aload_n 0, 1) := by decide +kernel
theorem dX12_history_12 : decode cX12_history 12 = .ok (.getfield 82, 3) := by decide +kernel
theorem dX12_history_15 : decode cX12_history 15 = .ok (.bipush 64, 2) := by decide +kernel
theorem dX12_history_17 : decode cX12_history 17 = .ok (.iload_n 1, 1) := by decide +kernel
theorem dX12_history_18 : decode cX12_history 18 = .ok (.imul, 1) := by decide +kernel
theorem dX12_history_19 : decode cX12_history 19 = .ok (.iconst 5, 1) := by decide +kernel
theorem dX12_history_20 : decode cX12_history 20 = .ok (.iadd, 1) := by decide +kernel
theorem dX12_history_21 : decode cX12_history 21 = .ok (.iaload, 1) := by decide +kernel
theorem dX12_history_22 : decode cX12_history 22 = .ok (.iconst 1, 1) := by decide +kernel
theorem dX12_history_23 : decode cX12_history 23 = .ok (.isub, 1) := by decide +kernel
theorem dX12_history_24 : decode cX12_history 24 = .ok (.i2l, 1) := by decide +kernel
theorem dX12_history_25 : decode cX12_history 25 = .ok (.invokestatic 97, 3) := by decide +kernel
theorem dX12_history_28 : decode cX12_history 28 = .ok (.ifCond .eq 20, 3) := by decide +kernel
theorem dX12_history_31 : decode cX12_history 31 = .ok (.aload_n 0, 1) := by decide +kernel
theorem dX12_history_32 : decode cX12_history 32 = .ok (.getfield 82, 3) := by decide +kernel
theorem dX12_history_35 : decode cX12_history 35 = .ok (.bipush 64, 2) := by decide +kernel
theorem dX12_history_37 : decode cX12_history 37 = .ok (.iload_n 1, 1) := by decide +kernel
theorem dX12_history_38 : decode cX12_history 38 = .ok (.imul, 1) := by decide +kernel
theorem dX12_history_39 : decode cX12_history 39 = .ok (.bipush 8, 2) := by decide +kernel
theorem dX12_history_41 : decode cX12_history 41 = .ok (.iadd, 1) := by decide +kernel
theorem dX12_history_42 : decode cX12_history 42 = .ok (.iload_n 2, 1) := by decide +kernel
theorem dX12_history_43 : decode cX12_history 43 = .ok (.iadd, 1) := by decide +kernel
theorem dX12_history_44 : decode cX12_history 44 = .ok (.iaload, 1) := by decide +kernel
theorem dX12_history_45 : decode cX12_history 45 = .ok (.goto 4, 3) := by decide +kernel
theorem dX12_history_48 : decode cX12_history 48 = .ok (.iconst (-1), 1) := by decide +kernel
theorem dX12_history_49 : decode cX12_history 49 = .ok (.ireturn, 1) := by decide +kernel
theorem dX12_worksFrom_0 : decode cX12_worksFrom 0 = .ok (.aload_n 0, 1) := by decide +kernel
theorem dX12_worksFrom_1 : decode cX12_worksFrom 1 = .ok (.iload_n 1, 1) := by decide +kernel
theorem dX12_worksFrom_2 : decode cX12_worksFrom 2 = .ok (.invokevirtual 413, 3) := by decide +kernel
theorem dX12_worksFrom_5 : decode cX12_worksFrom 5 = .ok (.aload_n 0, 1) := by decide +kernel
theorem dX12_worksFrom_6 : decode cX12_worksFrom 6 = .ok (.getfield 347, 3) := by decide +kernel
theorem dX12_worksFrom_9 : decode cX12_worksFrom 9 = .ok (.ifCond .le 5, 3) := by decide +kernel
theorem dX12_worksFrom_12 : decode cX12_worksFrom 12 = .ok (.iconst (-1), 1) := by decide +kernel
theorem dX12_worksFrom_13 : decode cX12_worksFrom 13 = .ok (.ireturn, 1) := by decide +kernel
theorem dX12_worksFrom_14 : decode cX12_worksFrom 14 = .ok (.aload_n 0, 1) := by decide +kernel
theorem dX12_worksFrom_15 : decode cX12_worksFrom 15 = .ok (.invokevirtual 371, 3) := by decide +kernel
theorem dX12_worksFrom_18 : decode cX12_worksFrom 18 = .ok (.istore_n 3, 1) := by decide +kernel
theorem dX12_worksFrom_19 : decode cX12_worksFrom 19 = .ok (.aload_n 0, 1) := by decide +kernel
theorem dX12_worksFrom_20 : decode cX12_worksFrom 20 = .ok (.invokevirtual 383, 3) := by decide +kernel
theorem dX12_worksFrom_23 : decode cX12_worksFrom 23 = .ok (.aload_n 0, 1) := by decide +kernel
theorem dX12_worksFrom_24 : decode cX12_worksFrom 24 = .ok (.getfield 62, 3) := by decide +kernel
theorem dX12_worksFrom_27 : decode cX12_worksFrom 27 = .ok (.iload_n 3, 1) := by decide +kernel
theorem dX12_worksFrom_28 : decode cX12_worksFrom 28 = .ok (.iconst 1, 1) := by decide +kernel
theorem dX12_worksFrom_29 : decode cX12_worksFrom 29 = .ok (.bastore, 1) := by decide +kernel
theorem dX12_worksFrom_30 : decode cX12_worksFrom 30 = .ok (.aload_n 0, 1) := by decide +kernel
theorem dX12_worksFrom_31 : decode cX12_worksFrom 31 = .ok (.iload_n 2, 1) := by decide +kernel
theorem dX12_worksFrom_32 : decode cX12_worksFrom 32 = .ok (.invokevirtual 386, 3) := by decide +kernel
theorem dX12_worksFrom_35 : decode cX12_worksFrom 35 = .ok (.iload_n 3, 1) := by decide +kernel
theorem dX12_worksFrom_36 : decode cX12_worksFrom 36 = .ok (.ireturn, 1) := by decide +kernel
theorem dX12_ends_0 : decode cX12_ends 0 = .ok (.aload_n 0, 1) := by decide +kernel
theorem dX12_ends_1 : decode cX12_ends 1 = .ok (.iload_n 1, 1) := by decide +kernel
theorem dX12_ends_2 : decode cX12_ends 2 = .ok (.invokevirtual 408, 3) := by decide +kernel
theorem dX12_ends_5 : decode cX12_ends 5 = .ok (.ifCond .ne 5, 3) := by decide +kernel
theorem dX12_ends_8 : decode cX12_ends 8 = .ok (.iconst (-1), 1) := by decide +kernel
theorem dX12_ends_9 : decode cX12_ends 9 = .ok (.ireturn, 1) := by decide +kernel
theorem dX12_ends_10 : decode cX12_ends 10 = .ok (.aload_n 0, 1) := by decide +kernel
theorem dX12_ends_11 : decode cX12_ends 11 = .ok (.iload_n 1, 1) := by decide +kernel
theorem dX12_ends_12 : decode cX12_ends 12 = .ok (.iconst (-1), 1) := by decide +kernel
theorem dX12_ends_13 : decode cX12_ends 13 = .ok (.invokevirtual 416, 3) := by decide +kernel
theorem dX12_ends_16 : decode cX12_ends 16 = .ok (.istore_n 2, 1) := by decide +kernel
theorem dX12_ends_17 : decode cX12_ends 17 = .ok (.iload_n 2, 1) := by decide +kernel
theorem dX12_ends_18 : decode cX12_ends 18 = .ok (.ifCond .ge 12, 3) := by decide +kernel
theorem dX12_ends_21 : decode cX12_ends 21 = .ok (.iconst 1, 1) := by decide +kernel
theorem dX12_ends_22 : decode cX12_ends 22 = .ok (.aload_n 0, 1) := by decide +kernel
theorem dX12_ends_23 : decode cX12_ends 23 = .ok (.invokevirtual 377, 3) := by decide +kernel
theorem dX12_ends_26 : decode cX12_ends 26 = .ok (.ishl, 1) := by decide +kernel
theorem dX12_ends_27 : decode cX12_ends 27 = .ok (.goto 9, 3) := by decide +kernel
theorem dX12_ends_30 : decode cX12_ends 30 = .ok (.aload_n 0, 1) := by decide +kernel
theorem dX12_ends_31 : decode cX12_ends 31 = .ok (.getfield 72, 3) := by decide +kernel
theorem dX12_ends_34 : decode cX12_ends 34 = .ok (.iload_n 2, 1) := by decide +kernel
theorem dX12_ends_35 : decode cX12_ends 35 = .ok (.iaload, 1) := by decide +kernel
theorem dX12_ends_36 : decode cX12_ends 36 = .ok (.ireturn, 1) := by decide +kernel
theorem dX12_ways_0 : decode cX12_ways 0 = .ok (.aload_n 0, 1) := by decide +kernel
theorem dX12_ways_1 : decode cX12_ways 1 = .ok (.iload_n 1, 1) := by decide +kernel
theorem dX12_ways_2 : decode cX12_ways 2 = .ok (.invokevirtual 408, 3) := by decide +kernel
theorem dX12_ways_5 : decode cX12_ways 5 = .ok (.ifCond .eq 15, 3) := by decide +kernel
theorem dX12_ways_8 : decode cX12_ways 8 = .ok (.iload_n 2, 1) := by decide +kernel
theorem dX12_ways_9 : decode cX12_ways 9 = .ok (.i2l, 1) := by decide +kernel
theorem dX12_ways_10 : decode cX12_ways 10 = .ok (.lconst 0, 1) := by decide +kernel
theorem dX12_ways_11 : decode cX12_ways 11 = .ok (.ldc2_w 419, 3) := by decide +kernel
theorem dX12_ways_14 : decode cX12_ways 14 = .ok (.invokestatic 97, 3) := by decide +kernel
theorem dX12_ways_17 : decode cX12_ways 17 = .ok (.ifCond .ne 7, 3) := by decide +kernel
theorem dX12_ways_20 : decode cX12_ways 20 = .ok (.ldc2_w 421, 3) := by decide +kernel
theorem dX12_ways_23 : decode cX12_ways 23 = .ok (.lreturn, 1) := by decide +kernel
theorem dX12_ways_24 : decode cX12_ways 24 = .ok (.aload_n 0, 1) := by decide +kernel
theorem dX12_ways_25 : decode cX12_ways 25 = .ok (.iload_n 1, 1) := by decide +kernel
theorem dX12_ways_26 : decode cX12_ways 26 = .ok (.iload_n 2, 1) := by decide +kernel
theorem dX12_ways_27 : decode cX12_ways 27 = .ok (.invokevirtual 416, 3) := by decide +kernel
theorem dX12_ways_30 : decode cX12_ways 30 = .ok (.istore_n 3, 1) := by decide +kernel
theorem dX12_ways_31 : decode cX12_ways 31 = .ok (.iload_n 3, 1) := by decide +kernel
theorem dX12_ways_32 : decode cX12_ways 32 = .ok (.ifCond .lt 12, 3) := by decide +kernel
theorem dX12_ways_35 : decode cX12_ways 35 = .ok (.aload_n 0, 1) := by decide +kernel
theorem dX12_ways_36 : decode cX12_ways 36 = .ok (.getfield 75, 3) := by decide +kernel
theorem dX12_ways_39 : decode cX12_ways 39 = .ok (.iload_n 3, 1) := by decide +kernel
theorem dX12_ways_40 : decode cX12_ways 40 = .ok (.laload, 1) := by decide +kernel
theorem dX12_ways_41 : decode cX12_ways 41 = .ok (.goto 16, 3) := by decide +kernel
theorem dX12_ways_44 : decode cX12_ways 44 = .ok (.aload_n 0, 1) := by decide +kernel
theorem dX12_ways_45 : decode cX12_ways 45 = .ok (.invokevirtual 377, 3) := by decide +kernel
theorem dX12_ways_48 : decode cX12_ways 48 = .ok (.iload_n 2, 1) := by decide +kernel
theorem dX12_ways_49 : decode cX12_ways 49 = .ok (.if_icmp .ne 7, 3) := by decide +kernel
theorem dX12_ways_52 : decode cX12_ways 52 = .ok (.lconst 1, 1) := by decide +kernel
theorem dX12_ways_53 : decode cX12_ways 53 = .ok (.goto 4, 3) := by decide +kernel
theorem dX12_ways_56 : decode cX12_ways 56 = .ok (.lconst 0, 1) := by decide +kernel
theorem dX12_ways_57 : decode cX12_ways 57 = .ok (.lreturn, 1) := by decide +kernel
theorem dX12_brief_0 : decode cX12_brief 0 = .ok (.aload_n 0, 1) := by decide +kernel
theorem dX12_brief_1 : decode cX12_brief 1 = .ok (.iload_n 1, 1) := by decide +kernel
theorem dX12_brief_2 : decode cX12_brief 2 = .ok (.invokevirtual 408, 3) := by decide +kernel
theorem dX12_brief_5 : decode cX12_brief 5 = .ok (.ifCond .eq 20, 3) := by decide +kernel
theorem dX12_brief_8 : decode cX12_brief 8 = .ok (.iload_n 2, 1) := by decide +kernel
theorem dX12_brief_9 : decode cX12_brief 9 = .ok (.i2l, 1) := by decide +kernel
theorem dX12_brief_10 : decode cX12_brief 10 = .ok (.lconst 0, 1) := by decide +kernel
theorem dX12_brief_11 : decode cX12_brief 11 = .ok (.ldc2_w 419, 3) := by decide +kernel
theorem dX12_brief_14 : decode cX12_brief 14 = .ok (.invokestatic 97, 3) := by decide +kernel
theorem dX12_brief_17 : decode cX12_brief 17 = .ok (.ifCond .eq 8, 3) := by decide +kernel
theorem dX12_brief_20 : decode cX12_brief 20 = .ok (.iload_n 3, 1) := by decide +kernel
theorem dX12_brief_21 : decode cX12_brief 21 = .ok (.iconst (-1), 1) := by decide +kernel
theorem dX12_brief_22 : decode cX12_brief 22 = .ok (.if_icmp .ge 5, 3) := by decide +kernel
theorem dX12_brief_25 : decode cX12_brief 25 = .ok (.iconst (-1), 1) := by decide +kernel
theorem dX12_brief_26 : decode cX12_brief 26 = .ok (.ireturn, 1) := by decide +kernel
theorem dX12_brief_27 : decode cX12_brief 27 = .ok (.aload_n 0, 1) := by decide +kernel
theorem dX12_brief_28 : decode cX12_brief 28 = .ok (.iload_n 1, 1) := by decide +kernel
theorem dX12_brief_29 : decode cX12_brief 29 = .ok (.iload_n 2, 1) := by decide +kernel
theorem dX12_brief_30 : decode cX12_brief 30 = .ok (.invokevirtual 416, 3) := by decide +kernel
theorem dX12_brief_33 : decode cX12_brief 33 = .ok (.istore 4, 2) := by decide +kernel
theorem dX12_brief_35 : decode cX12_brief 35 = .ok (.iload 4, 2) := by decide +kernel
theorem dX12_brief_37 : decode cX12_brief 37 = .ok (.ifCond .lt 13, 3) := by decide +kernel
theorem dX12_brief_40 : decode cX12_brief 40 = .ok (.aload_n 0, 1) := by decide +kernel
theorem dX12_brief_41 : decode cX12_brief 41 = .ok (.getfield 79, 3) := by decide +kernel
theorem dX12_brief_44 : decode cX12_brief 44 = .ok (.iload 4, 2) := by decide +kernel
theorem dX12_brief_46 : decode cX12_brief 46 = .ok (.iaload, 1) := by decide +kernel
theorem dX12_brief_47 : decode cX12_brief 47 = .ok (.goto 17, 3) := by decide +kernel
theorem dX12_brief_50 : decode cX12_brief 50 = .ok (.aload_n 0, 1) := by decide +kernel
theorem dX12_brief_51 : decode cX12_brief 51 = .ok (.invokevirtual 377, 3) := by decide +kernel
theorem dX12_brief_54 : decode cX12_brief 54 = .ok (.iload_n 2, 1) := by decide +kernel
theorem dX12_brief_55 : decode cX12_brief 55 = .ok (.if_icmp .ne 7, 3) := by decide +kernel
theorem dX12_brief_58 : decode cX12_brief 58 = .ok (.iconst 0, 1) := by decide +kernel
theorem dX12_brief_59 : decode cX12_brief 59 = .ok (.goto 5, 3) := by decide +kernel
theorem dX12_brief_62 : decode cX12_brief 62 = .ok (.bipush 99, 2) := by decide +kernel
theorem dX12_brief_64 : decode cX12_brief 64 = .ok (.istore 5, 2) := by decide +kernel
theorem dX12_brief_66 : decode cX12_brief 66 = .ok (.iload 5, 2) := by decide +kernel
theorem dX12_brief_68 : decode cX12_brief 68 = .ok (.bipush 99, 2) := by decide +kernel
theorem dX12_brief_70 : decode cX12_brief 70 = .ok (.if_icmp .ne 6, 3) := by decide +kernel
theorem dX12_brief_73 : decode cX12_brief 73 = .ok (.bipush (-2), 2) := by decide +kernel
theorem dX12_brief_75 : decode cX12_brief 75 = .ok (.ireturn, 1) := by decide +kernel
theorem dX12_brief_76 : decode cX12_brief 76 = .ok (.iload_n 3, 1) := by decide +kernel
theorem dX12_brief_77 : decode cX12_brief 77 = .ok (.iconst (-1), 1) := by decide +kernel
theorem dX12_brief_78 : decode cX12_brief 78 = .ok (.if_icmp .ne 6, 3) := by decide +kernel
theorem dX12_brief_81 : decode cX12_brief 81 = .ok (.iload 5, 2) := by decide +kernel
theorem dX12_brief_83 : decode cX12_brief 83 = .ok (.ireturn, 1) := by decide +kernel
theorem dX12_brief_84 : decode cX12_brief 84 = .ok (.iload_n 3, 1) := by decide +kernel
theorem dX12_brief_85 : decode cX12_brief 85 = .ok (.iload 5, 2) := by decide +kernel
theorem dX12_brief_87 : decode cX12_brief 87 = .ok (.if_icmp .lt 5, 3) := by decide +kernel
theorem dX12_brief_90 : decode cX12_brief 90 = .ok (.iconst (-1), 1) := by decide +kernel
theorem dX12_brief_91 : decode cX12_brief 91 = .ok (.ireturn, 1) := by decide +kernel
theorem dX12_brief_92 : decode cX12_brief 92 = .ok (.iconst (-1), 1) := by decide +kernel
theorem dX12_brief_93 : decode cX12_brief 93 = .ok (.istore 6, 2) := by decide +kernel
theorem dX12_brief_95 : decode cX12_brief 95 = .ok (.iconst 0, 1) := by decide +kernel
theorem dX12_brief_96 : decode cX12_brief 96 = .ok (.istore 7, 2) := by decide +kernel
theorem dX12_brief_98 : decode cX12_brief 98 = .ok (.iload 7, 2) := by decide +kernel
theorem dX12_brief_100 : decode cX12_brief 100 = .ok (.iload_n 3, 1) := by decide +kernel
theorem dX12_brief_101 : decode cX12_brief 101 = .ok (.if_icmp .gt 127, 3) := by decide +kernel
theorem dX12_brief_104 : decode cX12_brief 104 = .ok (.iload 4, 2) := by decide +kernel
theorem dX12_brief_106 : decode cX12_brief 106 = .ok (.istore 8, 2) := by decide +kernel
theorem dX12_brief_108 : decode cX12_brief 108 = .ok (.iconst (-1), 1) := by decide +kernel
theorem dX12_brief_109 : decode cX12_brief 109 = .ok (.istore 6, 2) := by decide +kernel
theorem dX12_brief_111 : decode cX12_brief 111 = .ok (.bipush 10, 2) := by decide +kernel
theorem dX12_brief_113 : decode cX12_brief 113 = .ok (.istore 9, 2) := by decide +kernel
theorem dX12_brief_115 : decode cX12_brief 115 = .ok (.iload 9, 2) := by decide +kernel
theorem dX12_brief_117 : decode cX12_brief 117 = .ok (.ifCond .lt 105, 3) := by decide +kernel
theorem dX12_brief_120 : decode cX12_brief 120 = .ok (.aload_n 0, 1) := by decide +kernel
theorem dX12_brief_121 : decode cX12_brief 121 = .ok (.iload 8, 2) := by decide +kernel
theorem dX12_brief_123 : decode cX12_brief 123 = .ok (.invokevirtual 361, 3) := by decide +kernel
theorem dX12_brief_126 : decode cX12_brief 126 = .ok (.aload_n 0, 1) := by decide +kernel
theorem dX12_brief_127 : decode cX12_brief 127 = .ok (.iload 9, 2) := by decide +kernel
theorem dX12_brief_129 : decode cX12_brief 129 = .ok (.invokevirtual 364, 3) := by decide +kernel
theorem dX12_brief_132 : decode cX12_brief 132 = .ok (.ifCond .ne 6, 3) := by decide +kernel
theorem dX12_brief_135 : decode cX12_brief 135 = .ok (.goto 81, 3) := by decide +kernel
theorem dX12_brief_138 : decode cX12_brief 138 = .ok (.aload_n 0, 1) := by decide +kernel
theorem dX12_brief_139 : decode cX12_brief 139 = .ok (.iload 9, 2) := by decide +kernel
theorem dX12_brief_141 : decode cX12_brief 141 = .ok (.iconst 1, 1) := by decide +kernel
theorem dX12_brief_142 : decode cX12_brief 142 = .ok (.invokevirtual 367, 3) := by decide +kernel
theorem dX12_brief_145 : decode cX12_brief 145 = .ok (.aload_n 0, 1) := by decide +kernel
theorem dX12_brief_146 : decode cX12_brief 146 = .ok (.getfield 347, 3) := by decide +kernel
theorem dX12_brief_149 : decode cX12_brief 149 = .ok (.ifCond .le 20, 3) := by decide +kernel
theorem dX12_brief_152 : decode cX12_brief 152 = .ok (.aload_n 0, 1) := by decide +kernel
theorem dX12_brief_153 : decode cX12_brief 153 = .ok (.invokevirtual 377, 3) := by decide +kernel
theorem dX12_brief_156 : decode cX12_brief 156 = .ok (.iload_n 2, 1) := by decide +kernel
theorem dX12_brief_157 : decode cX12_brief 157 = .ok (.if_icmp .ne 7, 3) := by decide +kernel
theorem dX12_brief_160 : decode cX12_brief 160 = .ok (.iconst 0, 1) := by decide +kernel
theorem dX12_brief_161 : decode cX12_brief 161 = .ok (.goto 17, 3) := by decide +kernel
theorem dX12_brief_164 : decode cX12_brief 164 = .ok (.bipush 99, 2) := by decide +kernel
theorem dX12_brief_166 : decode cX12_brief 166 = .ok (.goto 12, 3) := by decide +kernel
theorem dX12_brief_169 : decode cX12_brief 169 = .ok (.aload_n 0, 1) := by decide +kernel
theorem dX12_brief_170 : decode cX12_brief 170 = .ok (.getfield 79, 3) := by decide +kernel
theorem dX12_brief_173 : decode cX12_brief 173 = .ok (.aload_n 0, 1) := by decide +kernel
theorem dX12_brief_174 : decode cX12_brief 174 = .ok (.invokevirtual 371, 3) := by decide +kernel
theorem dX12_brief_177 : decode cX12_brief 177 = .ok (.iaload, 1) := by decide +kernel
theorem dX12_brief_178 : decode cX12_brief 178 = .ok (.istore 10, 2) := by decide +kernel
theorem dX12_brief_180 : decode cX12_brief 180 = .ok (.iload 10, 2) := by decide +kernel
theorem dX12_brief_182 : decode cX12_brief 182 = .ok (.iconst 1, 1) := by decide +kernel
theorem dX12_brief_183 : decode cX12_brief 183 = .ok (.iadd, 1) := by decide +kernel
theorem dX12_brief_184 : decode cX12_brief 184 = .ok (.iload 5, 2) := by decide +kernel
theorem dX12_brief_186 : decode cX12_brief 186 = .ok (.iload 7, 2) := by decide +kernel
theorem dX12_brief_188 : decode cX12_brief 188 = .ok (.isub, 1) := by decide +kernel
theorem dX12_brief_189 : decode cX12_brief 189 = .ok (.if_icmp .eq 6, 3) := by decide +kernel
theorem dX12_brief_192 : decode cX12_brief 192 = .ok (.goto 24, 3) := by decide +kernel
theorem dX12_brief_195 : decode cX12_brief 195 = .ok (.iload 9, 2) := by decide +kernel
theorem dX12_brief_197 : decode cX12_brief 197 = .ok (.istore 6, 2) := by decide +kernel
theorem dX12_brief_199 : decode cX12_brief 199 = .ok (.aload_n 0, 1) := by decide +kernel
theorem dX12_brief_200 : decode cX12_brief 200 = .ok (.getfield 347, 3) := by decide +kernel
theorem dX12_brief_203 : decode cX12_brief 203 = .ok (.ifCond .le 7, 3) := by decide +kernel
theorem dX12_brief_206 : decode cX12_brief 206 = .ok (.iconst (-1), 1) := by decide +kernel
theorem dX12_brief_207 : decode cX12_brief 207 = .ok (.goto 7, 3) := by decide +kernel
theorem dX12_brief_210 : decode cX12_brief 210 = .ok (.aload_n 0, 1) := by decide +kernel
theorem dX12_brief_211 : decode cX12_brief 211 = .ok (.invokevirtual 371, 3) := by decide +kernel
theorem dX12_brief_214 : decode cX12_brief 214 = .ok (.istore 4, 2) := by decide +kernel
theorem dX12_brief_216 : decode cX12_brief 216 = .ok (.iinc 9 (-1), 3) := by decide +kernel
theorem dX12_brief_219 : decode cX12_brief 219 = .ok (.goto (-104), 3) := by decide +kernel
theorem dX12_brief_222 : decode cX12_brief 222 = .ok (.iinc 7 1, 3) := by decide +kernel
theorem dX12_brief_225 : decode cX12_brief 225 = .ok (.goto (-127), 3) := by decide +kernel
theorem dX12_brief_228 : decode cX12_brief 228 = .ok (.iload 6, 2) := by decide +kernel
theorem dX12_brief_230 : decode cX12_brief 230 = .ok (.ireturn, 1) := by decide +kernel
theorem dX12_mustField_0 : decode cX12_mustField 0 = .ok (.aload_n 0, 1) := by decide +kernel
theorem dX12_mustField_1 : decode cX12_mustField 1 = .ok (.getfield 347, 3) := by decide +kernel
theorem dX12_mustField_4 : decode cX12_mustField 4 = .ok (.ifCond .le 17, 3) := by decide +kernel
theorem dX12_mustField_7 : decode cX12_mustField 7 = .ok (.aload_n 0, 1) := by decide +kernel
theorem dX12_mustField_8 : decode cX12_mustField 8 = .ok (.getfield 347, 3) := by decide +kernel
theorem dX12_mustField_11 : decode cX12_mustField 11 = .ok (.iconst 2, 1) := by decide +kernel
theorem dX12_mustField_12 : decode cX12_mustField 12 = .ok (.if_icmp .ne 7, 3) := by decide +kernel
theorem dX12_mustField_15 : decode cX12_mustField 15 = .ok (.iconst 1, 1) := by decide +kernel
theorem dX12_mustField_16 : decode cX12_mustField 16 = .ok (.goto 4, 3) := by decide +kernel
theorem dX12_mustField_19 : decode cX12_mustField 19 = .ok (.iconst 0, 1) := by decide +kernel
theorem dX12_mustField_20 : decode cX12_mustField 20 = .ok (.ireturn, 1) := by decide +kernel
theorem dX12_mustField_21 : decode cX12_mustField 21 = .ok (.aload_n 0, 1) := by decide +kernel
theorem dX12_mustField_22 : decode cX12_mustField 22 = .ok (.invokevirtual 371, 3) := by decide +kernel
theorem dX12_mustField_25 : decode cX12_mustField 25 = .ok (.istore_n 1, 1) := by decide +kernel
theorem dX12_mustField_26 : decode cX12_mustField 26 = .ok (.aload_n 0, 1) := by decide +kernel
theorem dX12_mustField_27 : decode cX12_mustField 27 = .ok (.invokevirtual 383, 3) := by decide +kernel
theorem dX12_mustField_30 : decode cX12_mustField 30 = .ok (.aload_n 0, 1) := by decide +kernel
theorem dX12_mustField_31 : decode cX12_mustField 31 = .ok (.getfield 62, 3) := by decide +kernel
theorem dX12_mustField_34 : decode cX12_mustField 34 = .ok (.iload_n 1, 1) := by decide +kernel
theorem dX12_mustField_35 : decode cX12_mustField 35 = .ok (.iconst 1, 1) := by decide +kernel
theorem dX12_mustField_36 : decode cX12_mustField 36 = .ok (.bastore, 1) := by decide +kernel
theorem dX12_mustField_37 : decode cX12_mustField 37 = .ok (.aload_n 0, 1) := by decide +kernel
theorem dX12_mustField_38 : decode cX12_mustField 38 = .ok (.iconst (-1), 1) := by decide +kernel
theorem dX12_mustField_39 : decode cX12_mustField 39 = .ok (.invokevirtual 386, 3) := by decide +kernel
theorem dX12_mustField_42 : decode cX12_mustField 42 = .ok (.aload_n 0, 1) := by decide +kernel
theorem dX12_mustField_43 : decode cX12_mustField 43 = .ok (.getfield 72, 3) := by decide +kernel
theorem dX12_mustField_46 : decode cX12_mustField 46 = .ok (.iload_n 1, 1) := by decide +kernel
theorem dX12_mustField_47 : decode cX12_mustField 47 = .ok (.iaload, 1) := by decide +kernel
theorem dX12_mustField_48 : decode cX12_mustField 48 = .ok (.sipush 256, 3) := by decide +kernel
theorem dX12_mustField_51 : decode cX12_mustField 51 = .ok (.if_icmp .ne 7, 3) := by decide +kernel
theorem dX12_mustField_54 : decode cX12_mustField 54 = .ok (.iconst 1, 1) := by decide +kernel
theorem dX12_mustField_55 : decode cX12_mustField 55 = .ok (.goto 4, 3) := by decide +kernel
theorem dX12_mustField_58 : decode cX12_mustField 58 = .ok (.iconst 0, 1) := by decide +kernel
theorem dX12_mustField_59 : decode cX12_mustField 59 = .ok (.ireturn, 1) := by decide +kernel
theorem dX12_must_0 : decode cX12_must 0 = .ok (.aload_n 0, 1) := by decide +kernel
theorem dX12_must_1 : decode cX12_must 1 = .ok (.iload_n 1, 1) := by decide +kernel
theorem dX12_must_2 : decode cX12_must 2 = .ok (.invokevirtual 408, 3) := by decide +kernel
theorem dX12_must_5 : decode cX12_must 5 = .ok (.ifCond .ne 5, 3) := by decide +kernel
theorem dX12_must_8 : decode cX12_must 8 = .ok (.iconst (-1), 1) := by decide +kernel
theorem dX12_must_9 : decode cX12_must 9 = .ok (.ireturn, 1) := by decide +kernel
theorem dX12_must_10 : decode cX12_must 10 = .ok (.aload_n 0, 1) := by decide +kernel
theorem dX12_must_11 : decode cX12_must 11 = .ok (.iload_n 1, 1) := by decide +kernel
theorem dX12_must_12 : decode cX12_must 12 = .ok (.invokevirtual 413, 3) := by decide +kernel
theorem dX12_must_15 : decode cX12_must 15 = .ok (.aload_n 0, 1) := by decide +kernel
theorem dX12_must_16 : decode cX12_must 16 = .ok (.invokevirtual 423, 3) := by decide +kernel
theorem dX12_must_19 : decode cX12_must 19 = .ok (.ifCond .eq 7, 3) := by decide +kernel
theorem dX12_must_22 : decode cX12_must 22 = .ok (.iconst 1, 1) := by decide +kernel
theorem dX12_must_23 : decode cX12_must 23 = .ok (.goto 4, 3) := by decide +kernel
theorem dX12_must_26 : decode cX12_must 26 = .ok (.iconst 0, 1) := by decide +kernel
theorem dX12_must_27 : decode cX12_must 27 = .ok (.ireturn, 1) := by decide +kernel
theorem dX12_late_0 : decode cX12_late 0 = .ok (.aload_n 0, 1) := by decide +kernel
theorem dX12_late_1 : decode cX12_late 1 = .ok (.iload_n 1, 1) := by decide +kernel
theorem dX12_late_2 : decode cX12_late 2 = .ok (.invokevirtual 408, 3) := by decide +kernel
theorem dX12_late_5 : decode cX12_late 5 = .ok (.ifCond .ne 5, 3) := by decide +kernel
theorem dX12_late_8 : decode cX12_late 8 = .ok (.iconst (-1), 1) := by decide +kernel
theorem dX12_late_9 : decode cX12_late 9 = .ok (.ireturn, 1) := by decide +kernel
theorem dX12_late_10 : decode cX12_late 10 = .ok (.iconst 0, 1) := by decide +kernel
theorem dX12_late_11 : decode cX12_late 11 = .ok (.istore_n 2, 1) := by decide +kernel
theorem dX12_late_12 : decode cX12_late 12 = .ok (.iload_n 2, 1) := by decide +kernel
theorem dX12_late_13 : decode cX12_late 13 = .ok (.aload_n 0, 1) := by decide +kernel
theorem dX12_late_14 : decode cX12_late 14 = .ok (.getfield 82, 3) := by decide +kernel
theorem dX12_late_17 : decode cX12_late 17 = .ok (.bipush 64, 2) := by decide +kernel
theorem dX12_late_19 : decode cX12_late 19 = .ok (.iload_n 1, 1) := by decide +kernel
theorem dX12_late_20 : decode cX12_late 20 = .ok (.imul, 1) := by decide +kernel
theorem dX12_late_21 : decode cX12_late 21 = .ok (.iconst 5, 1) := by decide +kernel
theorem dX12_late_22 : decode cX12_late 22 = .ok (.iadd, 1) := by decide +kernel
theorem dX12_late_23 : decode cX12_late 23 = .ok (.iaload, 1) := by decide +kernel
theorem dX12_late_24 : decode cX12_late 24 = .ok (.if_icmp .ge 26, 3) := by decide +kernel
theorem dX12_late_27 : decode cX12_late 27 = .ok (.aload_n 0, 1) := by decide +kernel
theorem dX12_late_28 : decode cX12_late 28 = .ok (.iload_n 1, 1) := by decide +kernel
theorem dX12_late_29 : decode cX12_late 29 = .ok (.iload_n 2, 1) := by decide +kernel
theorem dX12_late_30 : decode cX12_late 30 = .ok (.invokevirtual 399, 3) := by decide +kernel
theorem dX12_late_33 : decode cX12_late 33 = .ok (.aload_n 0, 1) := by decide +kernel
theorem dX12_late_34 : decode cX12_late 34 = .ok (.invokevirtual 423, 3) := by decide +kernel
theorem dX12_late_37 : decode cX12_late 37 = .ok (.ifCond .eq 7, 3) := by decide +kernel
theorem dX12_late_40 : decode cX12_late 40 = .ok (.iload_n 2, 1) := by decide +kernel
theorem dX12_late_41 : decode cX12_late 41 = .ok (.iconst 1, 1) := by decide +kernel
theorem dX12_late_42 : decode cX12_late 42 = .ok (.iadd, 1) := by decide +kernel
theorem dX12_late_43 : decode cX12_late 43 = .ok (.ireturn, 1) := by decide +kernel
theorem dX12_late_44 : decode cX12_late 44 = .ok (.iinc 2 1, 3) := by decide +kernel
theorem dX12_late_47 : decode cX12_late 47 = .ok (.goto (-35), 3) := by decide +kernel
theorem dX12_late_50 : decode cX12_late 50 = .ok (.bipush (-2), 2) := by decide +kernel
theorem dX12_late_52 : decode cX12_late 52 = .ok (.ireturn, 1) := by decide +kernel
theorem dX12_game_0 : decode cX12_game 0 = .ok (.aload_n 0, 1) := by decide +kernel
theorem dX12_game_1 : decode cX12_game 1 = .ok (.iload_n 1, 1) := by decide +kernel
theorem dX12_game_2 : decode cX12_game 2 = .ok (.invokevirtual 408, 3) := by decide +kernel
theorem dX12_game_5 : decode cX12_game 5 = .ok (.ifCond .eq 13, 3) := by decide +kernel
theorem dX12_game_8 : decode cX12_game 8 = .ok (.iload_n 2, 1) := by decide +kernel
theorem dX12_game_9 : decode cX12_game 9 = .ok (.i2l, 1) := by decide +kernel
theorem dX12_game_10 : decode cX12_game 10 = .ok (.lconst 0, 1) := by decide +kernel
theorem dX12_game_11 : decode cX12_game 11 = .ok (.lconst 1, 1) := by decide +kernel
theorem dX12_game_12 : decode cX12_game 12 = .ok (.invokestatic 97, 3) := by decide +kernel
theorem dX12_game_15 : decode cX12_game 15 = .ok (.ifCond .ne 5, 3) := by decide +kernel
theorem dX12_game_18 : decode cX12_game 18 = .ok (.iconst (-1), 1) := by decide +kernel
theorem dX12_game_19 : decode cX12_game 19 = .ok (.ireturn, 1) := by decide +kernel
theorem dX12_game_20 : decode cX12_game 20 = .ok (.aload_n 0, 1) := by decide +kernel
theorem dX12_game_21 : decode cX12_game 21 = .ok (.iload_n 1, 1) := by decide +kernel
theorem dX12_game_22 : decode cX12_game 22 = .ok (.iconst (-1), 1) := by decide +kernel
theorem dX12_game_23 : decode cX12_game 23 = .ok (.invokevirtual 416, 3) := by decide +kernel
theorem dX12_game_26 : decode cX12_game 26 = .ok (.istore_n 3, 1) := by decide +kernel
theorem dX12_game_27 : decode cX12_game 27 = .ok (.iload_n 3, 1) := by decide +kernel
theorem dX12_game_28 : decode cX12_game 28 = .ok (.ifCond .ge 16, 3) := by decide +kernel
theorem dX12_game_31 : decode cX12_game 31 = .ok (.iload_n 2, 1) := by decide +kernel
theorem dX12_game_32 : decode cX12_game 32 = .ok (.ifCond .ne 10, 3) := by decide +kernel
theorem dX12_game_35 : decode cX12_game 35 = .ok (.aload_n 0, 1) := by decide +kernel
theorem dX12_game_36 : decode cX12_game 36 = .ok (.invokevirtual 377, 3) := by decide +kernel
theorem dX12_game_39 : decode cX12_game 39 = .ok (.goto 4, 3) := by decide +kernel
theorem dX12_game_42 : decode cX12_game 42 = .ok (.iconst (-1), 1) := by decide +kernel
theorem dX12_game_43 : decode cX12_game 43 = .ok (.ireturn, 1) := by decide +kernel
theorem dX12_game_44 : decode cX12_game 44 = .ok (.iload_n 2, 1) := by decide +kernel
theorem dX12_game_45 : decode cX12_game 45 = .ok (.ifCond .ne 12, 3) := by decide +kernel
theorem dX12_game_48 : decode cX12_game 48 = .ok (.aload_n 0, 1) := by decide +kernel
theorem dX12_game_49 : decode cX12_game 49 = .ok (.getfield 66, 3) := by decide +kernel
theorem dX12_game_52 : decode cX12_game 52 = .ok (.iload_n 3, 1) := by decide +kernel
theorem dX12_game_53 : decode cX12_game 53 = .ok (.iaload, 1) := by decide +kernel
theorem dX12_game_54 : decode cX12_game 54 = .ok (.goto 9, 3) := by decide +kernel
theorem dX12_game_57 : decode cX12_game 57 = .ok (.aload_n 0, 1) := by decide +kernel
theorem dX12_game_58 : decode cX12_game 58 = .ok (.getfield 69, 3) := by decide +kernel
theorem dX12_game_61 : decode cX12_game 61 = .ok (.iload_n 3, 1) := by decide +kernel
theorem dX12_game_62 : decode cX12_game 62 = .ok (.iaload, 1) := by decide +kernel
theorem dX12_game_63 : decode cX12_game 63 = .ok (.ireturn, 1) := by decide +kernel
theorem dX12_otherwise_0 : decode cX12_otherwise 0 = .ok (.aload_n 0, 1) := by decide +kernel
theorem dX12_otherwise_1 : decode cX12_otherwise 1 = .ok (.iload_n 1, 1) := by decide +kernel
theorem dX12_otherwise_2 : decode cX12_otherwise 2 = .ok (.invokevirtual 408, 3) := by decide +kernel
theorem dX12_otherwise_5 : decode cX12_otherwise 5 = .ok (.ifCond .eq 38, 3) := by decide +kernel
theorem dX12_otherwise_8 : decode cX12_otherwise 8 = .ok (.iload_n 2, 1) := by decide +kernel
theorem dX12_otherwise_9 : decode cX12_otherwise 9 = .ok (.i2l, 1) := by decide +kernel
theorem dX12_otherwise_10 : decode cX12_otherwise 10 = .ok (.lconst 1, 1) := by decide +kernel
theorem dX12_otherwise_11 : decode cX12_otherwise 11 = .ok (.aload_n 0, 1) := by decide +kernel
theorem dX12_otherwise_12 : decode cX12_otherwise 12 = .ok (.getfield 82, 3) := by decide +kernel
theorem dX12_otherwise_15 : decode cX12_otherwise 15 = .ok (.bipush 64, 2) := by decide +kernel
theorem dX12_otherwise_17 : decode cX12_otherwise 17 = .ok (.iload_n 1, 1) := by decide +kernel
theorem dX12_otherwise_18 : decode cX12_otherwise 18 = .ok (.imul, 1) := by decide +kernel
theorem dX12_otherwise_19 : decode cX12_otherwise 19 = .ok (.iconst 5, 1) := by decide +kernel
theorem dX12_otherwise_20 : decode cX12_otherwise 20 = .ok (.iadd, 1) := by decide +kernel
theorem dX12_otherwise_21 : decode cX12_otherwise 21 = .ok (.iaload, 1) := by decide +kernel
theorem dX12_otherwise_22 : decode cX12_otherwise 22 = .ok (.iconst 1, 1) := by decide +kernel
theorem dX12_otherwise_23 : decode cX12_otherwise 23 = .ok (.isub, 1) := by decide +kernel
theorem dX12_otherwise_24 : decode cX12_otherwise 24 = .ok (.i2l, 1) := by decide +kernel
theorem dX12_otherwise_25 : decode cX12_otherwise 25 = .ok (.invokestatic 97, 3) := by decide +kernel
theorem dX12_otherwise_28 : decode cX12_otherwise 28 = .ok (.ifCond .eq 15, 3) := by decide +kernel
theorem dX12_otherwise_31 : decode cX12_otherwise 31 = .ok (.iload_n 3, 1) := by decide +kernel
theorem dX12_otherwise_32 : decode cX12_otherwise 32 = .ok (.i2l, 1) := by decide +kernel
theorem dX12_otherwise_33 : decode cX12_otherwise 33 = .ok (.lconst 0, 1) := by decide +kernel
theorem dX12_otherwise_34 : decode cX12_otherwise 34 = .ok (.ldc2_w 359, 3) := by decide +kernel
theorem dX12_otherwise_37 : decode cX12_otherwise 37 = .ok (.invokestatic 97, 3) := by decide +kernel
theorem dX12_otherwise_40 : decode cX12_otherwise 40 = .ok (.ifCond .ne 5, 3) := by decide +kernel
theorem dX12_otherwise_43 : decode cX12_otherwise 43 = .ok (.iconst (-1), 1) := by decide +kernel
theorem dX12_otherwise_44 : decode cX12_otherwise 44 = .ok (.ireturn, 1) := by decide +kernel
theorem dX12_otherwise_45 : decode cX12_otherwise 45 = .ok (.aload_n 0, 1) := by decide +kernel
theorem dX12_otherwise_46 : decode cX12_otherwise 46 = .ok (.iload_n 1, 1) := by decide +kernel
theorem dX12_otherwise_47 : decode cX12_otherwise 47 = .ok (.iload_n 2, 1) := by decide +kernel
theorem dX12_otherwise_48 : decode cX12_otherwise 48 = .ok (.iconst 1, 1) := by decide +kernel
theorem dX12_otherwise_49 : decode cX12_otherwise 49 = .ok (.isub, 1) := by decide +kernel
theorem dX12_otherwise_50 : decode cX12_otherwise 50 = .ok (.invokevirtual 399, 3) := by decide +kernel
theorem dX12_otherwise_53 : decode cX12_otherwise 53 = .ok (.aload_n 0, 1) := by decide +kernel
theorem dX12_otherwise_54 : decode cX12_otherwise 54 = .ok (.iload_n 3, 1) := by decide +kernel
theorem dX12_otherwise_55 : decode cX12_otherwise 55 = .ok (.invokevirtual 364, 3) := by decide +kernel
theorem dX12_otherwise_58 : decode cX12_otherwise 58 = .ok (.ifCond .ne 6, 3) := by decide +kernel
theorem dX12_otherwise_61 : decode cX12_otherwise 61 = .ok (.bipush (-2), 2) := by decide +kernel
theorem dX12_otherwise_63 : decode cX12_otherwise 63 = .ok (.ireturn, 1) := by decide +kernel
theorem dX12_otherwise_64 : decode cX12_otherwise 64 = .ok (.aload_n 0, 1) := by decide +kernel
theorem dX12_otherwise_65 : decode cX12_otherwise 65 = .ok (.iload_n 3, 1) := by decide +kernel
theorem dX12_otherwise_66 : decode cX12_otherwise 66 = .ok (.iconst 1, 1) := by decide +kernel
theorem dX12_otherwise_67 : decode cX12_otherwise 67 = .ok (.invokevirtual 367, 3) := by decide +kernel
theorem dX12_otherwise_70 : decode cX12_otherwise 70 = .ok (.iload_n 2, 1) := by decide +kernel
theorem dX12_otherwise_71 : decode cX12_otherwise 71 = .ok (.iconst 1, 1) := by decide +kernel
theorem dX12_otherwise_72 : decode cX12_otherwise 72 = .ok (.iadd, 1) := by decide +kernel
theorem dX12_otherwise_73 : decode cX12_otherwise 73 = .ok (.istore 4, 2) := by decide +kernel
theorem dX12_otherwise_75 : decode cX12_otherwise 75 = .ok (.iload 4, 2) := by decide +kernel
theorem dX12_otherwise_77 : decode cX12_otherwise 77 = .ok (.aload_n 0, 1) := by decide +kernel
theorem dX12_otherwise_78 : decode cX12_otherwise 78 = .ok (.getfield 82, 3) := by decide +kernel
theorem dX12_otherwise_81 : decode cX12_otherwise 81 = .ok (.bipush 64, 2) := by decide +kernel
theorem dX12_otherwise_83 : decode cX12_otherwise 83 = .ok (.iload_n 1, 1) := by decide +kernel
theorem dX12_otherwise_84 : decode cX12_otherwise 84 = .ok (.imul, 1) := by decide +kernel
theorem dX12_otherwise_85 : decode cX12_otherwise 85 = .ok (.iconst 5, 1) := by decide +kernel
theorem dX12_otherwise_86 : decode cX12_otherwise 86 = .ok (.iadd, 1) := by decide +kernel
theorem dX12_otherwise_87 : decode cX12_otherwise 87 = .ok (.iaload, 1) := by decide +kernel
theorem dX12_otherwise_88 : decode cX12_otherwise 88 = .ok (.if_icmp .ge 51, 3) := by decide +kernel
theorem dX12_otherwise_91 : decode cX12_otherwise 91 = .ok (.aload_n 0, 1) := by decide +kernel
theorem dX12_otherwise_92 : decode cX12_otherwise 92 = .ok (.aload_n 0, 1) := by decide +kernel
theorem dX12_otherwise_93 : decode cX12_otherwise 93 = .ok (.getfield 82, 3) := by decide +kernel
theorem dX12_otherwise_96 : decode cX12_otherwise 96 = .ok (.bipush 64, 2) := by decide +kernel
theorem dX12_otherwise_98 : decode cX12_otherwise 98 = .ok (.iload_n 1, 1) := by decide +kernel
theorem dX12_otherwise_99 : decode cX12_otherwise 99 = .ok (.imul, 1) := by decide +kernel
theorem dX12_otherwise_100 : decode cX12_otherwise 100 = .ok (.bipush 8, 2) := by decide +kernel
theorem dX12_otherwise_102 : decode cX12_otherwise 102 = .ok (.iadd, 1) := by decide +kernel
theorem dX12_otherwise_103 : decode cX12_otherwise 103 = .ok (.iload 4, 2) := by decide +kernel
theorem dX12_otherwise_105 : decode cX12_otherwise 105 = .ok (.iadd, 1) := by decide +kernel
theorem dX12_otherwise_106 : decode cX12_otherwise 106 = .ok (.iaload, 1) := by decide +kernel
theorem dX12_otherwise_107 : decode cX12_otherwise 107 = .ok (.invokevirtual 364, 3) := by decide +kernel
theorem dX12_otherwise_110 : decode cX12_otherwise 110 = .ok (.ifCond .eq 29, 3) := by decide +kernel
theorem dX12_otherwise_113 : decode cX12_otherwise 113 = .ok (.aload_n 0, 1) := by decide +kernel
theorem dX12_otherwise_114 : decode cX12_otherwise 114 = .ok (.aload_n 0, 1) := by decide +kernel
theorem dX12_otherwise_115 : decode cX12_otherwise 115 = .ok (.getfield 82, 3) := by decide +kernel
theorem dX12_otherwise_118 : decode cX12_otherwise 118 = .ok (.bipush 64, 2) := by decide +kernel
theorem dX12_otherwise_120 : decode cX12_otherwise 120 = .ok (.iload_n 1, 1) := by decide +kernel
theorem dX12_otherwise_121 : decode cX12_otherwise 121 = .ok (.imul, 1) := by decide +kernel
theorem dX12_otherwise_122 : decode cX12_otherwise 122 = .ok (.bipush 8, 2) := by decide +kernel
theorem dX12_otherwise_124 : decode cX12_otherwise 124 = .ok (.iadd, 1) := by decide +kernel
theorem dX12_otherwise_125 : decode cX12_otherwise 125 = .ok (.iload 4, 2) := by decide +kernel
theorem dX12_otherwise_127 : decode cX12_otherwise 127 = .ok (.iadd, 1) := by decide +kernel
theorem dX12_otherwise_128 : decode cX12_otherwise 128 = .ok (.iaload, 1) := by decide +kernel
theorem dX12_otherwise_129 : decode cX12_otherwise 129 = .ok (.iconst 1, 1) := by decide +kernel
theorem dX12_otherwise_130 : decode cX12_otherwise 130 = .ok (.invokevirtual 367, 3) := by decide +kernel
theorem dX12_otherwise_133 : decode cX12_otherwise 133 = .ok (.iinc 4 1, 3) := by decide +kernel
theorem dX12_otherwise_136 : decode cX12_otherwise 136 = .ok (.goto (-61), 3) := by decide +kernel
theorem dX12_otherwise_139 : decode cX12_otherwise 139 = .ok (.aload_n 0, 1) := by decide +kernel
theorem dX12_otherwise_140 : decode cX12_otherwise 140 = .ok (.invokevirtual 426, 3) := by decide +kernel
theorem dX12_otherwise_143 : decode cX12_otherwise 143 = .ok (.ireturn, 1) := by decide +kernel
theorem dX12_again_0 : decode cX12_again 0 = .ok (.aload_n 0, 1) := by decide +kernel
