theorem dX6_init_0 : decode cX6_init 0 = .ok (.aload_n 0, 1) := by decide +kernel
theorem dX6_init_1 : decode cX6_init 1 = .ok (.invokespecial 1, 3) := by decide +kernel
theorem dX6_init_4 : decode cX6_init 4 = .ok (.aload_n 0, 1) := by decide +kernel
theorem dX6_init_5 : decode cX6_init 5 = .ok (.bipush 10, 2) := by decide +kernel
theorem dX6_init_7 : decode cX6_init 7 = .ok (.newarray .int, 2) := by decide +kernel
theorem dX6_init_9 : decode cX6_init 9 = .ok (.putfield 9, 3) := by decide +kernel
theorem dX6_init_12 : decode cX6_init 12 = .ok (.return_, 1) := by decide +kernel
theorem dX6_turnTo_0 : decode cX6_turnTo 0 = .ok (.aload_n 0, 1) := by decide +kernel
theorem dX6_turnTo_1 : decode cX6_turnTo 1 = .ok (.getfield 9, 3) := by decide +kernel
theorem dX6_turnTo_4 : decode cX6_turnTo 4 = .ok (.iconst 0, 1) := by decide +kernel
theorem dX6_turnTo_5 : decode cX6_turnTo 5 = .ok (.aload_n 1, 1) := by decide +kernel
theorem dX6_turnTo_6 : decode cX6_turnTo 6 = .ok (.iload_n 2, 1) := by decide +kernel
theorem dX6_turnTo_7 : decode cX6_turnTo 7 = .ok (.invokevirtual 13, 3) := by decide +kernel
theorem dX6_turnTo_10 : decode cX6_turnTo 10 = .ok (.iastore, 1) := by decide +kernel
theorem dX6_turnTo_11 : decode cX6_turnTo 11 = .ok (.aload_n 0, 1) := by decide +kernel
theorem dX6_turnTo_12 : decode cX6_turnTo 12 = .ok (.getfield 9, 3) := by decide +kernel
theorem dX6_turnTo_15 : decode cX6_turnTo 15 = .ok (.iconst 1, 1) := by decide +kernel
theorem dX6_turnTo_16 : decode cX6_turnTo 16 = .ok (.aload_n 1, 1) := by decide +kernel
theorem dX6_turnTo_17 : decode cX6_turnTo 17 = .ok (.iload_n 2, 1) := by decide +kernel
theorem dX6_turnTo_18 : decode cX6_turnTo 18 = .ok (.invokevirtual 19, 3) := by decide +kernel
theorem dX6_turnTo_21 : decode cX6_turnTo 21 = .ok (.iastore, 1) := by decide +kernel
theorem dX6_turnTo_22 : decode cX6_turnTo 22 = .ok (.aload_n 0, 1) := by decide +kernel
theorem dX6_turnTo_23 : decode cX6_turnTo 23 = .ok (.getfield 9, 3) := by decide +kernel
theorem dX6_turnTo_26 : decode cX6_turnTo 26 = .ok (.iconst 2, 1) := by decide +kernel
theorem dX6_turnTo_27 : decode cX6_turnTo 27 = .ok (.aload_n 1, 1) := by decide +kernel
theorem dX6_turnTo_28 : decode cX6_turnTo 28 = .ok (.iload_n 3, 1) := by decide +kernel
theorem dX6_turnTo_29 : decode cX6_turnTo 29 = .ok (.invokevirtual 13, 3) := by decide +kernel
theorem dX6_turnTo_32 : decode cX6_turnTo 32 = .ok (.iastore, 1) := by decide +kernel
theorem dX6_turnTo_33 : decode cX6_turnTo 33 = .ok (.aload_n 0, 1) := by decide +kernel
theorem dX6_turnTo_34 : decode cX6_turnTo 34 = .ok (.getfield 9, 3) := by decide +kernel
theorem dX6_turnTo_37 : decode cX6_turnTo 37 = .ok (.iconst 3, 1) := by decide +kernel
theorem dX6_turnTo_38 : decode cX6_turnTo 38 = .ok (.aload_n 1, 1) := by decide +kernel
theorem dX6_turnTo_39 : decode cX6_turnTo 39 = .ok (.iload_n 3, 1) := by decide +kernel
theorem dX6_turnTo_40 : decode cX6_turnTo 40 = .ok (.invokevirtual 19, 3) := by decide +kernel
theorem dX6_turnTo_43 : decode cX6_turnTo 43 = .ok (.iastore, 1) := by decide +kernel
theorem dX6_turnTo_44 : decode cX6_turnTo 44 = .ok (.aload_n 0, 1) := by decide +kernel
theorem dX6_turnTo_45 : decode cX6_turnTo 45 = .ok (.getfield 9, 3) := by decide +kernel
theorem dX6_turnTo_48 : decode cX6_turnTo 48 = .ok (.iconst 4, 1) := by decide +kernel
theorem dX6_turnTo_49 : decode cX6_turnTo 49 = .ok (.aload_n 1, 1) := by decide +kernel
theorem dX6_turnTo_50 : decode cX6_turnTo 50 = .ok (.iload_n 2, 1) := by decide +kernel
theorem dX6_turnTo_51 : decode cX6_turnTo 51 = .ok (.invokevirtual 22, 3) := by decide +kernel
theorem dX6_turnTo_54 : decode cX6_turnTo 54 = .ok (.aload_n 1, 1) := by decide +kernel
theorem dX6_turnTo_55 : decode cX6_turnTo 55 = .ok (.iload_n 3, 1) := by decide +kernel
theorem dX6_turnTo_56 : decode cX6_turnTo 56 = .ok (.invokevirtual 22, 3) := by decide +kernel
theorem dX6_turnTo_59 : decode cX6_turnTo 59 = .ok (.if_icmp .ne 7, 3) := by decide +kernel
theorem dX6_turnTo_62 : decode cX6_turnTo 62 = .ok (.iconst 1, 1) := by decide +kernel
theorem dX6_turnTo_63 : decode cX6_turnTo 63 = .ok (.goto 4, 3) := by decide +kernel
theorem dX6_turnTo_66 : decode cX6_turnTo 66 = .ok (.iconst 0, 1) := by decide +kernel
theorem dX6_turnTo_67 : decode cX6_turnTo 67 = .ok (.iastore, 1) := by decide +kernel
theorem dX6_turnTo_68 : decode cX6_turnTo 68 = .ok (.aload_n 0, 1) := by decide +kernel
theorem dX6_turnTo_69 : decode cX6_turnTo 69 = .ok (.getfield 9, 3) := by decide +kernel
theorem dX6_turnTo_72 : decode cX6_turnTo 72 = .ok (.iconst 5, 1) := by decide +kernel
theorem dX6_turnTo_73 : decode cX6_turnTo 73 = .ok (.aload_n 1, 1) := by decide +kernel
theorem dX6_turnTo_74 : decode cX6_turnTo 74 = .ok (.iload_n 2, 1) := by decide +kernel
theorem dX6_turnTo_75 : decode cX6_turnTo 75 = .ok (.iload_n 3, 1) := by decide +kernel
theorem dX6_turnTo_76 : decode cX6_turnTo 76 = .ok (.invokevirtual 25, 3) := by decide +kernel
theorem dX6_turnTo_79 : decode cX6_turnTo 79 = .ok (.ifCond .eq 7, 3) := by decide +kernel
theorem dX6_turnTo_82 : decode cX6_turnTo 82 = .ok (.iconst 1, 1) := by decide +kernel
theorem dX6_turnTo_83 : decode cX6_turnTo 83 = .ok (.goto 4, 3) := by decide +kernel
theorem dX6_turnTo_86 : decode cX6_turnTo 86 = .ok (.iconst 0, 1) := by decide +kernel
theorem dX6_turnTo_87 : decode cX6_turnTo 87 = .ok (.iastore, 1) := by decide +kernel
theorem dX6_turnTo_88 : decode cX6_turnTo 88 = .ok (.aload_n 0, 1) := by decide +kernel
theorem dX6_turnTo_89 : decode cX6_turnTo 89 = .ok (.getfield 9, 3) := by decide +kernel
theorem dX6_turnTo_92 : decode cX6_turnTo 92 = .ok (.bipush 6, 2) := by decide +kernel
theorem dX6_turnTo_94 : decode cX6_turnTo 94 = .ok (.iload 4, 2) := by decide +kernel
theorem dX6_turnTo_96 : decode cX6_turnTo 96 = .ok (.iastore, 1) := by decide +kernel
theorem dX6_turnTo_97 : decode cX6_turnTo 97 = .ok (.return_, 1) := by decide +kernel
theorem dX6_setHour_0 : decode cX6_setHour 0 = .ok (.aload_n 0, 1) := by decide +kernel
theorem dX6_setHour_1 : decode cX6_setHour 1 = .ok (.getfield 9, 3) := by decide +kernel
theorem dX6_setHour_4 : decode cX6_setHour 4 = .ok (.bipush 7, 2) := by decide +kernel
theorem dX6_setHour_6 : decode cX6_setHour 6 = .ok (.iload_n 1, 1) := by decide +kernel
theorem dX6_setHour_7 : decode cX6_setHour 7 = .ok (.iastore, 1) := by decide +kernel
theorem dX6_setHour_8 : decode cX6_setHour 8 = .ok (.aload_n 0, 1) := by decide +kernel
theorem dX6_setHour_9 : decode cX6_setHour 9 = .ok (.getfield 9, 3) := by decide +kernel
theorem dX6_setHour_12 : decode cX6_setHour 12 = .ok (.bipush 8, 2) := by decide +kernel
theorem dX6_setHour_14 : decode cX6_setHour 14 = .ok (.iload_n 2, 1) := by decide +kernel
theorem dX6_setHour_15 : decode cX6_setHour 15 = .ok (.iastore, 1) := by decide +kernel
theorem dX6_setHour_16 : decode cX6_setHour 16 = .ok (.aload_n 0, 1) := by decide +kernel
theorem dX6_setHour_17 : decode cX6_setHour 17 = .ok (.getfield 9, 3) := by decide +kernel
theorem dX6_setHour_20 : decode cX6_setHour 20 = .ok (.bipush 9, 2) := by decide +kernel
theorem dX6_setHour_22 : decode cX6_setHour 22 = .ok (.iload_n 3, 1) := by decide +kernel
theorem dX6_setHour_23 : decode cX6_setHour 23 = .ok (.iastore, 1) := by decide +kernel
theorem dX6_setHour_24 : decode cX6_setHour 24 = .ok (.return_, 1) := by decide +kernel
theorem dX6_valueOf_0 : decode cX6_valueOf 0 = .ok (.iload_n 1, 1) := by decide +kernel
theorem dX6_valueOf_1 : decode cX6_valueOf 1 = .ok (.ifCond .lt 18, 3) := by decide +kernel
theorem dX6_valueOf_4 : decode cX6_valueOf 4 = .ok (.iload_n 1, 1) := by decide +kernel
theorem dX6_valueOf_5 : decode cX6_valueOf 5 = .ok (.bipush 10, 2) := by decide +kernel
theorem dX6_valueOf_7 : decode cX6_valueOf 7 = .ok (.if_icmp .ge 12, 3) := by decide +kernel
theorem dX6_valueOf_10 : decode cX6_valueOf 10 = .ok (.aload_n 0, 1) := by decide +kernel
theorem dX6_valueOf_11 : decode cX6_valueOf 11 = .ok (.getfield 9, 3) := by decide +kernel
theorem dX6_valueOf_14 : decode cX6_valueOf 14 = .ok (.iload_n 1, 1) := by decide +kernel
theorem dX6_valueOf_15 : decode cX6_valueOf 15 = .ok (.iaload, 1) := by decide +kernel
theorem dX6_valueOf_16 : decode cX6_valueOf 16 = .ok (.goto 4, 3) := by decide +kernel
theorem dX6_valueOf_19 : decode cX6_valueOf 19 = .ok (.iconst 0, 1) := by decide +kernel
theorem dX6_valueOf_20 : decode cX6_valueOf 20 = .ok (.ireturn, 1) := by decide +kernel
