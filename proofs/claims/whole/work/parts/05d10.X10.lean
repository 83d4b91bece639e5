theorem dX10_init_0 : decode cX10_init 0 = .ok (.aload_n 0, 1) := by decide +kernel
theorem dX10_init_1 : decode cX10_init 1 = .ok (.invokespecial 3, 3) := by decide +kernel
theorem dX10_init_4 : decode cX10_init 4 = .ok (.aload_n 0, 1) := by decide +kernel
theorem dX10_init_5 : decode cX10_init 5 = .ok (.sipush 4096, 3) := by decide +kernel
theorem dX10_init_8 : decode cX10_init 8 = .ok (.newarray .int, 2) := by decide +kernel
theorem dX10_init_10 : decode cX10_init 10 = .ok (.putfield 9, 3) := by decide +kernel
theorem dX10_init_13 : decode cX10_init 13 = .ok (.aload_n 0, 1) := by decide +kernel
theorem dX10_init_14 : decode cX10_init 14 = .ok (.sipush 4096, 3) := by decide +kernel
theorem dX10_init_17 : decode cX10_init 17 = .ok (.newarray .long, 2) := by decide +kernel
theorem dX10_init_19 : decode cX10_init 19 = .ok (.putfield 15, 3) := by decide +kernel
theorem dX10_init_22 : decode cX10_init 22 = .ok (.aload_n 0, 1) := by decide +kernel
theorem dX10_init_23 : decode cX10_init 23 = .ok (.sipush 4096, 3) := by decide +kernel
theorem dX10_init_26 : decode cX10_init 26 = .ok (.newarray .int, 2) := by decide +kernel
theorem dX10_init_28 : decode cX10_init 28 = .ok (.putfield 19, 3) := by decide +kernel
theorem dX10_init_31 : decode cX10_init 31 = .ok (.aload_n 0, 1) := by decide +kernel
theorem dX10_init_32 : decode cX10_init 32 = .ok (.sipush 4096, 3) := by decide +kernel
theorem dX10_init_35 : decode cX10_init 35 = .ok (.newarray .int, 2) := by decide +kernel
theorem dX10_init_37 : decode cX10_init 37 = .ok (.putfield 22, 3) := by decide +kernel
theorem dX10_init_40 : decode cX10_init 40 = .ok (.aload_n 0, 1) := by decide +kernel
theorem dX10_init_41 : decode cX10_init 41 = .ok (.bipush 20, 2) := by decide +kernel
theorem dX10_init_43 : decode cX10_init 43 = .ok (.newarray .long, 2) := by decide +kernel
theorem dX10_init_45 : decode cX10_init 45 = .ok (.putfield 25, 3) := by decide +kernel
theorem dX10_init_48 : decode cX10_init 48 = .ok (.aload_n 0, 1) := by decide +kernel
theorem dX10_init_49 : decode cX10_init 49 = .ok (.bipush 20, 2) := by decide +kernel
theorem dX10_init_51 : decode cX10_init 51 = .ok (.newarray .int, 2) := by decide +kernel
theorem dX10_init_53 : decode cX10_init 53 = .ok (.putfield 28, 3) := by decide +kernel
theorem dX10_init_56 : decode cX10_init 56 = .ok (.return_, 1) := by decide +kernel
theorem dX10_go_0 : decode cX10_go 0 = .ok (.aload_n 0, 1) := by decide +kernel
theorem dX10_go_1 : decode cX10_go 1 = .ok (.dup, 1) := by decide +kernel
theorem dX10_go_2 : decode cX10_go 2 = .ok (.getfield 31, 3) := by decide +kernel
theorem dX10_go_5 : decode cX10_go 5 = .ok (.iconst 1, 1) := by decide +kernel
theorem dX10_go_6 : decode cX10_go 6 = .ok (.iadd, 1) := by decide +kernel
theorem dX10_go_7 : decode cX10_go 7 = .ok (.putfield 31, 3) := by decide +kernel
theorem dX10_go_10 : decode cX10_go 10 = .ok (.aload_n 0, 1) := by decide +kernel
theorem dX10_go_11 : decode cX10_go 11 = .ok (.iconst 0, 1) := by decide +kernel
theorem dX10_go_12 : decode cX10_go 12 = .ok (.putfield 35, 3) := by decide +kernel
theorem dX10_go_15 : decode cX10_go 15 = .ok (.iconst 0, 1) := by decide +kernel
theorem dX10_go_16 : decode cX10_go 16 = .ok (.istore_n 3, 1) := by decide +kernel
theorem dX10_go_17 : decode cX10_go 17 = .ok (.iload_n 3, 1) := by decide +kernel
theorem dX10_go_18 : decode cX10_go 18 = .ok (.bipush 20, 2) := by decide +kernel
theorem dX10_go_20 : decode cX10_go 20 = .ok (.if_icmp .ge 23, 3) := by decide +kernel
theorem dX10_go_23 : decode cX10_go 23 = .ok (.aload_n 0, 1) := by decide +kernel
theorem dX10_go_24 : decode cX10_go 24 = .ok (.getfield 25, 3) := by decide +kernel
theorem dX10_go_27 : decode cX10_go 27 = .ok (.iload_n 3, 1) := by decide +kernel
theorem dX10_go_28 : decode cX10_go 28 = .ok (.lconst 0, 1) := by decide +kernel
theorem dX10_go_29 : decode cX10_go 29 = .ok (.lastore, 1) := by decide +kernel
theorem dX10_go_30 : decode cX10_go 30 = .ok (.aload_n 0, 1) := by decide +kernel
theorem dX10_go_31 : decode cX10_go 31 = .ok (.getfield 28, 3) := by decide +kernel
theorem dX10_go_34 : decode cX10_go 34 = .ok (.iload_n 3, 1) := by decide +kernel
theorem dX10_go_35 : decode cX10_go 35 = .ok (.iconst 0, 1) := by decide +kernel
theorem dX10_go_36 : decode cX10_go 36 = .ok (.iastore, 1) := by decide +kernel
theorem dX10_go_37 : decode cX10_go 37 = .ok (.iinc 3 1, 3) := by decide +kernel
theorem dX10_go_40 : decode cX10_go 40 = .ok (.goto (-23), 3) := by decide +kernel
theorem dX10_go_43 : decode cX10_go 43 = .ok (.aload_n 0, 1) := by decide +kernel
theorem dX10_go_44 : decode cX10_go 44 = .ok (.iload_n 2, 1) := by decide +kernel
theorem dX10_go_45 : decode cX10_go 45 = .ok (.invokestatic 38, 3) := by decide +kernel
theorem dX10_go_48 : decode cX10_go 48 = .ok (.ifCond .eq 7, 3) := by decide +kernel
theorem dX10_go_51 : decode cX10_go 51 = .ok (.iconst 1, 1) := by decide +kernel
theorem dX10_go_52 : decode cX10_go 52 = .ok (.goto 4, 3) := by decide +kernel
theorem dX10_go_55 : decode cX10_go 55 = .ok (.iconst 0, 1) := by decide +kernel
theorem dX10_go_56 : decode cX10_go 56 = .ok (.putfield 44, 3) := by decide +kernel
theorem dX10_go_59 : decode cX10_go 59 = .ok (.aload_n 0, 1) := by decide +kernel
theorem dX10_go_60 : decode cX10_go 60 = .ok (.getfield 44, 3) := by decide +kernel
theorem dX10_go_63 : decode cX10_go 63 = .ok (.ifCond .eq 14, 3) := by decide +kernel
theorem dX10_go_66 : decode cX10_go 66 = .ok (.aload_n 0, 1) := by decide +kernel
theorem dX10_go_67 : decode cX10_go 67 = .ok (.iload_n 2, 1) := by decide +kernel
theorem dX10_go_68 : decode cX10_go 68 = .ok (.invokestatic 48, 3) := by decide +kernel
theorem dX10_go_71 : decode cX10_go 71 = .ok (.lconst 1, 1) := by decide +kernel
theorem dX10_go_72 : decode cX10_go 72 = .ok (.iconst 0, 1) := by decide +kernel
theorem dX10_go_73 : decode cX10_go 73 = .ok (.invokevirtual 51, 3) := by decide +kernel
theorem dX10_go_76 : decode cX10_go 76 = .ok (.return_, 1) := by decide +kernel
theorem dX10_go_77 : decode cX10_go 77 = .ok (.aload_n 0, 1) := by decide +kernel
theorem dX10_go_78 : decode cX10_go 78 = .ok (.iload_n 2, 1) := by decide +kernel
theorem dX10_go_79 : decode cX10_go 79 = .ok (.lconst 1, 1) := by decide +kernel
theorem dX10_go_80 : decode cX10_go 80 = .ok (.iconst 0, 1) := by decide +kernel
theorem dX10_go_81 : decode cX10_go 81 = .ok (.invokevirtual 55, 3) := by decide +kernel
theorem dX10_go_84 : decode cX10_go 84 = .ok (.iconst 0, 1) := by decide +kernel
theorem dX10_go_85 : decode cX10_go 85 = .ok (.istore_n 3, 1) := by decide +kernel
theorem dX10_go_86 : decode cX10_go 86 = .ok (.iload_n 3, 1) := by decide +kernel
theorem dX10_go_87 : decode cX10_go 87 = .ok (.aload_n 0, 1) := by decide +kernel
theorem dX10_go_88 : decode cX10_go 88 = .ok (.getfield 35, 3) := by decide +kernel
theorem dX10_go_91 : decode cX10_go 91 = .ok (.if_icmp .ge 22, 3) := by decide +kernel
theorem dX10_go_94 : decode cX10_go 94 = .ok (.iload_n 3, 1) := by decide +kernel
theorem dX10_go_95 : decode cX10_go 95 = .ok (.sipush 4096, 3) := by decide +kernel
theorem dX10_go_98 : decode cX10_go 98 = .ok (.if_icmp .ge 15, 3) := by decide +kernel
theorem dX10_go_101 : decode cX10_go 101 = .ok (.aload_n 0, 1) := by decide +kernel
theorem dX10_go_102 : decode cX10_go 102 = .ok (.aload_n 1, 1) := by decide +kernel
theorem dX10_go_103 : decode cX10_go 103 = .ok (.iload_n 3, 1) := by decide +kernel
theorem dX10_go_104 : decode cX10_go 104 = .ok (.invokevirtual 58, 3) := by decide +kernel
theorem dX10_go_107 : decode cX10_go 107 = .ok (.iinc 3 1, 3) := by decide +kernel
theorem dX10_go_110 : decode cX10_go 110 = .ok (.goto (-24), 3) := by decide +kernel
theorem dX10_go_113 : decode cX10_go 113 = .ok (.return_, 1) := by decide +kernel
theorem dX10_outcomes_0 : decode cX10_outcomes 0 = .ok (.iconst 0, 1) := by decide +kernel
theorem dX10_outcomes_1 : decode cX10_outcomes 1 = .ok (.istore_n 1, 1) := by decide +kernel
theorem dX10_outcomes_2 : decode cX10_outcomes 2 = .ok (.iconst 0, 1) := by decide +kernel
theorem dX10_outcomes_3 : decode cX10_outcomes 3 = .ok (.istore_n 2, 1) := by decide +kernel
theorem dX10_outcomes_4 : decode cX10_outcomes 4 = .ok (.iload_n 2, 1) := by decide +kernel
theorem dX10_outcomes_5 : decode cX10_outcomes 5 = .ok (.bipush 20, 2) := by decide +kernel
theorem dX10_outcomes_7 : decode cX10_outcomes 7 = .ok (.if_icmp .ge 26, 3) := by decide +kernel
theorem dX10_outcomes_10 : decode cX10_outcomes 10 = .ok (.aload_n 0, 1) := by decide +kernel
theorem dX10_outcomes_11 : decode cX10_outcomes 11 = .ok (.getfield 25, 3) := by decide +kernel
theorem dX10_outcomes_14 : decode cX10_outcomes 14 = .ok (.iload_n 2, 1) := by decide +kernel
theorem dX10_outcomes_15 : decode cX10_outcomes 15 = .ok (.laload, 1) := by decide +kernel
theorem dX10_outcomes_16 : decode cX10_outcomes 16 = .ok (.lconst 0, 1) := by decide +kernel
theorem dX10_outcomes_17 : decode cX10_outcomes 17 = .ok (.lcmp, 1) := by decide +kernel
theorem dX10_outcomes_18 : decode cX10_outcomes 18 = .ok (.ifCond .eq 9, 3) := by decide +kernel
theorem dX10_outcomes_21 : decode cX10_outcomes 21 = .ok (.iload_n 1, 1) := by decide +kernel
theorem dX10_outcomes_22 : decode cX10_outcomes 22 = .ok (.iconst 1, 1) := by decide +kernel
theorem dX10_outcomes_23 : decode cX10_outcomes 23 = .ok (.iload_n 2, 1) := by decide +kernel
theorem dX10_outcomes_24 : decode cX10_outcomes 24 = .ok (.ishl, 1) := by decide +kernel
theorem dX10_outcomes_25 : decode cX10_outcomes 25 = .ok (.ior, 1) := by decide +kernel
theorem dX10_outcomes_26 : decode cX10_outcomes 26 = .ok (.istore_n 1, 1) := by decide +kernel
theorem dX10_outcomes_27 : decode cX10_outcomes 27 = .ok (.iinc 2 1, 3) := by decide +kernel
theorem dX10_outcomes_30 : decode cX10_outcomes 30 = .ok (.goto (-26), 3) := by decide +kernel
theorem dX10_outcomes_33 : decode cX10_outcomes 33 = .ok (.iload_n 1, 1) := by decide +kernel
theorem dX10_outcomes_34 : decode cX10_outcomes 34 = .ok (.ireturn, 1) := by decide +kernel
theorem dX10_waysTo_0 : decode cX10_waysTo 0 = .ok (.iload_n 1, 1) := by decide +kernel
theorem dX10_waysTo_1 : decode cX10_waysTo 1 = .ok (.ifCond .lt 18, 3) := by decide +kernel
theorem dX10_waysTo_4 : decode cX10_waysTo 4 = .ok (.iload_n 1, 1) := by decide +kernel
theorem dX10_waysTo_5 : decode cX10_waysTo 5 = .ok (.bipush 20, 2) := by decide +kernel
theorem dX10_waysTo_7 : decode cX10_waysTo 7 = .ok (.if_icmp .ge 12, 3) := by decide +kernel
theorem dX10_waysTo_10 : decode cX10_waysTo 10 = .ok (.aload_n 0, 1) := by decide +kernel
theorem dX10_waysTo_11 : decode cX10_waysTo 11 = .ok (.getfield 25, 3) := by decide +kernel
theorem dX10_waysTo_14 : decode cX10_waysTo 14 = .ok (.iload_n 1, 1) := by decide +kernel
theorem dX10_waysTo_15 : decode cX10_waysTo 15 = .ok (.laload, 1) := by decide +kernel
theorem dX10_waysTo_16 : decode cX10_waysTo 16 = .ok (.goto 4, 3) := by decide +kernel
theorem dX10_waysTo_19 : decode cX10_waysTo 19 = .ok (.lconst 0, 1) := by decide +kernel
theorem dX10_waysTo_20 : decode cX10_waysTo 20 = .ok (.lreturn, 1) := by decide +kernel
theorem dX10_fewestTo_0 : decode cX10_fewestTo 0 = .ok (.aload_n 0, 1) := by decide +kernel
theorem dX10_fewestTo_1 : decode cX10_fewestTo 1 = .ok (.getfield 44, 3) := by decide +kernel
theorem dX10_fewestTo_4 : decode cX10_fewestTo 4 = .ok (.ifCond .ne 13, 3) := by decide +kernel
theorem dX10_fewestTo_7 : decode cX10_fewestTo 7 = .ok (.iload_n 1, 1) := by decide +kernel
theorem dX10_fewestTo_8 : decode cX10_fewestTo 8 = .ok (.ifCond .lt 9, 3) := by decide +kernel
theorem dX10_fewestTo_11 : decode cX10_fewestTo 11 = .ok (.iload_n 1, 1) := by decide +kernel
theorem dX10_fewestTo_12 : decode cX10_fewestTo 12 = .ok (.bipush 20, 2) := by decide +kernel
theorem dX10_fewestTo_14 : decode cX10_fewestTo 14 = .ok (.if_icmp .lt 5, 3) := by decide +kernel
theorem dX10_fewestTo_17 : decode cX10_fewestTo 17 = .ok (.iconst 0, 1) := by decide +kernel
theorem dX10_fewestTo_18 : decode cX10_fewestTo 18 = .ok (.ireturn, 1) := by decide +kernel
theorem dX10_fewestTo_19 : decode cX10_fewestTo 19 = .ok (.iconst 1, 1) := by decide +kernel
theorem dX10_fewestTo_20 : decode cX10_fewestTo 20 = .ok (.istore_n 2, 1) := by decide +kernel
theorem dX10_fewestTo_21 : decode cX10_fewestTo 21 = .ok (.aload_n 0, 1) := by decide +kernel
theorem dX10_fewestTo_22 : decode cX10_fewestTo 22 = .ok (.getfield 28, 3) := by decide +kernel
theorem dX10_fewestTo_25 : decode cX10_fewestTo 25 = .ok (.iload_n 1, 1) := by decide +kernel
theorem dX10_fewestTo_26 : decode cX10_fewestTo 26 = .ok (.iaload, 1) := by decide +kernel
theorem dX10_fewestTo_27 : decode cX10_fewestTo 27 = .ok (.iconst 4, 1) := by decide +kernel
theorem dX10_fewestTo_28 : decode cX10_fewestTo 28 = .ok (.ishr, 1) := by decide +kernel
theorem dX10_fewestTo_29 : decode cX10_fewestTo 29 = .ok (.istore_n 3, 1) := by decide +kernel
theorem dX10_fewestTo_30 : decode cX10_fewestTo 30 = .ok (.iconst 0, 1) := by decide +kernel
theorem dX10_fewestTo_31 : decode cX10_fewestTo 31 = .ok (.istore 4, 2) := by decide +kernel
theorem dX10_fewestTo_33 : decode cX10_fewestTo 33 = .ok (.iload 4, 2) := by decide +kernel
theorem dX10_fewestTo_35 : decode cX10_fewestTo 35 = .ok (.bipush 8, 2) := by decide +kernel
theorem dX10_fewestTo_37 : decode cX10_fewestTo 37 = .ok (.if_icmp .ge 32, 3) := by decide +kernel
theorem dX10_fewestTo_40 : decode cX10_fewestTo 40 = .ok (.iload_n 3, 1) := by decide +kernel
theorem dX10_fewestTo_41 : decode cX10_fewestTo 41 = .ok (.ifCond .le 28, 3) := by decide +kernel
theorem dX10_fewestTo_44 : decode cX10_fewestTo 44 = .ok (.iload_n 3, 1) := by decide +kernel
theorem dX10_fewestTo_45 : decode cX10_fewestTo 45 = .ok (.sipush 4096, 3) := by decide +kernel
theorem dX10_fewestTo_48 : decode cX10_fewestTo 48 = .ok (.if_icmp .ge 21, 3) := by decide +kernel
theorem dX10_fewestTo_51 : decode cX10_fewestTo 51 = .ok (.iinc 2 1, 3) := by decide +kernel
theorem dX10_fewestTo_54 : decode cX10_fewestTo 54 = .ok (.aload_n 0, 1) := by decide +kernel
theorem dX10_fewestTo_55 : decode cX10_fewestTo 55 = .ok (.getfield 19, 3) := by decide +kernel
theorem dX10_fewestTo_58 : decode cX10_fewestTo 58 = .ok (.iload_n 3, 1) := by decide +kernel
theorem dX10_fewestTo_59 : decode cX10_fewestTo 59 = .ok (.iaload, 1) := by decide +kernel
theorem dX10_fewestTo_60 : decode cX10_fewestTo 60 = .ok (.iconst 4, 1) := by decide +kernel
theorem dX10_fewestTo_61 : decode cX10_fewestTo 61 = .ok (.ishr, 1) := by decide +kernel
theorem dX10_fewestTo_62 : decode cX10_fewestTo 62 = .ok (.istore_n 3, 1) := by decide +kernel
theorem dX10_fewestTo_63 : decode cX10_fewestTo 63 = .ok (.iinc 4 1, 3) := by decide +kernel
theorem dX10_fewestTo_66 : decode cX10_fewestTo 66 = .ok (.goto (-33), 3) := by decide +kernel
theorem dX10_fewestTo_69 : decode cX10_fewestTo 69 = .ok (.iload_n 2, 1) := by decide +kernel
theorem dX10_fewestTo_70 : decode cX10_fewestTo 70 = .ok (.ireturn, 1) := by decide +kernel
theorem dX10_moveTo_0 : decode cX10_moveTo 0 = .ok (.iload_n 1, 1) := by decide +kernel
theorem dX10_moveTo_1 : decode cX10_moveTo 1 = .ok (.ifCond .lt 9, 3) := by decide +kernel
theorem dX10_moveTo_4 : decode cX10_moveTo 4 = .ok (.iload_n 1, 1) := by decide +kernel
theorem dX10_moveTo_5 : decode cX10_moveTo 5 = .ok (.bipush 20, 2) := by decide +kernel
theorem dX10_moveTo_7 : decode cX10_moveTo 7 = .ok (.if_icmp .lt 5, 3) := by decide +kernel
theorem dX10_moveTo_10 : decode cX10_moveTo 10 = .ok (.iconst (-1), 1) := by decide +kernel
theorem dX10_moveTo_11 : decode cX10_moveTo 11 = .ok (.ireturn, 1) := by decide +kernel
theorem dX10_moveTo_12 : decode cX10_moveTo 12 = .ok (.aload_n 0, 1) := by decide +kernel
theorem dX10_moveTo_13 : decode cX10_moveTo 13 = .ok (.getfield 28, 3) := by decide +kernel
theorem dX10_moveTo_16 : decode cX10_moveTo 16 = .ok (.iload_n 1, 1) := by decide +kernel
theorem dX10_moveTo_17 : decode cX10_moveTo 17 = .ok (.iaload, 1) := by decide +kernel
theorem dX10_moveTo_18 : decode cX10_moveTo 18 = .ok (.istore_n 3, 1) := by decide +kernel
theorem dX10_moveTo_19 : decode cX10_moveTo 19 = .ok (.iconst 0, 1) := by decide +kernel
theorem dX10_moveTo_20 : decode cX10_moveTo 20 = .ok (.istore 4, 2) := by decide +kernel
theorem dX10_moveTo_22 : decode cX10_moveTo 22 = .ok (.iload 4, 2) := by decide +kernel
theorem dX10_moveTo_24 : decode cX10_moveTo 24 = .ok (.iload_n 2, 1) := by decide +kernel
theorem dX10_moveTo_25 : decode cX10_moveTo 25 = .ok (.if_icmp .ge 46, 3) := by decide +kernel
theorem dX10_moveTo_28 : decode cX10_moveTo 28 = .ok (.iload 4, 2) := by decide +kernel
theorem dX10_moveTo_30 : decode cX10_moveTo 30 = .ok (.bipush 8, 2) := by decide +kernel
theorem dX10_moveTo_32 : decode cX10_moveTo 32 = .ok (.if_icmp .ge 39, 3) := by decide +kernel
theorem dX10_moveTo_35 : decode cX10_moveTo 35 = .ok (.iload_n 3, 1) := by decide +kernel
theorem dX10_moveTo_36 : decode cX10_moveTo 36 = .ok (.iconst 4, 1) := by decide +kernel
theorem dX10_moveTo_37 : decode cX10_moveTo 37 = .ok (.ishr, 1) := by decide +kernel
theorem dX10_moveTo_38 : decode cX10_moveTo 38 = .ok (.istore 5, 2) := by decide +kernel
theorem dX10_moveTo_40 : decode cX10_moveTo 40 = .ok (.iload 5, 2) := by decide +kernel
theorem dX10_moveTo_42 : decode cX10_moveTo 42 = .ok (.ifCond .lt 21, 3) := by decide +kernel
theorem dX10_moveTo_45 : decode cX10_moveTo 45 = .ok (.iload 5, 2) := by decide +kernel
theorem dX10_moveTo_47 : decode cX10_moveTo 47 = .ok (.sipush 4096, 3) := by decide +kernel
theorem dX10_moveTo_50 : decode cX10_moveTo 50 = .ok (.if_icmp .ge 13, 3) := by decide +kernel
theorem dX10_moveTo_53 : decode cX10_moveTo 53 = .ok (.aload_n 0, 1) := by decide +kernel
theorem dX10_moveTo_54 : decode cX10_moveTo 54 = .ok (.getfield 19, 3) := by decide +kernel
theorem dX10_moveTo_57 : decode cX10_moveTo 57 = .ok (.iload 5, 2) := by decide +kernel
theorem dX10_moveTo_59 : decode cX10_moveTo 59 = .ok (.iaload, 1) := by decide +kernel
theorem dX10_moveTo_60 : decode cX10_moveTo 60 = .ok (.goto 4, 3) := by decide +kernel
theorem dX10_moveTo_63 : decode cX10_moveTo 63 = .ok (.iconst 0, 1) := by decide +kernel
theorem dX10_moveTo_64 : decode cX10_moveTo 64 = .ok (.istore_n 3, 1) := by decide +kernel
theorem dX10_moveTo_65 : decode cX10_moveTo 65 = .ok (.iinc 4 1, 3) := by decide +kernel
theorem dX10_moveTo_68 : decode cX10_moveTo 68 = .ok (.goto (-46), 3) := by decide +kernel
theorem dX10_moveTo_71 : decode cX10_moveTo 71 = .ok (.iload_n 3, 1) := by decide +kernel
theorem dX10_moveTo_72 : decode cX10_moveTo 72 = .ok (.bipush 15, 2) := by decide +kernel
theorem dX10_moveTo_74 : decode cX10_moveTo 74 = .ok (.iand, 1) := by decide +kernel
theorem dX10_moveTo_75 : decode cX10_moveTo 75 = .ok (.ireturn, 1) := by decide +kernel
theorem dX10_spread_0 : decode cX10_spread 0 = .ok (.aload_n 0, 1) := by decide +kernel
theorem dX10_spread_1 : decode cX10_spread 1 = .ok (.getfield 9, 3) := by decide +kernel
theorem dX10_spread_4 : decode cX10_spread 4 = .ok (.iload_n 2, 1) := by decide +kernel
theorem dX10_spread_5 : decode cX10_spread 5 = .ok (.iaload, 1) := by decide +kernel
theorem dX10_spread_6 : decode cX10_spread 6 = .ok (.istore_n 3, 1) := by decide +kernel
theorem dX10_spread_7 : decode cX10_spread 7 = .ok (.iconst 0, 1) := by decide +kernel
theorem dX10_spread_8 : decode cX10_spread 8 = .ok (.istore 4, 2) := by decide +kernel
theorem dX10_spread_10 : decode cX10_spread 10 = .ok (.iload 4, 2) := by decide +kernel
theorem dX10_spread_12 : decode cX10_spread 12 = .ok (.bipush 11, 2) := by decide +kernel
theorem dX10_spread_14 : decode cX10_spread 14 = .ok (.if_icmp .ge 79, 3) := by decide +kernel
theorem dX10_spread_17 : decode cX10_spread 17 = .ok (.aload_n 1, 1) := by decide +kernel
theorem dX10_spread_18 : decode cX10_spread 18 = .ok (.iload_n 3, 1) := by decide +kernel
theorem dX10_spread_19 : decode cX10_spread 19 = .ok (.iload 4, 2) := by decide +kernel
theorem dX10_spread_21 : decode cX10_spread 21 = .ok (.invokevirtual 62, 3) := by decide +kernel
theorem dX10_spread_24 : decode cX10_spread 24 = .ok (.ifCond .eq 63, 3) := by decide +kernel
theorem dX10_spread_27 : decode cX10_spread 27 = .ok (.aload_n 1, 1) := by decide +kernel
theorem dX10_spread_28 : decode cX10_spread 28 = .ok (.iload_n 3, 1) := by decide +kernel
theorem dX10_spread_29 : decode cX10_spread 29 = .ok (.iload 4, 2) := by decide +kernel
theorem dX10_spread_31 : decode cX10_spread 31 = .ok (.iconst 1, 1) := by decide +kernel
theorem dX10_spread_32 : decode cX10_spread 32 = .ok (.invokevirtual 68, 3) := by decide +kernel
theorem dX10_spread_35 : decode cX10_spread 35 = .ok (.istore 5, 2) := by decide +kernel
theorem dX10_spread_37 : decode cX10_spread 37 = .ok (.iload_n 2, 1) := by decide +kernel
theorem dX10_spread_38 : decode cX10_spread 38 = .ok (.iconst 4, 1) := by decide +kernel
theorem dX10_spread_39 : decode cX10_spread 39 = .ok (.ishl, 1) := by decide +kernel
theorem dX10_spread_40 : decode cX10_spread 40 = .ok (.iload 4, 2) := by decide +kernel
theorem dX10_spread_42 : decode cX10_spread 42 = .ok (.ior, 1) := by decide +kernel
theorem dX10_spread_43 : decode cX10_spread 43 = .ok (.istore 6, 2) := by decide +kernel
theorem dX10_spread_45 : decode cX10_spread 45 = .ok (.iload 5, 2) := by decide +kernel
theorem dX10_spread_47 : decode cX10_spread 47 = .ok (.invokestatic 38, 3) := by decide +kernel
theorem dX10_spread_50 : decode cX10_spread 50 = .ok (.ifCond .eq 23, 3) := by decide +kernel
theorem dX10_spread_53 : decode cX10_spread 53 = .ok (.aload_n 0, 1) := by decide +kernel
theorem dX10_spread_54 : decode cX10_spread 54 = .ok (.iload 5, 2) := by decide +kernel
theorem dX10_spread_56 : decode cX10_spread 56 = .ok (.invokestatic 48, 3) := by decide +kernel
theorem dX10_spread_59 : decode cX10_spread 59 = .ok (.aload_n 0, 1) := by decide +kernel
theorem dX10_spread_60 : decode cX10_spread 60 = .ok (.getfield 15, 3) := by decide +kernel
theorem dX10_spread_63 : decode cX10_spread 63 = .ok (.iload_n 2, 1) := by decide +kernel
theorem dX10_spread_64 : decode cX10_spread 64 = .ok (.laload, 1) := by decide +kernel
theorem dX10_spread_65 : decode cX10_spread 65 = .ok (.iload 6, 2) := by decide +kernel
theorem dX10_spread_67 : decode cX10_spread 67 = .ok (.invokevirtual 51, 3) := by decide +kernel
theorem dX10_spread_70 : decode cX10_spread 70 = .ok (.goto 17, 3) := by decide +kernel
theorem dX10_spread_73 : decode cX10_spread 73 = .ok (.aload_n 0, 1) := by decide +kernel
theorem dX10_spread_74 : decode cX10_spread 74 = .ok (.iload 5, 2) := by decide +kernel
theorem dX10_spread_76 : decode cX10_spread 76 = .ok (.aload_n 0, 1) := by decide +kernel
theorem dX10_spread_77 : decode cX10_spread 77 = .ok (.getfield 15, 3) := by decide +kernel
theorem dX10_spread_80 : decode cX10_spread 80 = .ok (.iload_n 2, 1) := by decide +kernel
theorem dX10_spread_81 : decode cX10_spread 81 = .ok (.laload, 1) := by decide +kernel
theorem dX10_spread_82 : decode cX10_spread 82 = .ok (.iload 6, 2) := by decide +kernel
theorem dX10_spread_84 : decode cX10_spread 84 = .ok (.invokevirtual 55, 3) := by decide +kernel
theorem dX10_spread_87 : decode cX10_spread 87 = .ok (.iinc 4 1, 3) := by decide +kernel
theorem dX10_spread_90 : decode cX10_spread 90 = .ok (.goto (-80), 3) := by decide +kernel
theorem dX10_spread_93 : decode cX10_spread 93 = .ok (.return_, 1) := by decide +kernel
theorem dX10_reach_0 : decode cX10_reach 0 = .ok (.iload_n 1, 1) := by decide +kernel
theorem dX10_reach_1 : decode cX10_reach 1 = .ok (.ifCond .lt 9, 3) := by decide +kernel
theorem dX10_reach_4 : decode cX10_reach 4 = .ok (.iload_n 1, 1) := by decide +kernel
theorem dX10_reach_5 : decode cX10_reach 5 = .ok (.bipush 20, 2) := by decide +kernel
theorem dX10_reach_7 : decode cX10_reach 7 = .ok (.if_icmp .lt 4, 3) := by decide +kernel
theorem dX10_reach_10 : decode cX10_reach 10 = .ok (.return_, 1) := by decide +kernel
theorem dX10_reach_11 : decode cX10_reach 11 = .ok (.aload_n 0, 1) := by decide +kernel
theorem dX10_reach_12 : decode cX10_reach 12 = .ok (.getfield 25, 3) := by decide +kernel
theorem dX10_reach_15 : decode cX10_reach 15 = .ok (.iload_n 1, 1) := by decide +kernel
theorem dX10_reach_16 : decode cX10_reach 16 = .ok (.laload, 1) := by decide +kernel
theorem dX10_reach_17 : decode cX10_reach 17 = .ok (.lconst 0, 1) := by decide +kernel
theorem dX10_reach_18 : decode cX10_reach 18 = .ok (.lcmp, 1) := by decide +kernel
theorem dX10_reach_19 : decode cX10_reach 19 = .ok (.ifCond .ne 11, 3) := by decide +kernel
theorem dX10_reach_22 : decode cX10_reach 22 = .ok (.aload_n 0, 1) := by decide +kernel
theorem dX10_reach_23 : decode cX10_reach 23 = .ok (.getfield 28, 3) := by decide +kernel
theorem dX10_reach_26 : decode cX10_reach 26 = .ok (.iload_n 1, 1) := by decide +kernel
theorem dX10_reach_27 : decode cX10_reach 27 = .ok (.iload 4, 2) := by decide +kernel
theorem dX10_reach_29 : decode cX10_reach 29 = .ok (.iastore, 1) := by decide +kernel
theorem dX10_reach_30 : decode cX10_reach 30 = .ok (.aload_n 0, 1) := by decide +kernel
theorem dX10_reach_31 : decode cX10_reach 31 = .ok (.getfield 25, 3) := by decide +kernel
theorem dX10_reach_34 : decode cX10_reach 34 = .ok (.iload_n 1, 1) := by decide +kernel
theorem dX10_reach_35 : decode cX10_reach 35 = .ok (.dup2, 1) := by decide +kernel
theorem dX10_reach_36 : decode cX10_reach 36 = .ok (.laload, 1) := by decide +kernel
theorem dX10_reach_37 : decode cX10_reach 37 = .ok (.lload_n 2, 1) := by decide +kernel
theorem dX10_reach_38 : decode cX10_reach 38 = .ok (.ladd, 1) := by decide +kernel
theorem dX10_reach_39 : decode cX10_reach 39 = .ok (.lastore, 1) := by decide +kernel
theorem dX10_reach_40 : decode cX10_reach 40 = .ok (.return_, 1) := by decide +kernel
theorem dX10_arrive_0 : decode cX10_arrive 0 = .ok (.iload_n 1, 1) := by decide +kernel
theorem dX10_arrive_1 : decode cX10_arrive 1 = .ok (.invokestatic 72, 3) := by decide +kernel
theorem dX10_arrive_4 : decode cX10_arrive 4 = .ok (.istore 5, 2) := by decide +kernel
theorem dX10_arrive_6 : decode cX10_arrive 6 = .ok (.aload_n 0, 1) := by decide +kernel
theorem dX10_arrive_7 : decode cX10_arrive 7 = .ok (.getfield 22, 3) := by decide +kernel
theorem dX10_arrive_10 : decode cX10_arrive 10 = .ok (.iload 5, 2) := by decide +kernel
theorem dX10_arrive_12 : decode cX10_arrive 12 = .ok (.iaload, 1) := by decide +kernel
theorem dX10_arrive_13 : decode cX10_arrive 13 = .ok (.bipush 12, 2) := by decide +kernel
theorem dX10_arrive_15 : decode cX10_arrive 15 = .ok (.ishr, 1) := by decide +kernel
theorem dX10_arrive_16 : decode cX10_arrive 16 = .ok (.aload_n 0, 1) := by decide +kernel
theorem dX10_arrive_17 : decode cX10_arrive 17 = .ok (.getfield 31, 3) := by decide +kernel
theorem dX10_arrive_20 : decode cX10_arrive 20 = .ok (.if_icmp .eq 73, 3) := by decide +kernel
theorem dX10_arrive_23 : decode cX10_arrive 23 = .ok (.aload_n 0, 1) := by decide +kernel
theorem dX10_arrive_24 : decode cX10_arrive 24 = .ok (.getfield 35, 3) := by decide +kernel
theorem dX10_arrive_27 : decode cX10_arrive 27 = .ok (.sipush 4096, 3) := by decide +kernel
theorem dX10_arrive_30 : decode cX10_arrive 30 = .ok (.if_icmp .ge 63, 3) := by decide +kernel
theorem dX10_arrive_33 : decode cX10_arrive 33 = .ok (.aload_n 0, 1) := by decide +kernel
theorem dX10_arrive_34 : decode cX10_arrive 34 = .ok (.getfield 22, 3) := by decide +kernel
theorem dX10_arrive_37 : decode cX10_arrive 37 = .ok (.iload 5, 2) := by decide +kernel
theorem dX10_arrive_39 : decode cX10_arrive 39 = .ok (.aload_n 0, 1) := by decide +kernel
theorem dX10_arrive_40 : decode cX10_arrive 40 = .ok (.getfield 31, 3) := by decide +kernel
theorem dX10_arrive_43 : decode cX10_arrive 43 = .ok (.bipush 12, 2) := by decide +kernel
theorem dX10_arrive_45 : decode cX10_arrive 45 = .ok (.ishl, 1) := by decide +kernel
theorem dX10_arrive_46 : decode cX10_arrive 46 = .ok (.aload_n 0, 1) := by decide +kernel
theorem dX10_arrive_47 : decode cX10_arrive 47 = .ok (.getfield 35, 3) := by decide +kernel
theorem dX10_arrive_50 : decode cX10_arrive 50 = .ok (.ior, 1) := by decide +kernel
theorem dX10_arrive_51 : decode cX10_arrive 51 = .ok (.iastore, 1) := by decide +kernel
theorem dX10_arrive_52 : decode cX10_arrive 52 = .ok (.aload_n 0, 1) := by decide +kernel
theorem dX10_arrive_53 : decode cX10_arrive 53 = .ok (.getfield 9, 3) := by decide +kernel
theorem dX10_arrive_56 : decode cX10_arrive 56 = .ok (.aload_n 0, 1) := by decide +kernel
theorem dX10_arrive_57 : decode cX10_arrive 57 = .ok (.getfield 35, 3) := by decide +kernel
theorem dX10_arrive_60 : decode cX10_arrive 60 = .ok (.iload_n 1, 1) := by decide +kernel
theorem dX10_arrive_61 : decode cX10_arrive 61 = .ok (.iastore, 1) := by decide +kernel
theorem dX10_arrive_62 : decode cX10_arrive 62 = .ok (.aload_n 0, 1) := by decide +kernel
theorem dX10_arrive_63 : decode cX10_arrive 63 = .ok (.getfield 15, 3) := by decide +kernel
theorem dX10_arrive_66 : decode cX10_arrive 66 = .ok (.aload_n 0, 1) := by decide +kernel
theorem dX10_arrive_67 : decode cX10_arrive 67 = .ok (.getfield 35, 3) := by decide +kernel
theorem dX10_arrive_70 : decode cX10_arrive 70 = .ok (.lconst 0, 1) := by decide +kernel
theorem dX10_arrive_71 : decode cX10_arrive 71 = .ok (.lastore, 1) := by decide +kernel
theorem dX10_arrive_72 : decode cX10_arrive 72 = .ok (.aload_n 0, 1) := by decide +kernel
theorem dX10_arrive_73 : decode cX10_arrive 73 = .ok (.getfield 19, 3) := by decide +kernel
theorem dX10_arrive_76 : decode cX10_arrive 76 = .ok (.aload_n 0, 1) := by decide +kernel
theorem dX10_arrive_77 : decode cX10_arrive 77 = .ok (.getfield 35, 3) := by decide +kernel
theorem dX10_arrive_80 : decode cX10_arrive 80 = .ok (.iload 4, 2) := by decide +kernel
theorem dX10_arrive_82 : decode cX10_arrive 82 = .ok (.iastore, 1) := by decide +kernel
theorem dX10_arrive_83 : decode cX10_arrive 83 = .ok (.aload_n 0, 1) := by decide +kernel
theorem dX10_arrive_84 : decode cX10_arrive 84 = .ok (.dup, 1) := by decide +kernel
theorem dX10_arrive_85 : decode cX10_arrive 85 = .ok (.getfield 35, 3) := by decide +kernel
theorem dX10_arrive_88 : decode cX10_arrive 88 = .ok (.iconst 1, 1) := by decide +kernel
theorem dX10_arrive_89 : decode cX10_arrive 89 = .ok (.iadd, 1) := by decide +kernel
theorem dX10_arrive_90 : decode cX10_arrive 90 = .ok (.putfield 35, 3) := by decide +kernel
theorem dX10_arrive_93 : decode cX10_arrive 93 = .ok (.aload_n 0, 1) := by decide +kernel
theorem dX10_arrive_94 : decode cX10_arrive 94 = .ok (.getfield 15, 3) := by decide +kernel
theorem dX10_arrive_97 : decode cX10_arrive 97 = .ok (.aload_n 0, 1) := by decide +kernel
theorem dX10_arrive_98 : decode cX10_arrive 98 = .ok (.getfield 22, 3) := by decide +kernel
theorem dX10_arrive_101 : decode cX10_arrive 101 = .ok (.iload 5, 2) := by decide +kernel
theorem dX10_arrive_103 : decode cX10_arrive 103 = .ok (.iaload, 1) := by decide +kernel
theorem dX10_arrive_104 : decode cX10_arrive 104 = .ok (.sipush 4095, 3) := by decide +kernel
theorem dX10_arrive_107 : decode cX10_arrive 107 = .ok (.iand, 1) := by decide +kernel
theorem dX10_arrive_108 : decode cX10_arrive 108 = .ok (.dup2, 1) := by decide +kernel
theorem dX10_arrive_109 : decode cX10_arrive 109 = .ok (.laload, 1) := by decide +kernel
theorem dX10_arrive_110 : decode cX10_arrive 110 = .ok (.lload_n 2, 1) := by decide +kernel
theorem dX10_arrive_111 : decode cX10_arrive 111 = .ok (.ladd, 1) := by decide +kernel
theorem dX10_arrive_112 : decode cX10_arrive 112 = .ok (.lastore, 1) := by decide +kernel
theorem dX10_arrive_113 : decode cX10_arrive 113 = .ok (.return_, 1) := by decide +kernel
