theorem dX4_init_0 : decode cX4_init 0 = .ok (.aload_n 0, 1) := by decide +kernel
theorem dX4_init_1 : decode cX4_init 1 = .ok (.invokespecial 3, 3) := by decide +kernel
theorem dX4_init_4 : decode cX4_init 4 = .ok (.aload_n 0, 1) := by decide +kernel
theorem dX4_init_5 : decode cX4_init 5 = .ok (.bipush 9, 2) := by decide +kernel
theorem dX4_init_7 : decode cX4_init 7 = .ok (.newarray .int, 2) := by decide +kernel
theorem dX4_init_9 : decode cX4_init 9 = .ok (.putfield 9, 3) := by decide +kernel
theorem dX4_init_12 : decode cX4_init 12 = .ok (.aload_n 0, 1) := by decide +kernel
theorem dX4_init_13 : decode cX4_init 13 = .ok (.bipush 9, 2) := by decide +kernel
theorem dX4_init_15 : decode cX4_init 15 = .ok (.newarray .int, 2) := by decide +kernel
theorem dX4_init_17 : decode cX4_init 17 = .ok (.putfield 15, 3) := by decide +kernel
theorem dX4_init_20 : decode cX4_init 20 = .ok (.return_, 1) := by decide +kernel
theorem dX4_add_0 : decode cX4_add 0 = .ok (.aload_n 0, 1) := by decide +kernel
theorem dX4_add_1 : decode cX4_add 1 = .ok (.getfield 18, 3) := by decide +kernel
theorem dX4_add_4 : decode cX4_add 4 = .ok (.ifCond .lt 42, 3) := by decide +kernel
theorem dX4_add_7 : decode cX4_add 7 = .ok (.aload_n 0, 1) := by decide +kernel
theorem dX4_add_8 : decode cX4_add 8 = .ok (.getfield 18, 3) := by decide +kernel
theorem dX4_add_11 : decode cX4_add 11 = .ok (.bipush 9, 2) := by decide +kernel
theorem dX4_add_13 : decode cX4_add 13 = .ok (.if_icmp .ge 33, 3) := by decide +kernel
theorem dX4_add_16 : decode cX4_add 16 = .ok (.aload_n 0, 1) := by decide +kernel
theorem dX4_add_17 : decode cX4_add 17 = .ok (.getfield 9, 3) := by decide +kernel
theorem dX4_add_20 : decode cX4_add 20 = .ok (.aload_n 0, 1) := by decide +kernel
theorem dX4_add_21 : decode cX4_add 21 = .ok (.getfield 18, 3) := by decide +kernel
theorem dX4_add_24 : decode cX4_add 24 = .ok (.iload_n 1, 1) := by decide +kernel
theorem dX4_add_25 : decode cX4_add 25 = .ok (.iastore, 1) := by decide +kernel
theorem dX4_add_26 : decode cX4_add 26 = .ok (.aload_n 0, 1) := by decide +kernel
theorem dX4_add_27 : decode cX4_add 27 = .ok (.getfield 15, 3) := by decide +kernel
theorem dX4_add_30 : decode cX4_add 30 = .ok (.aload_n 0, 1) := by decide +kernel
theorem dX4_add_31 : decode cX4_add 31 = .ok (.getfield 18, 3) := by decide +kernel
theorem dX4_add_34 : decode cX4_add 34 = .ok (.iload_n 2, 1) := by decide +kernel
theorem dX4_add_35 : decode cX4_add 35 = .ok (.iastore, 1) := by decide +kernel
theorem dX4_add_36 : decode cX4_add 36 = .ok (.aload_n 0, 1) := by decide +kernel
theorem dX4_add_37 : decode cX4_add 37 = .ok (.dup, 1) := by decide +kernel
theorem dX4_add_38 : decode cX4_add 38 = .ok (.getfield 18, 3) := by decide +kernel
theorem dX4_add_41 : decode cX4_add 41 = .ok (.iconst 1, 1) := by decide +kernel
theorem dX4_add_42 : decode cX4_add 42 = .ok (.iadd, 1) := by decide +kernel
theorem dX4_add_43 : decode cX4_add 43 = .ok (.putfield 18, 3) := by decide +kernel
theorem dX4_add_46 : decode cX4_add 46 = .ok (.return_, 1) := by decide +kernel
theorem dX4_moveAt_0 : decode cX4_moveAt 0 = .ok (.iload_n 1, 1) := by decide +kernel
theorem dX4_moveAt_1 : decode cX4_moveAt 1 = .ok (.ifCond .lt 26, 3) := by decide +kernel
theorem dX4_moveAt_4 : decode cX4_moveAt 4 = .ok (.iload_n 1, 1) := by decide +kernel
theorem dX4_moveAt_5 : decode cX4_moveAt 5 = .ok (.aload_n 0, 1) := by decide +kernel
theorem dX4_moveAt_6 : decode cX4_moveAt 6 = .ok (.getfield 18, 3) := by decide +kernel
theorem dX4_moveAt_9 : decode cX4_moveAt 9 = .ok (.if_icmp .ge 18, 3) := by decide +kernel
theorem dX4_moveAt_12 : decode cX4_moveAt 12 = .ok (.iload_n 1, 1) := by decide +kernel
theorem dX4_moveAt_13 : decode cX4_moveAt 13 = .ok (.bipush 9, 2) := by decide +kernel
theorem dX4_moveAt_15 : decode cX4_moveAt 15 = .ok (.if_icmp .ge 12, 3) := by decide +kernel
theorem dX4_moveAt_18 : decode cX4_moveAt 18 = .ok (.aload_n 0, 1) := by decide +kernel
theorem dX4_moveAt_19 : decode cX4_moveAt 19 = .ok (.getfield 9, 3) := by decide +kernel
theorem dX4_moveAt_22 : decode cX4_moveAt 22 = .ok (.iload_n 1, 1) := by decide +kernel
theorem dX4_moveAt_23 : decode cX4_moveAt 23 = .ok (.iaload, 1) := by decide +kernel
theorem dX4_moveAt_24 : decode cX4_moveAt 24 = .ok (.goto 4, 3) := by decide +kernel
theorem dX4_moveAt_27 : decode cX4_moveAt 27 = .ok (.iconst (-1), 1) := by decide +kernel
theorem dX4_moveAt_28 : decode cX4_moveAt 28 = .ok (.ireturn, 1) := by decide +kernel
theorem dX4_stateAt_0 : decode cX4_stateAt 0 = .ok (.iload_n 1, 1) := by decide +kernel
theorem dX4_stateAt_1 : decode cX4_stateAt 1 = .ok (.ifCond .lt 26, 3) := by decide +kernel
theorem dX4_stateAt_4 : decode cX4_stateAt 4 = .ok (.iload_n 1, 1) := by decide +kernel
theorem dX4_stateAt_5 : decode cX4_stateAt 5 = .ok (.aload_n 0, 1) := by decide +kernel
theorem dX4_stateAt_6 : decode cX4_stateAt 6 = .ok (.getfield 18, 3) := by decide +kernel
theorem dX4_stateAt_9 : decode cX4_stateAt 9 = .ok (.if_icmp .ge 18, 3) := by decide +kernel
theorem dX4_stateAt_12 : decode cX4_stateAt 12 = .ok (.iload_n 1, 1) := by decide +kernel
theorem dX4_stateAt_13 : decode cX4_stateAt 13 = .ok (.bipush 9, 2) := by decide +kernel
theorem dX4_stateAt_15 : decode cX4_stateAt 15 = .ok (.if_icmp .ge 12, 3) := by decide +kernel
theorem dX4_stateAt_18 : decode cX4_stateAt 18 = .ok (.aload_n 0, 1) := by decide +kernel
theorem dX4_stateAt_19 : decode cX4_stateAt 19 = .ok (.getfield 15, 3) := by decide +kernel
theorem dX4_stateAt_22 : decode cX4_stateAt 22 = .ok (.iload_n 1, 1) := by decide +kernel
theorem dX4_stateAt_23 : decode cX4_stateAt 23 = .ok (.iaload, 1) := by decide +kernel
theorem dX4_stateAt_24 : decode cX4_stateAt 24 = .ok (.goto 4, 3) := by decide +kernel
theorem dX4_stateAt_27 : decode cX4_stateAt 27 = .ok (.iconst 0, 1) := by decide +kernel
theorem dX4_stateAt_28 : decode cX4_stateAt 28 = .ok (.ireturn, 1) := by decide +kernel
theorem dX4_now_0 : decode cX4_now 0 = .ok (.aload_n 0, 1) := by decide +kernel
theorem dX4_now_1 : decode cX4_now 1 = .ok (.aload_n 0, 1) := by decide +kernel
theorem dX4_now_2 : decode cX4_now 2 = .ok (.getfield 18, 3) := by decide +kernel
theorem dX4_now_5 : decode cX4_now 5 = .ok (.iconst 1, 1) := by decide +kernel
theorem dX4_now_6 : decode cX4_now 6 = .ok (.isub, 1) := by decide +kernel
theorem dX4_now_7 : decode cX4_now 7 = .ok (.invokevirtual 22, 3) := by decide +kernel
theorem dX4_now_10 : decode cX4_now 10 = .ok (.ireturn, 1) := by decide +kernel
theorem dX4_goesOn_0 : decode cX4_goesOn 0 = .ok (.aload_n 0, 1) := by decide +kernel
theorem dX4_goesOn_1 : decode cX4_goesOn 1 = .ok (.invokevirtual 26, 3) := by decide +kernel
theorem dX4_goesOn_4 : decode cX4_goesOn 4 = .ok (.invokestatic 30, 3) := by decide +kernel
theorem dX4_goesOn_7 : decode cX4_goesOn 7 = .ok (.ifCond .ne 7, 3) := by decide +kernel
theorem dX4_goesOn_10 : decode cX4_goesOn 10 = .ok (.iconst 1, 1) := by decide +kernel
theorem dX4_goesOn_11 : decode cX4_goesOn 11 = .ok (.goto 4, 3) := by decide +kernel
theorem dX4_goesOn_14 : decode cX4_goesOn 14 = .ok (.iconst 0, 1) := by decide +kernel
theorem dX4_goesOn_15 : decode cX4_goesOn 15 = .ok (.ireturn, 1) := by decide +kernel
theorem dX4_sideOf_0 : decode cX4_sideOf 0 = .ok (.iload_n 1, 1) := by decide +kernel
theorem dX4_sideOf_1 : decode cX4_sideOf 1 = .ok (.aload_n 0, 1) := by decide +kernel
theorem dX4_sideOf_2 : decode cX4_sideOf 2 = .ok (.getfield 35, 3) := by decide +kernel
theorem dX4_sideOf_5 : decode cX4_sideOf 5 = .ok (.if_icmp .ne 7, 3) := by decide +kernel
theorem dX4_sideOf_8 : decode cX4_sideOf 8 = .ok (.iconst 0, 1) := by decide +kernel
theorem dX4_sideOf_9 : decode cX4_sideOf 9 = .ok (.goto 16, 3) := by decide +kernel
theorem dX4_sideOf_12 : decode cX4_sideOf 12 = .ok (.iload_n 1, 1) := by decide +kernel
theorem dX4_sideOf_13 : decode cX4_sideOf 13 = .ok (.aload_n 0, 1) := by decide +kernel
theorem dX4_sideOf_14 : decode cX4_sideOf 14 = .ok (.getfield 38, 3) := by decide +kernel
theorem dX4_sideOf_17 : decode cX4_sideOf 17 = .ok (.if_icmp .ne 7, 3) := by decide +kernel
theorem dX4_sideOf_20 : decode cX4_sideOf 20 = .ok (.iconst 1, 1) := by decide +kernel
theorem dX4_sideOf_21 : decode cX4_sideOf 21 = .ok (.goto 4, 3) := by decide +kernel
theorem dX4_sideOf_24 : decode cX4_sideOf 24 = .ok (.iconst (-1), 1) := by decide +kernel
theorem dX4_sideOf_25 : decode cX4_sideOf 25 = .ok (.ireturn, 1) := by decide +kernel
theorem dX4_personOn_0 : decode cX4_personOn 0 = .ok (.iload_n 1, 1) := by decide +kernel
theorem dX4_personOn_1 : decode cX4_personOn 1 = .ok (.ifCond .ne 10, 3) := by decide +kernel
theorem dX4_personOn_4 : decode cX4_personOn 4 = .ok (.aload_n 0, 1) := by decide +kernel
theorem dX4_personOn_5 : decode cX4_personOn 5 = .ok (.getfield 35, 3) := by decide +kernel
theorem dX4_personOn_8 : decode cX4_personOn 8 = .ok (.goto 7, 3) := by decide +kernel
theorem dX4_personOn_11 : decode cX4_personOn 11 = .ok (.aload_n 0, 1) := by decide +kernel
theorem dX4_personOn_12 : decode cX4_personOn 12 = .ok (.getfield 38, 3) := by decide +kernel
theorem dX4_personOn_15 : decode cX4_personOn 15 = .ok (.ireturn, 1) := by decide +kernel
theorem dX4_spoken_0 : decode cX4_spoken 0 = .ok (.iconst 0, 1) := by decide +kernel
theorem dX4_spoken_1 : decode cX4_spoken 1 = .ok (.istore_n 1, 1) := by decide +kernel
theorem dX4_spoken_2 : decode cX4_spoken 2 = .ok (.iconst 0, 1) := by decide +kernel
theorem dX4_spoken_3 : decode cX4_spoken 3 = .ok (.istore_n 2, 1) := by decide +kernel
theorem dX4_spoken_4 : decode cX4_spoken 4 = .ok (.iload_n 2, 1) := by decide +kernel
theorem dX4_spoken_5 : decode cX4_spoken 5 = .ok (.aload_n 0, 1) := by decide +kernel
theorem dX4_spoken_6 : decode cX4_spoken 6 = .ok (.getfield 18, 3) := by decide +kernel
theorem dX4_spoken_9 : decode cX4_spoken 9 = .ok (.if_icmp .ge 32, 3) := by decide +kernel
theorem dX4_spoken_12 : decode cX4_spoken 12 = .ok (.iload_n 2, 1) := by decide +kernel
theorem dX4_spoken_13 : decode cX4_spoken 13 = .ok (.bipush 9, 2) := by decide +kernel
theorem dX4_spoken_15 : decode cX4_spoken 15 = .ok (.if_icmp .ge 26, 3) := by decide +kernel
theorem dX4_spoken_18 : decode cX4_spoken 18 = .ok (.aload_n 0, 1) := by decide +kernel
theorem dX4_spoken_19 : decode cX4_spoken 19 = .ok (.getfield 9, 3) := by decide +kernel
theorem dX4_spoken_22 : decode cX4_spoken 22 = .ok (.iload_n 2, 1) := by decide +kernel
theorem dX4_spoken_23 : decode cX4_spoken 23 = .ok (.iaload, 1) := by decide +kernel
theorem dX4_spoken_24 : decode cX4_spoken 24 = .ok (.bipush 8, 2) := by decide +kernel
theorem dX4_spoken_26 : decode cX4_spoken 26 = .ok (.if_icmp .ge 9, 3) := by decide +kernel
theorem dX4_spoken_29 : decode cX4_spoken 29 = .ok (.iload_n 1, 1) := by decide +kernel
theorem dX4_spoken_30 : decode cX4_spoken 30 = .ok (.iconst 1, 1) := by decide +kernel
theorem dX4_spoken_31 : decode cX4_spoken 31 = .ok (.iload_n 2, 1) := by decide +kernel
theorem dX4_spoken_32 : decode cX4_spoken 32 = .ok (.ishl, 1) := by decide +kernel
theorem dX4_spoken_33 : decode cX4_spoken 33 = .ok (.ior, 1) := by decide +kernel
theorem dX4_spoken_34 : decode cX4_spoken 34 = .ok (.istore_n 1, 1) := by decide +kernel
theorem dX4_spoken_35 : decode cX4_spoken 35 = .ok (.iinc 2 1, 3) := by decide +kernel
theorem dX4_spoken_38 : decode cX4_spoken 38 = .ok (.goto (-34), 3) := by decide +kernel
theorem dX4_spoken_41 : decode cX4_spoken 41 = .ok (.iload_n 1, 1) := by decide +kernel
theorem dX4_spoken_42 : decode cX4_spoken 42 = .ok (.ireturn, 1) := by decide +kernel
theorem dX4_copy_0 : decode cX4_copy 0 = .ok (.aload_n 0, 1) := by decide +kernel
theorem dX4_copy_1 : decode cX4_copy 1 = .ok (.aload_n 1, 1) := by decide +kernel
theorem dX4_copy_2 : decode cX4_copy 2 = .ok (.getfield 35, 3) := by decide +kernel
theorem dX4_copy_5 : decode cX4_copy 5 = .ok (.putfield 35, 3) := by decide +kernel
theorem dX4_copy_8 : decode cX4_copy 8 = .ok (.aload_n 0, 1) := by decide +kernel
theorem dX4_copy_9 : decode cX4_copy 9 = .ok (.aload_n 1, 1) := by decide +kernel
theorem dX4_copy_10 : decode cX4_copy 10 = .ok (.getfield 38, 3) := by decide +kernel
theorem dX4_copy_13 : decode cX4_copy 13 = .ok (.putfield 38, 3) := by decide +kernel
theorem dX4_copy_16 : decode cX4_copy 16 = .ok (.aload_n 0, 1) := by decide +kernel
theorem dX4_copy_17 : decode cX4_copy 17 = .ok (.aload_n 1, 1) := by decide +kernel
theorem dX4_copy_18 : decode cX4_copy 18 = .ok (.getfield 41, 3) := by decide +kernel
theorem dX4_copy_21 : decode cX4_copy 21 = .ok (.putfield 41, 3) := by decide +kernel
theorem dX4_copy_24 : decode cX4_copy 24 = .ok (.aload_n 0, 1) := by decide +kernel
theorem dX4_copy_25 : decode cX4_copy 25 = .ok (.aload_n 1, 1) := by decide +kernel
theorem dX4_copy_26 : decode cX4_copy 26 = .ok (.getfield 44, 3) := by decide +kernel
theorem dX4_copy_29 : decode cX4_copy 29 = .ok (.putfield 44, 3) := by decide +kernel
theorem dX4_copy_32 : decode cX4_copy 32 = .ok (.aload_n 0, 1) := by decide +kernel
theorem dX4_copy_33 : decode cX4_copy 33 = .ok (.aload_n 1, 1) := by decide +kernel
theorem dX4_copy_34 : decode cX4_copy 34 = .ok (.getfield 47, 3) := by decide +kernel
theorem dX4_copy_37 : decode cX4_copy 37 = .ok (.putfield 47, 3) := by decide +kernel
theorem dX4_copy_40 : decode cX4_copy 40 = .ok (.aload_n 0, 1) := by decide +kernel
theorem dX4_copy_41 : decode cX4_copy 41 = .ok (.aload_n 1, 1) := by decide +kernel
theorem dX4_copy_42 : decode cX4_copy 42 = .ok (.getfield 18, 3) := by decide +kernel
theorem dX4_copy_45 : decode cX4_copy 45 = .ok (.putfield 18, 3) := by decide +kernel
theorem dX4_copy_48 : decode cX4_copy 48 = .ok (.iconst 0, 1) := by decide +kernel
theorem dX4_copy_49 : decode cX4_copy 49 = .ok (.istore_n 2, 1) := by decide +kernel
theorem dX4_copy_50 : decode cX4_copy 50 = .ok (.iload_n 2, 1) := by decide +kernel
theorem dX4_copy_51 : decode cX4_copy 51 = .ok (.bipush 9, 2) := by decide +kernel
theorem dX4_copy_53 : decode cX4_copy 53 = .ok (.if_icmp .ge 33, 3) := by decide +kernel
theorem dX4_copy_56 : decode cX4_copy 56 = .ok (.aload_n 0, 1) := by decide +kernel
theorem dX4_copy_57 : decode cX4_copy 57 = .ok (.getfield 9, 3) := by decide +kernel
theorem dX4_copy_60 : decode cX4_copy 60 = .ok (.iload_n 2, 1) := by decide +kernel
theorem dX4_copy_61 : decode cX4_copy 61 = .ok (.aload_n 1, 1) := by decide +kernel
theorem dX4_copy_62 : decode cX4_copy 62 = .ok (.getfield 9, 3) := by decide +kernel
theorem dX4_copy_65 : decode cX4_copy 65 = .ok (.iload_n 2, 1) := by decide +kernel
theorem dX4_copy_66 : decode cX4_copy 66 = .ok (.iaload, 1) := by decide +kernel
theorem dX4_copy_67 : decode cX4_copy 67 = .ok (.iastore, 1) := by decide +kernel
theorem dX4_copy_68 : decode cX4_copy 68 = .ok (.aload_n 0, 1) := by decide +kernel
theorem dX4_copy_69 : decode cX4_copy 69 = .ok (.getfield 15, 3) := by decide +kernel
theorem dX4_copy_72 : decode cX4_copy 72 = .ok (.iload_n 2, 1) := by decide +kernel
theorem dX4_copy_73 : decode cX4_copy 73 = .ok (.aload_n 1, 1) := by decide +kernel
theorem dX4_copy_74 : decode cX4_copy 74 = .ok (.getfield 15, 3) := by decide +kernel
theorem dX4_copy_77 : decode cX4_copy 77 = .ok (.iload_n 2, 1) := by decide +kernel
theorem dX4_copy_78 : decode cX4_copy 78 = .ok (.iaload, 1) := by decide +kernel
theorem dX4_copy_79 : decode cX4_copy 79 = .ok (.iastore, 1) := by decide +kernel
theorem dX4_copy_80 : decode cX4_copy 80 = .ok (.iinc 2 1, 3) := by decide +kernel
theorem dX4_copy_83 : decode cX4_copy 83 = .ok (.goto (-33), 3) := by decide +kernel
theorem dX4_copy_86 : decode cX4_copy 86 = .ok (.return_, 1) := by decide +kernel
