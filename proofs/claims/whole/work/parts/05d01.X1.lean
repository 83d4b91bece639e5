theorem dX1_init_0 : decode cX1_init 0 = .ok (.aload_n 0, 1) := by decide +kernel
theorem dX1_init_1 : decode cX1_init 1 = .ok (.invokespecial 3, 3) := by decide +kernel
theorem dX1_init_4 : decode cX1_init 4 = .ok (.aload_n 0, 1) := by decide +kernel
theorem dX1_init_5 : decode cX1_init 5 = .ok (.bipush 12, 2) := by decide +kernel
theorem dX1_init_7 : decode cX1_init 7 = .ok (.newarray .int, 2) := by decide +kernel
theorem dX1_init_9 : decode cX1_init 9 = .ok (.putfield 9, 3) := by decide +kernel
theorem dX1_init_12 : decode cX1_init 12 = .ok (.aload_n 0, 1) := by decide +kernel
theorem dX1_init_13 : decode cX1_init 13 = .ok (.bipush 12, 2) := by decide +kernel
theorem dX1_init_15 : decode cX1_init 15 = .ok (.newarray .int, 2) := by decide +kernel
theorem dX1_init_17 : decode cX1_init 17 = .ok (.putfield 15, 3) := by decide +kernel
theorem dX1_init_20 : decode cX1_init 20 = .ok (.aload_n 0, 1) := by decide +kernel
theorem dX1_init_21 : decode cX1_init 21 = .ok (.bipush 12, 2) := by decide +kernel
theorem dX1_init_23 : decode cX1_init 23 = .ok (.newarray .int, 2) := by decide +kernel
theorem dX1_init_25 : decode cX1_init 25 = .ok (.putfield 18, 3) := by decide +kernel
theorem dX1_init_28 : decode cX1_init 28 = .ok (.aload_n 0, 1) := by decide +kernel
theorem dX1_init_29 : decode cX1_init 29 = .ok (.bipush 12, 2) := by decide +kernel
theorem dX1_init_31 : decode cX1_init 31 = .ok (.newarray .int, 2) := by decide +kernel
theorem dX1_init_33 : decode cX1_init 33 = .ok (.putfield 21, 3) := by decide +kernel
theorem dX1_init_36 : decode cX1_init 36 = .ok (.aload_n 0, 1) := by decide +kernel
theorem dX1_init_37 : decode cX1_init 37 = .ok (.bipush 12, 2) := by decide +kernel
theorem dX1_init_39 : decode cX1_init 39 = .ok (.newarray .int, 2) := by decide +kernel
theorem dX1_init_41 : decode cX1_init 41 = .ok (.putfield 24, 3) := by decide +kernel
theorem dX1_init_44 : decode cX1_init 44 = .ok (.aload_n 0, 1) := by decide +kernel
theorem dX1_init_45 : decode cX1_init 45 = .ok (.bipush 24, 2) := by decide +kernel
theorem dX1_init_47 : decode cX1_init 47 = .ok (.anewarray 27, 3) := by decide +kernel
theorem dX1_init_50 : decode cX1_init 50 = .ok (.putfield 29, 3) := by decide +kernel
theorem dX1_init_53 : decode cX1_init 53 = .ok (.iconst 0, 1) := by decide +kernel
theorem dX1_init_54 : decode cX1_init 54 = .ok (.istore_n 1, 1) := by decide +kernel
theorem dX1_init_55 : decode cX1_init 55 = .ok (.iload_n 1, 1) := by decide +kernel
theorem dX1_init_56 : decode cX1_init 56 = .ok (.bipush 24, 2) := by decide +kernel
theorem dX1_init_58 : decode cX1_init 58 = .ok (.if_icmp .ge 22, 3) := by decide +kernel
theorem dX1_init_61 : decode cX1_init 61 = .ok (.aload_n 0, 1) := by decide +kernel
theorem dX1_init_62 : decode cX1_init 62 = .ok (.getfield 29, 3) := by decide +kernel
theorem dX1_init_65 : decode cX1_init 65 = .ok (.iload_n 1, 1) := by decide +kernel
theorem dX1_init_66 : decode cX1_init 66 = .ok (.new 27, 3) := by decide +kernel
theorem dX1_init_69 : decode cX1_init 69 = .ok (.dup, 1) := by decide +kernel
theorem dX1_init_70 : decode cX1_init 70 = .ok (.invokespecial 33, 3) := by decide +kernel
theorem dX1_init_73 : decode cX1_init 73 = .ok (.aastore, 1) := by decide +kernel
theorem dX1_init_74 : decode cX1_init 74 = .ok (.iinc 1 1, 3) := by decide +kernel
theorem dX1_init_77 : decode cX1_init 77 = .ok (.goto (-22), 3) := by decide +kernel
theorem dX1_init_80 : decode cX1_init 80 = .ok (.return_, 1) := by decide +kernel
theorem dX1_addPerson_0 : decode cX1_addPerson 0 = .ok (.aload_n 0, 1) := by decide +kernel
theorem dX1_addPerson_1 : decode cX1_addPerson 1 = .ok (.getfield 34, 3) := by decide +kernel
theorem dX1_addPerson_4 : decode cX1_addPerson 4 = .ok (.istore 4, 2) := by decide +kernel
theorem dX1_addPerson_6 : decode cX1_addPerson 6 = .ok (.iload 4, 2) := by decide +kernel
theorem dX1_addPerson_8 : decode cX1_addPerson 8 = .ok (.ifCond .lt 10, 3) := by decide +kernel
theorem dX1_addPerson_11 : decode cX1_addPerson 11 = .ok (.iload 4, 2) := by decide +kernel
theorem dX1_addPerson_13 : decode cX1_addPerson 13 = .ok (.bipush 12, 2) := by decide +kernel
theorem dX1_addPerson_15 : decode cX1_addPerson 15 = .ok (.if_icmp .lt 5, 3) := by decide +kernel
theorem dX1_addPerson_18 : decode cX1_addPerson 18 = .ok (.iconst (-1), 1) := by decide +kernel
theorem dX1_addPerson_19 : decode cX1_addPerson 19 = .ok (.ireturn, 1) := by decide +kernel
theorem dX1_addPerson_20 : decode cX1_addPerson 20 = .ok (.aload_n 0, 1) := by decide +kernel
theorem dX1_addPerson_21 : decode cX1_addPerson 21 = .ok (.getfield 9, 3) := by decide +kernel
theorem dX1_addPerson_24 : decode cX1_addPerson 24 = .ok (.iload 4, 2) := by decide +kernel
theorem dX1_addPerson_26 : decode cX1_addPerson 26 = .ok (.iload_n 1, 1) := by decide +kernel
theorem dX1_addPerson_27 : decode cX1_addPerson 27 = .ok (.iastore, 1) := by decide +kernel
theorem dX1_addPerson_28 : decode cX1_addPerson 28 = .ok (.aload_n 0, 1) := by decide +kernel
theorem dX1_addPerson_29 : decode cX1_addPerson 29 = .ok (.getfield 15, 3) := by decide +kernel
theorem dX1_addPerson_32 : decode cX1_addPerson 32 = .ok (.iload 4, 2) := by decide +kernel
theorem dX1_addPerson_34 : decode cX1_addPerson 34 = .ok (.iload_n 2, 1) := by decide +kernel
theorem dX1_addPerson_35 : decode cX1_addPerson 35 = .ok (.iastore, 1) := by decide +kernel
theorem dX1_addPerson_36 : decode cX1_addPerson 36 = .ok (.aload_n 0, 1) := by decide +kernel
theorem dX1_addPerson_37 : decode cX1_addPerson 37 = .ok (.getfield 18, 3) := by decide +kernel
theorem dX1_addPerson_40 : decode cX1_addPerson 40 = .ok (.iload 4, 2) := by decide +kernel
theorem dX1_addPerson_42 : decode cX1_addPerson 42 = .ok (.iload_n 3, 1) := by decide +kernel
theorem dX1_addPerson_43 : decode cX1_addPerson 43 = .ok (.iastore, 1) := by decide +kernel
theorem dX1_addPerson_44 : decode cX1_addPerson 44 = .ok (.aload_n 0, 1) := by decide +kernel
theorem dX1_addPerson_45 : decode cX1_addPerson 45 = .ok (.getfield 21, 3) := by decide +kernel
theorem dX1_addPerson_48 : decode cX1_addPerson 48 = .ok (.iload 4, 2) := by decide +kernel
theorem dX1_addPerson_50 : decode cX1_addPerson 50 = .ok (.iconst (-1), 1) := by decide +kernel
theorem dX1_addPerson_51 : decode cX1_addPerson 51 = .ok (.iastore, 1) := by decide +kernel
theorem dX1_addPerson_52 : decode cX1_addPerson 52 = .ok (.aload_n 0, 1) := by decide +kernel
theorem dX1_addPerson_53 : decode cX1_addPerson 53 = .ok (.getfield 24, 3) := by decide +kernel
theorem dX1_addPerson_56 : decode cX1_addPerson 56 = .ok (.iload 4, 2) := by decide +kernel
theorem dX1_addPerson_58 : decode cX1_addPerson 58 = .ok (.iconst 0, 1) := by decide +kernel
theorem dX1_addPerson_59 : decode cX1_addPerson 59 = .ok (.iastore, 1) := by decide +kernel
theorem dX1_addPerson_60 : decode cX1_addPerson 60 = .ok (.aload_n 0, 1) := by decide +kernel
theorem dX1_addPerson_61 : decode cX1_addPerson 61 = .ok (.dup, 1) := by decide +kernel
theorem dX1_addPerson_62 : decode cX1_addPerson 62 = .ok (.getfield 34, 3) := by decide +kernel
theorem dX1_addPerson_65 : decode cX1_addPerson 65 = .ok (.iconst 1, 1) := by decide +kernel
theorem dX1_addPerson_66 : decode cX1_addPerson 66 = .ok (.iadd, 1) := by decide +kernel
theorem dX1_addPerson_67 : decode cX1_addPerson 67 = .ok (.putfield 34, 3) := by decide +kernel
theorem dX1_addPerson_70 : decode cX1_addPerson 70 = .ok (.iload 4, 2) := by decide +kernel
theorem dX1_addPerson_72 : decode cX1_addPerson 72 = .ok (.ireturn, 1) := by decide +kernel
theorem dX1_hasPerson_0 : decode cX1_hasPerson 0 = .ok (.iload_n 1, 1) := by decide +kernel
theorem dX1_hasPerson_1 : decode cX1_hasPerson 1 = .ok (.ifCond .lt 21, 3) := by decide +kernel
theorem dX1_hasPerson_4 : decode cX1_hasPerson 4 = .ok (.iload_n 1, 1) := by decide +kernel
theorem dX1_hasPerson_5 : decode cX1_hasPerson 5 = .ok (.aload_n 0, 1) := by decide +kernel
theorem dX1_hasPerson_6 : decode cX1_hasPerson 6 = .ok (.getfield 34, 3) := by decide +kernel
theorem dX1_hasPerson_9 : decode cX1_hasPerson 9 = .ok (.if_icmp .ge 13, 3) := by decide +kernel
theorem dX1_hasPerson_12 : decode cX1_hasPerson 12 = .ok (.iload_n 1, 1) := by decide +kernel
theorem dX1_hasPerson_13 : decode cX1_hasPerson 13 = .ok (.bipush 12, 2) := by decide +kernel
theorem dX1_hasPerson_15 : decode cX1_hasPerson 15 = .ok (.if_icmp .ge 7, 3) := by decide +kernel
theorem dX1_hasPerson_18 : decode cX1_hasPerson 18 = .ok (.iconst 1, 1) := by decide +kernel
theorem dX1_hasPerson_19 : decode cX1_hasPerson 19 = .ok (.goto 4, 3) := by decide +kernel
theorem dX1_hasPerson_22 : decode cX1_hasPerson 22 = .ok (.iconst 0, 1) := by decide +kernel
theorem dX1_hasPerson_23 : decode cX1_hasPerson 23 = .ok (.ireturn, 1) := by decide +kernel
theorem dX1_ageOf_0 : decode cX1_ageOf 0 = .ok (.aload_n 0, 1) := by decide +kernel
theorem dX1_ageOf_1 : decode cX1_ageOf 1 = .ok (.iload_n 1, 1) := by decide +kernel
theorem dX1_ageOf_2 : decode cX1_ageOf 2 = .ok (.invokevirtual 38, 3) := by decide +kernel
theorem dX1_ageOf_5 : decode cX1_ageOf 5 = .ok (.ifCond .eq 12, 3) := by decide +kernel
theorem dX1_ageOf_8 : decode cX1_ageOf 8 = .ok (.aload_n 0, 1) := by decide +kernel
theorem dX1_ageOf_9 : decode cX1_ageOf 9 = .ok (.getfield 9, 3) := by decide +kernel
theorem dX1_ageOf_12 : decode cX1_ageOf 12 = .ok (.iload_n 1, 1) := by decide +kernel
theorem dX1_ageOf_13 : decode cX1_ageOf 13 = .ok (.iaload, 1) := by decide +kernel
theorem dX1_ageOf_14 : decode cX1_ageOf 14 = .ok (.goto 4, 3) := by decide +kernel
theorem dX1_ageOf_17 : decode cX1_ageOf 17 = .ok (.iconst 0, 1) := by decide +kernel
theorem dX1_ageOf_18 : decode cX1_ageOf 18 = .ok (.ireturn, 1) := by decide +kernel
theorem dX1_rankOf_0 : decode cX1_rankOf 0 = .ok (.aload_n 0, 1) := by decide +kernel
theorem dX1_rankOf_1 : decode cX1_rankOf 1 = .ok (.iload_n 1, 1) := by decide +kernel
theorem dX1_rankOf_2 : decode cX1_rankOf 2 = .ok (.invokevirtual 38, 3) := by decide +kernel
theorem dX1_rankOf_5 : decode cX1_rankOf 5 = .ok (.ifCond .eq 12, 3) := by decide +kernel
theorem dX1_rankOf_8 : decode cX1_rankOf 8 = .ok (.aload_n 0, 1) := by decide +kernel
theorem dX1_rankOf_9 : decode cX1_rankOf 9 = .ok (.getfield 15, 3) := by decide +kernel
theorem dX1_rankOf_12 : decode cX1_rankOf 12 = .ok (.iload_n 1, 1) := by decide +kernel
theorem dX1_rankOf_13 : decode cX1_rankOf 13 = .ok (.iaload, 1) := by decide +kernel
theorem dX1_rankOf_14 : decode cX1_rankOf 14 = .ok (.goto 4, 3) := by decide +kernel
theorem dX1_rankOf_17 : decode cX1_rankOf 17 = .ok (.iconst 0, 1) := by decide +kernel
theorem dX1_rankOf_18 : decode cX1_rankOf 18 = .ok (.ireturn, 1) := by decide +kernel
theorem dX1_houseOf_0 : decode cX1_houseOf 0 = .ok (.aload_n 0, 1) := by decide +kernel
theorem dX1_houseOf_1 : decode cX1_houseOf 1 = .ok (.iload_n 1, 1) := by decide +kernel
theorem dX1_houseOf_2 : decode cX1_houseOf 2 = .ok (.invokevirtual 38, 3) := by decide +kernel
theorem dX1_houseOf_5 : decode cX1_houseOf 5 = .ok (.ifCond .eq 12, 3) := by decide +kernel
theorem dX1_houseOf_8 : decode cX1_houseOf 8 = .ok (.aload_n 0, 1) := by decide +kernel
theorem dX1_houseOf_9 : decode cX1_houseOf 9 = .ok (.getfield 18, 3) := by decide +kernel
theorem dX1_houseOf_12 : decode cX1_houseOf 12 = .ok (.iload_n 1, 1) := by decide +kernel
theorem dX1_houseOf_13 : decode cX1_houseOf 13 = .ok (.iaload, 1) := by decide +kernel
theorem dX1_houseOf_14 : decode cX1_houseOf 14 = .ok (.goto 4, 3) := by decide +kernel
theorem dX1_houseOf_17 : decode cX1_houseOf 17 = .ok (.iconst 0, 1) := by decide +kernel
theorem dX1_houseOf_18 : decode cX1_houseOf 18 = .ok (.ireturn, 1) := by decide +kernel
theorem dX1_codeOf_0 : decode cX1_codeOf 0 = .ok (.aload_n 0, 1) := by decide +kernel
theorem dX1_codeOf_1 : decode cX1_codeOf 1 = .ok (.iload_n 1, 1) := by decide +kernel
theorem dX1_codeOf_2 : decode cX1_codeOf 2 = .ok (.invokevirtual 38, 3) := by decide +kernel
theorem dX1_codeOf_5 : decode cX1_codeOf 5 = .ok (.ifCond .eq 12, 3) := by decide +kernel
theorem dX1_codeOf_8 : decode cX1_codeOf 8 = .ok (.aload_n 0, 1) := by decide +kernel
theorem dX1_codeOf_9 : decode cX1_codeOf 9 = .ok (.getfield 21, 3) := by decide +kernel
theorem dX1_codeOf_12 : decode cX1_codeOf 12 = .ok (.iload_n 1, 1) := by decide +kernel
theorem dX1_codeOf_13 : decode cX1_codeOf 13 = .ok (.iaload, 1) := by decide +kernel
theorem dX1_codeOf_14 : decode cX1_codeOf 14 = .ok (.goto 4, 3) := by decide +kernel
theorem dX1_codeOf_17 : decode cX1_codeOf 17 = .ok (.iconst (-1), 1) := by decide +kernel
theorem dX1_codeOf_18 : decode cX1_codeOf 18 = .ok (.ireturn, 1) := by decide +kernel
theorem dX1_setCode_0 : decode cX1_setCode 0 = .ok (.aload_n 0, 1) := by decide +kernel
theorem dX1_setCode_1 : decode cX1_setCode 1 = .ok (.iload_n 1, 1) := by decide +kernel
theorem dX1_setCode_2 : decode cX1_setCode 2 = .ok (.invokevirtual 38, 3) := by decide +kernel
theorem dX1_setCode_5 : decode cX1_setCode 5 = .ok (.ifCond .eq 10, 3) := by decide +kernel
theorem dX1_setCode_8 : decode cX1_setCode 8 = .ok (.aload_n 0, 1) := by decide +kernel
theorem dX1_setCode_9 : decode cX1_setCode 9 = .ok (.getfield 21, 3) := by decide +kernel
theorem dX1_setCode_12 : decode cX1_setCode 12 = .ok (.iload_n 1, 1) := by decide +kernel
theorem dX1_setCode_13 : decode cX1_setCode 13 = .ok (.iload_n 2, 1) := by decide +kernel
theorem dX1_setCode_14 : decode cX1_setCode 14 = .ok (.iastore, 1) := by decide +kernel
theorem dX1_setCode_15 : decode cX1_setCode 15 = .ok (.return_, 1) := by decide +kernel
theorem dX1_isOwing_0 : decode cX1_isOwing 0 = .ok (.aload_n 0, 1) := by decide +kernel
theorem dX1_isOwing_1 : decode cX1_isOwing 1 = .ok (.iload_n 1, 1) := by decide +kernel
theorem dX1_isOwing_2 : decode cX1_isOwing 2 = .ok (.invokevirtual 38, 3) := by decide +kernel
theorem dX1_isOwing_5 : decode cX1_isOwing 5 = .ok (.ifCond .eq 29, 3) := by decide +kernel
theorem dX1_isOwing_8 : decode cX1_isOwing 8 = .ok (.aload_n 0, 1) := by decide +kernel
theorem dX1_isOwing_9 : decode cX1_isOwing 9 = .ok (.iload_n 2, 1) := by decide +kernel
theorem dX1_isOwing_10 : decode cX1_isOwing 10 = .ok (.invokevirtual 38, 3) := by decide +kernel
theorem dX1_isOwing_13 : decode cX1_isOwing 13 = .ok (.ifCond .eq 21, 3) := by decide +kernel
theorem dX1_isOwing_16 : decode cX1_isOwing 16 = .ok (.aload_n 0, 1) := by decide +kernel
theorem dX1_isOwing_17 : decode cX1_isOwing 17 = .ok (.getfield 24, 3) := by decide +kernel
theorem dX1_isOwing_20 : decode cX1_isOwing 20 = .ok (.iload_n 1, 1) := by decide +kernel
theorem dX1_isOwing_21 : decode cX1_isOwing 21 = .ok (.iaload, 1) := by decide +kernel
theorem dX1_isOwing_22 : decode cX1_isOwing 22 = .ok (.iload_n 2, 1) := by decide +kernel
theorem dX1_isOwing_23 : decode cX1_isOwing 23 = .ok (.ishr, 1) := by decide +kernel
theorem dX1_isOwing_24 : decode cX1_isOwing 24 = .ok (.iconst 1, 1) := by decide +kernel
theorem dX1_isOwing_25 : decode cX1_isOwing 25 = .ok (.iand, 1) := by decide +kernel
theorem dX1_isOwing_26 : decode cX1_isOwing 26 = .ok (.iconst 1, 1) := by decide +kernel
theorem dX1_isOwing_27 : decode cX1_isOwing 27 = .ok (.if_icmp .ne 7, 3) := by decide +kernel
theorem dX1_isOwing_30 : decode cX1_isOwing 30 = .ok (.iconst 1, 1) := by decide +kernel
theorem dX1_isOwing_31 : decode cX1_isOwing 31 = .ok (.goto 4, 3) := by decide +kernel
theorem dX1_isOwing_34 : decode cX1_isOwing 34 = .ok (.iconst 0, 1) := by decide +kernel
theorem dX1_isOwing_35 : decode cX1_isOwing 35 = .ok (.ireturn, 1) := by decide +kernel
theorem dX1_setOwing_0 : decode cX1_setOwing 0 = .ok (.aload_n 0, 1) := by decide +kernel
theorem dX1_setOwing_1 : decode cX1_setOwing 1 = .ok (.iload_n 1, 1) := by decide +kernel
theorem dX1_setOwing_2 : decode cX1_setOwing 2 = .ok (.invokevirtual 38, 3) := by decide +kernel
theorem dX1_setOwing_5 : decode cX1_setOwing 5 = .ok (.ifCond .eq 49, 3) := by decide +kernel
theorem dX1_setOwing_8 : decode cX1_setOwing 8 = .ok (.aload_n 0, 1) := by decide +kernel
theorem dX1_setOwing_9 : decode cX1_setOwing 9 = .ok (.iload_n 2, 1) := by decide +kernel
theorem dX1_setOwing_10 : decode cX1_setOwing 10 = .ok (.invokevirtual 38, 3) := by decide +kernel
theorem dX1_setOwing_13 : decode cX1_setOwing 13 = .ok (.ifCond .eq 41, 3) := by decide +kernel
theorem dX1_setOwing_16 : decode cX1_setOwing 16 = .ok (.iconst 1, 1) := by decide +kernel
theorem dX1_setOwing_17 : decode cX1_setOwing 17 = .ok (.iload_n 2, 1) := by decide +kernel
theorem dX1_setOwing_18 : decode cX1_setOwing 18 = .ok (.ishl, 1) := by decide +kernel
theorem dX1_setOwing_19 : decode cX1_setOwing 19 = .ok (.istore 4, 2) := by decide +kernel
theorem dX1_setOwing_21 : decode cX1_setOwing 21 = .ok (.aload_n 0, 1) := by decide +kernel
theorem dX1_setOwing_22 : decode cX1_setOwing 22 = .ok (.getfield 24, 3) := by decide +kernel
theorem dX1_setOwing_25 : decode cX1_setOwing 25 = .ok (.iload_n 1, 1) := by decide +kernel
theorem dX1_setOwing_26 : decode cX1_setOwing 26 = .ok (.iload_n 3, 1) := by decide +kernel
theorem dX1_setOwing_27 : decode cX1_setOwing 27 = .ok (.ifCond .eq 15, 3) := by decide +kernel
theorem dX1_setOwing_30 : decode cX1_setOwing 30 = .ok (.aload_n 0, 1) := by decide +kernel
theorem dX1_setOwing_31 : decode cX1_setOwing 31 = .ok (.getfield 24, 3) := by decide +kernel
theorem dX1_setOwing_34 : decode cX1_setOwing 34 = .ok (.iload_n 1, 1) := by decide +kernel
theorem dX1_setOwing_35 : decode cX1_setOwing 35 = .ok (.iaload, 1) := by decide +kernel
theorem dX1_setOwing_36 : decode cX1_setOwing 36 = .ok (.iload 4, 2) := by decide +kernel
theorem dX1_setOwing_38 : decode cX1_setOwing 38 = .ok (.ior, 1) := by decide +kernel
theorem dX1_setOwing_39 : decode cX1_setOwing 39 = .ok (.goto 14, 3) := by decide +kernel
theorem dX1_setOwing_42 : decode cX1_setOwing 42 = .ok (.aload_n 0, 1) := by decide +kernel
theorem dX1_setOwing_43 : decode cX1_setOwing 43 = .ok (.getfield 24, 3) := by decide +kernel
theorem dX1_setOwing_46 : decode cX1_setOwing 46 = .ok (.iload_n 1, 1) := by decide +kernel
theorem dX1_setOwing_47 : decode cX1_setOwing 47 = .ok (.iaload, 1) := by decide +kernel
theorem dX1_setOwing_48 : decode cX1_setOwing 48 = .ok (.iload 4, 2) := by decide +kernel
theorem dX1_setOwing_50 : decode cX1_setOwing 50 = .ok (.iconst (-1), 1) := by decide +kernel
theorem dX1_setOwing_51 : decode cX1_setOwing 51 = .ok (.ixor, 1) := by decide +kernel
theorem dX1_setOwing_52 : decode cX1_setOwing 52 = .ok (.iand, 1) := by decide +kernel
theorem dX1_setOwing_53 : decode cX1_setOwing 53 = .ok (.iastore, 1) := by decide +kernel
theorem dX1_setOwing_54 : decode cX1_setOwing 54 = .ok (.return_, 1) := by decide +kernel
theorem dX1_addQuarrel_0 : decode cX1_addQuarrel 0 = .ok (.aload_n 0, 1) := by decide +kernel
theorem dX1_addQuarrel_1 : decode cX1_addQuarrel 1 = .ok (.getfield 42, 3) := by decide +kernel
theorem dX1_addQuarrel_4 : decode cX1_addQuarrel 4 = .ok (.istore 4, 2) := by decide +kernel
theorem dX1_addQuarrel_6 : decode cX1_addQuarrel 6 = .ok (.iload 4, 2) := by decide +kernel
theorem dX1_addQuarrel_8 : decode cX1_addQuarrel 8 = .ok (.ifCond .lt 10, 3) := by decide +kernel
theorem dX1_addQuarrel_11 : decode cX1_addQuarrel 11 = .ok (.iload 4, 2) := by decide +kernel
theorem dX1_addQuarrel_13 : decode cX1_addQuarrel 13 = .ok (.bipush 24, 2) := by decide +kernel
theorem dX1_addQuarrel_15 : decode cX1_addQuarrel 15 = .ok (.if_icmp .lt 5, 3) := by decide +kernel
theorem dX1_addQuarrel_18 : decode cX1_addQuarrel 18 = .ok (.iconst (-1), 1) := by decide +kernel
theorem dX1_addQuarrel_19 : decode cX1_addQuarrel 19 = .ok (.ireturn, 1) := by decide +kernel
theorem dX1_addQuarrel_20 : decode cX1_addQuarrel 20 = .ok (.aload_n 0, 1) := by decide +kernel
theorem dX1_addQuarrel_21 : decode cX1_addQuarrel 21 = .ok (.getfield 29, 3) := by decide +kernel
theorem dX1_addQuarrel_24 : decode cX1_addQuarrel 24 = .ok (.iload 4, 2) := by decide +kernel
theorem dX1_addQuarrel_26 : decode cX1_addQuarrel 26 = .ok (.aaload, 1) := by decide +kernel
theorem dX1_addQuarrel_27 : decode cX1_addQuarrel 27 = .ok (.astore 5, 2) := by decide +kernel
theorem dX1_addQuarrel_29 : decode cX1_addQuarrel 29 = .ok (.aload 5, 2) := by decide +kernel
theorem dX1_addQuarrel_31 : decode cX1_addQuarrel 31 = .ok (.iload_n 1, 1) := by decide +kernel
theorem dX1_addQuarrel_32 : decode cX1_addQuarrel 32 = .ok (.putfield 45, 3) := by decide +kernel
theorem dX1_addQuarrel_35 : decode cX1_addQuarrel 35 = .ok (.aload 5, 2) := by decide +kernel
theorem dX1_addQuarrel_37 : decode cX1_addQuarrel 37 = .ok (.iload_n 2, 1) := by decide +kernel
theorem dX1_addQuarrel_38 : decode cX1_addQuarrel 38 = .ok (.putfield 48, 3) := by decide +kernel
theorem dX1_addQuarrel_41 : decode cX1_addQuarrel 41 = .ok (.aload 5, 2) := by decide +kernel
theorem dX1_addQuarrel_43 : decode cX1_addQuarrel 43 = .ok (.aload_n 0, 1) := by decide +kernel
theorem dX1_addQuarrel_44 : decode cX1_addQuarrel 44 = .ok (.iload_n 1, 1) := by decide +kernel
theorem dX1_addQuarrel_45 : decode cX1_addQuarrel 45 = .ok (.invokevirtual 51, 3) := by decide +kernel
theorem dX1_addQuarrel_48 : decode cX1_addQuarrel 48 = .ok (.putfield 55, 3) := by decide +kernel
theorem dX1_addQuarrel_51 : decode cX1_addQuarrel 51 = .ok (.aload 5, 2) := by decide +kernel
theorem dX1_addQuarrel_53 : decode cX1_addQuarrel 53 = .ok (.aload_n 0, 1) := by decide +kernel
theorem dX1_addQuarrel_54 : decode cX1_addQuarrel 54 = .ok (.iload_n 2, 1) := by decide +kernel
theorem dX1_addQuarrel_55 : decode cX1_addQuarrel 55 = .ok (.invokevirtual 51, 3) := by decide +kernel
theorem dX1_addQuarrel_58 : decode cX1_addQuarrel 58 = .ok (.putfield 58, 3) := by decide +kernel
theorem dX1_addQuarrel_61 : decode cX1_addQuarrel 61 = .ok (.aload 5, 2) := by decide +kernel
theorem dX1_addQuarrel_63 : decode cX1_addQuarrel 63 = .ok (.iload_n 3, 1) := by decide +kernel
theorem dX1_addQuarrel_64 : decode cX1_addQuarrel 64 = .ok (.putfield 61, 3) := by decide +kernel
theorem dX1_addQuarrel_67 : decode cX1_addQuarrel 67 = .ok (.aload 5, 2) := by decide +kernel
theorem dX1_addQuarrel_69 : decode cX1_addQuarrel 69 = .ok (.iconst 0, 1) := by decide +kernel
theorem dX1_addQuarrel_70 : decode cX1_addQuarrel 70 = .ok (.putfield 64, 3) := by decide +kernel
theorem dX1_addQuarrel_73 : decode cX1_addQuarrel 73 = .ok (.aload_n 0, 1) := by decide +kernel
theorem dX1_addQuarrel_74 : decode cX1_addQuarrel 74 = .ok (.dup, 1) := by decide +kernel
theorem dX1_addQuarrel_75 : decode cX1_addQuarrel 75 = .ok (.getfield 42, 3) := by decide +kernel
theorem dX1_addQuarrel_78 : decode cX1_addQuarrel 78 = .ok (.iconst 1, 1) := by decide +kernel
theorem dX1_addQuarrel_79 : decode cX1_addQuarrel 79 = .ok (.iadd, 1) := by decide +kernel
theorem dX1_addQuarrel_80 : decode cX1_addQuarrel 80 = .ok (.putfield 42, 3) := by decide +kernel
theorem dX1_addQuarrel_83 : decode cX1_addQuarrel 83 = .ok (.iload 4, 2) := by decide +kernel
theorem dX1_addQuarrel_85 : decode cX1_addQuarrel 85 = .ok (.ireturn, 1) := by decide +kernel
theorem dX1_quarrelAt_0 : decode cX1_quarrelAt 0 = .ok (.iload_n 1, 1) := by decide +kernel
theorem dX1_quarrelAt_1 : decode cX1_quarrelAt 1 = .ok (.ifCond .lt 26, 3) := by decide +kernel
theorem dX1_quarrelAt_4 : decode cX1_quarrelAt 4 = .ok (.iload_n 1, 1) := by decide +kernel
theorem dX1_quarrelAt_5 : decode cX1_quarrelAt 5 = .ok (.aload_n 0, 1) := by decide +kernel
theorem dX1_quarrelAt_6 : decode cX1_quarrelAt 6 = .ok (.getfield 42, 3) := by decide +kernel
theorem dX1_quarrelAt_9 : decode cX1_quarrelAt 9 = .ok (.if_icmp .ge 18, 3) := by decide +kernel
theorem dX1_quarrelAt_12 : decode cX1_quarrelAt 12 = .ok (.iload_n 1, 1) := by decide +kernel
theorem dX1_quarrelAt_13 : decode cX1_quarrelAt 13 = .ok (.bipush 24, 2) := by decide +kernel
theorem dX1_quarrelAt_15 : decode cX1_quarrelAt 15 = .ok (.if_icmp .ge 12, 3) := by decide +kernel
theorem dX1_quarrelAt_18 : decode cX1_quarrelAt 18 = .ok (.aload_n 0, 1) := by decide +kernel
theorem dX1_quarrelAt_19 : decode cX1_quarrelAt 19 = .ok (.getfield 29, 3) := by decide +kernel
theorem dX1_quarrelAt_22 : decode cX1_quarrelAt 22 = .ok (.iload_n 1, 1) := by decide +kernel
theorem dX1_quarrelAt_23 : decode cX1_quarrelAt 23 = .ok (.aaload, 1) := by decide +kernel
theorem dX1_quarrelAt_24 : decode cX1_quarrelAt 24 = .ok (.goto 4, 3) := by decide +kernel
theorem dX1_quarrelAt_27 : decode cX1_quarrelAt 27 = .ok (.aconst_null, 1) := by decide +kernel
theorem dX1_quarrelAt_28 : decode cX1_quarrelAt 28 = .ok (.areturn, 1) := by decide +kernel
theorem dX1_goingOn_0 : decode cX1_goingOn 0 = .ok (.iconst 0, 1) := by decide +kernel
theorem dX1_goingOn_1 : decode cX1_goingOn 1 = .ok (.istore_n 1, 1) := by decide +kernel
theorem dX1_goingOn_2 : decode cX1_goingOn 2 = .ok (.iconst 0, 1) := by decide +kernel
theorem dX1_goingOn_3 : decode cX1_goingOn 3 = .ok (.istore_n 2, 1) := by decide +kernel
theorem dX1_goingOn_4 : decode cX1_goingOn 4 = .ok (.iload_n 2, 1) := by decide +kernel
theorem dX1_goingOn_5 : decode cX1_goingOn 5 = .ok (.aload_n 0, 1) := by decide +kernel
theorem dX1_goingOn_6 : decode cX1_goingOn 6 = .ok (.getfield 42, 3) := by decide +kernel
theorem dX1_goingOn_9 : decode cX1_goingOn 9 = .ok (.if_icmp .ge 30, 3) := by decide +kernel
theorem dX1_goingOn_12 : decode cX1_goingOn 12 = .ok (.iload_n 2, 1) := by decide +kernel
theorem dX1_goingOn_13 : decode cX1_goingOn 13 = .ok (.bipush 24, 2) := by decide +kernel
theorem dX1_goingOn_15 : decode cX1_goingOn 15 = .ok (.if_icmp .ge 24, 3) := by decide +kernel
theorem dX1_goingOn_18 : decode cX1_goingOn 18 = .ok (.aload_n 0, 1) := by decide +kernel
theorem dX1_goingOn_19 : decode cX1_goingOn 19 = .ok (.getfield 29, 3) := by decide +kernel
theorem dX1_goingOn_22 : decode cX1_goingOn 22 = .ok (.iload_n 2, 1) := by decide +kernel
theorem dX1_goingOn_23 : decode cX1_goingOn 23 = .ok (.aaload, 1) := by decide +kernel
theorem dX1_goingOn_24 : decode cX1_goingOn 24 = .ok (.invokevirtual 67, 3) := by decide +kernel
theorem dX1_goingOn_27 : decode cX1_goingOn 27 = .ok (.ifCond .eq 6, 3) := by decide +kernel
theorem dX1_goingOn_30 : decode cX1_goingOn 30 = .ok (.iinc 1 1, 3) := by decide +kernel
theorem dX1_goingOn_33 : decode cX1_goingOn 33 = .ok (.iinc 2 1, 3) := by decide +kernel
theorem dX1_goingOn_36 : decode cX1_goingOn 36 = .ok (.goto (-32), 3) := by decide +kernel
theorem dX1_goingOn_39 : decode cX1_goingOn 39 = .ok (.iload_n 1, 1) := by decide +kernel
theorem dX1_goingOn_40 : decode cX1_goingOn 40 = .ok (.ireturn, 1) := by decide +kernel
theorem dX1_takenFirst_0 : decode cX1_takenFirst 0 = .ok (.bipush (-2), 2) := by decide +kernel
theorem dX1_takenFirst_2 : decode cX1_takenFirst 2 = .ok (.istore_n 2, 1) := by decide +kernel
theorem dX1_takenFirst_3 : decode cX1_takenFirst 3 = .ok (.iconst (-1), 1) := by decide +kernel
theorem dX1_takenFirst_4 : decode cX1_takenFirst 4 = .ok (.istore_n 3, 1) := by decide +kernel
theorem dX1_takenFirst_5 : decode cX1_takenFirst 5 = .ok (.iconst 0, 1) := by decide +kernel
theorem dX1_takenFirst_6 : decode cX1_takenFirst 6 = .ok (.istore 4, 2) := by decide +kernel
theorem dX1_takenFirst_8 : decode cX1_takenFirst 8 = .ok (.iload 4, 2) := by decide +kernel
theorem dX1_takenFirst_10 : decode cX1_takenFirst 10 = .ok (.aload_n 0, 1) := by decide +kernel
theorem dX1_takenFirst_11 : decode cX1_takenFirst 11 = .ok (.getfield 42, 3) := by decide +kernel
theorem dX1_takenFirst_14 : decode cX1_takenFirst 14 = .ok (.if_icmp .ge 88, 3) := by decide +kernel
theorem dX1_takenFirst_17 : decode cX1_takenFirst 17 = .ok (.iload 4, 2) := by decide +kernel
theorem dX1_takenFirst_19 : decode cX1_takenFirst 19 = .ok (.bipush 24, 2) := by decide +kernel
theorem dX1_takenFirst_21 : decode cX1_takenFirst 21 = .ok (.if_icmp .ge 81, 3) := by decide +kernel
theorem dX1_takenFirst_24 : decode cX1_takenFirst 24 = .ok (.aload_n 0, 1) := by decide +kernel
theorem dX1_takenFirst_25 : decode cX1_takenFirst 25 = .ok (.getfield 29, 3) := by decide +kernel
theorem dX1_takenFirst_28 : decode cX1_takenFirst 28 = .ok (.iload 4, 2) := by decide +kernel
theorem dX1_takenFirst_30 : decode cX1_takenFirst 30 = .ok (.aaload, 1) := by decide +kernel
theorem dX1_takenFirst_31 : decode cX1_takenFirst 31 = .ok (.astore 5, 2) := by decide +kernel
theorem dX1_takenFirst_33 : decode cX1_takenFirst 33 = .ok (.aload 5, 2) := by decide +kernel
theorem dX1_takenFirst_35 : decode cX1_takenFirst 35 = .ok (.iload_n 1, 1) := by decide +kernel
theorem dX1_takenFirst_36 : decode cX1_takenFirst 36 = .ok (.invokevirtual 71, 3) := by decide +kernel
theorem dX1_takenFirst_39 : decode cX1_takenFirst 39 = .ok (.istore 6, 2) := by decide +kernel
theorem dX1_takenFirst_41 : decode cX1_takenFirst 41 = .ok (.iload 6, 2) := by decide +kernel
theorem dX1_takenFirst_43 : decode cX1_takenFirst 43 = .ok (.iconst (-1), 1) := by decide +kernel
theorem dX1_takenFirst_44 : decode cX1_takenFirst 44 = .ok (.if_icmp .eq 52, 3) := by decide +kernel
theorem dX1_takenFirst_47 : decode cX1_takenFirst 47 = .ok (.aload 5, 2) := by decide +kernel
theorem dX1_takenFirst_49 : decode cX1_takenFirst 49 = .ok (.invokevirtual 67, 3) := by decide +kernel
theorem dX1_takenFirst_52 : decode cX1_takenFirst 52 = .ok (.ifCond .eq 44, 3) := by decide +kernel
theorem dX1_takenFirst_55 : decode cX1_takenFirst 55 = .ok (.bipush 10, 2) := by decide +kernel
theorem dX1_takenFirst_57 : decode cX1_takenFirst 57 = .ok (.aload 5, 2) := by decide +kernel
theorem dX1_takenFirst_59 : decode cX1_takenFirst 59 = .ok (.invokevirtual 74, 3) := by decide +kernel
theorem dX1_takenFirst_62 : decode cX1_takenFirst 62 = .ok (.iload 6, 2) := by decide +kernel
theorem dX1_takenFirst_64 : decode cX1_takenFirst 64 = .ok (.invokestatic 78, 3) := by decide +kernel
theorem dX1_takenFirst_67 : decode cX1_takenFirst 67 = .ok (.imul, 1) := by decide +kernel
theorem dX1_takenFirst_68 : decode cX1_takenFirst 68 = .ok (.aload_n 0, 1) := by decide +kernel
theorem dX1_takenFirst_69 : decode cX1_takenFirst 69 = .ok (.aload 5, 2) := by decide +kernel
theorem dX1_takenFirst_71 : decode cX1_takenFirst 71 = .ok (.iconst 1, 1) := by decide +kernel
theorem dX1_takenFirst_72 : decode cX1_takenFirst 72 = .ok (.iload 6, 2) := by decide +kernel
theorem dX1_takenFirst_74 : decode cX1_takenFirst 74 = .ok (.isub, 1) := by decide +kernel
theorem dX1_takenFirst_75 : decode cX1_takenFirst 75 = .ok (.invokevirtual 84, 3) := by decide +kernel
theorem dX1_takenFirst_78 : decode cX1_takenFirst 78 = .ok (.invokevirtual 87, 3) := by decide +kernel
theorem dX1_takenFirst_81 : decode cX1_takenFirst 81 = .ok (.iadd, 1) := by decide +kernel
theorem dX1_takenFirst_82 : decode cX1_takenFirst 82 = .ok (.istore 7, 2) := by decide +kernel
theorem dX1_takenFirst_84 : decode cX1_takenFirst 84 = .ok (.iload 7, 2) := by decide +kernel
theorem dX1_takenFirst_86 : decode cX1_takenFirst 86 = .ok (.iload_n 3, 1) := by decide +kernel
theorem dX1_takenFirst_87 : decode cX1_takenFirst 87 = .ok (.if_icmp .le 9, 3) := by decide +kernel
theorem dX1_takenFirst_90 : decode cX1_takenFirst 90 = .ok (.iload 7, 2) := by decide +kernel
theorem dX1_takenFirst_92 : decode cX1_takenFirst 92 = .ok (.istore_n 3, 1) := by decide +kernel
theorem dX1_takenFirst_93 : decode cX1_takenFirst 93 = .ok (.iload 4, 2) := by decide +kernel
theorem dX1_takenFirst_95 : decode cX1_takenFirst 95 = .ok (.istore_n 2, 1) := by decide +kernel
theorem dX1_takenFirst_96 : decode cX1_takenFirst 96 = .ok (.iinc 4 1, 3) := by decide +kernel
theorem dX1_takenFirst_99 : decode cX1_takenFirst 99 = .ok (.goto (-91), 3) := by decide +kernel
theorem dX1_takenFirst_102 : decode cX1_takenFirst 102 = .ok (.iload_n 2, 1) := by decide +kernel
theorem dX1_takenFirst_103 : decode cX1_takenFirst 103 = .ok (.ireturn, 1) := by decide +kernel
theorem dX1_waitedFor_0 : decode cX1_waitedFor 0 = .ok (.aload_n 0, 1) := by decide +kernel
theorem dX1_waitedFor_1 : decode cX1_waitedFor 1 = .ok (.iload_n 1, 1) := by decide +kernel
theorem dX1_waitedFor_2 : decode cX1_waitedFor 2 = .ok (.invokevirtual 90, 3) := by decide +kernel
theorem dX1_waitedFor_5 : decode cX1_waitedFor 5 = .ok (.astore_n 2, 1) := by decide +kernel
theorem dX1_waitedFor_6 : decode cX1_waitedFor 6 = .ok (.aload_n 2, 1) := by decide +kernel
theorem dX1_waitedFor_7 : decode cX1_waitedFor 7 = .ok (.ifnull 10, 3) := by decide +kernel
theorem dX1_waitedFor_10 : decode cX1_waitedFor 10 = .ok (.aload_n 2, 1) := by decide +kernel
theorem dX1_waitedFor_11 : decode cX1_waitedFor 11 = .ok (.invokevirtual 67, 3) := by decide +kernel
theorem dX1_waitedFor_14 : decode cX1_waitedFor 14 = .ok (.ifCond .ne 5, 3) := by decide +kernel
theorem dX1_waitedFor_17 : decode cX1_waitedFor 17 = .ok (.iconst 0, 1) := by decide +kernel
theorem dX1_waitedFor_18 : decode cX1_waitedFor 18 = .ok (.ireturn, 1) := by decide +kernel
theorem dX1_waitedFor_19 : decode cX1_waitedFor 19 = .ok (.iconst 0, 1) := by decide +kernel
theorem dX1_waitedFor_20 : decode cX1_waitedFor 20 = .ok (.istore_n 3, 1) := by decide +kernel
theorem dX1_waitedFor_21 : decode cX1_waitedFor 21 = .ok (.iconst 0, 1) := by decide +kernel
theorem dX1_waitedFor_22 : decode cX1_waitedFor 22 = .ok (.istore 4, 2) := by decide +kernel
theorem dX1_waitedFor_24 : decode cX1_waitedFor 24 = .ok (.iload 4, 2) := by decide +kernel
theorem dX1_waitedFor_26 : decode cX1_waitedFor 26 = .ok (.iconst 2, 1) := by decide +kernel
theorem dX1_waitedFor_27 : decode cX1_waitedFor 27 = .ok (.if_icmp .ge 39, 3) := by decide +kernel
theorem dX1_waitedFor_30 : decode cX1_waitedFor 30 = .ok (.aload_n 0, 1) := by decide +kernel
theorem dX1_waitedFor_31 : decode cX1_waitedFor 31 = .ok (.aload_n 2, 1) := by decide +kernel
theorem dX1_waitedFor_32 : decode cX1_waitedFor 32 = .ok (.iload 4, 2) := by decide +kernel
theorem dX1_waitedFor_34 : decode cX1_waitedFor 34 = .ok (.invokevirtual 84, 3) := by decide +kernel
theorem dX1_waitedFor_37 : decode cX1_waitedFor 37 = .ok (.invokevirtual 94, 3) := by decide +kernel
theorem dX1_waitedFor_40 : decode cX1_waitedFor 40 = .ok (.istore 5, 2) := by decide +kernel
theorem dX1_waitedFor_42 : decode cX1_waitedFor 42 = .ok (.iload 5, 2) := by decide +kernel
theorem dX1_waitedFor_44 : decode cX1_waitedFor 44 = .ok (.ifCond .lt 16, 3) := by decide +kernel
theorem dX1_waitedFor_47 : decode cX1_waitedFor 47 = .ok (.iload 5, 2) := by decide +kernel
theorem dX1_waitedFor_49 : decode cX1_waitedFor 49 = .ok (.iload_n 1, 1) := by decide +kernel
theorem dX1_waitedFor_50 : decode cX1_waitedFor 50 = .ok (.if_icmp .eq 10, 3) := by decide +kernel
theorem dX1_waitedFor_53 : decode cX1_waitedFor 53 = .ok (.iload_n 3, 1) := by decide +kernel
theorem dX1_waitedFor_54 : decode cX1_waitedFor 54 = .ok (.iconst 1, 1) := by decide +kernel
theorem dX1_waitedFor_55 : decode cX1_waitedFor 55 = .ok (.iload 5, 2) := by decide +kernel
theorem dX1_waitedFor_57 : decode cX1_waitedFor 57 = .ok (.ishl, 1) := by decide +kernel
theorem dX1_waitedFor_58 : decode cX1_waitedFor 58 = .ok (.ior, 1) := by decide +kernel
theorem dX1_waitedFor_59 : decode cX1_waitedFor 59 = .ok (.istore_n 3, 1) := by decide +kernel
theorem dX1_waitedFor_60 : decode cX1_waitedFor 60 = .ok (.iinc 4 1, 3) := by decide +kernel
theorem dX1_waitedFor_63 : decode cX1_waitedFor 63 = .ok (.goto (-39), 3) := by decide +kernel
theorem dX1_waitedFor_66 : decode cX1_waitedFor 66 = .ok (.iload_n 3, 1) := by decide +kernel
theorem dX1_waitedFor_67 : decode cX1_waitedFor 67 = .ok (.ireturn, 1) := by decide +kernel
theorem dX1_isInRing_0 : decode cX1_isInRing 0 = .ok (.iconst 0, 1) := by decide +kernel
theorem dX1_isInRing_1 : decode cX1_isInRing 1 = .ok (.istore_n 2, 1) := by decide +kernel
theorem dX1_isInRing_2 : decode cX1_isInRing 2 = .ok (.aload_n 0, 1) := by decide +kernel
theorem dX1_isInRing_3 : decode cX1_isInRing 3 = .ok (.iload_n 1, 1) := by decide +kernel
theorem dX1_isInRing_4 : decode cX1_isInRing 4 = .ok (.invokevirtual 97, 3) := by decide +kernel
theorem dX1_isInRing_7 : decode cX1_isInRing 7 = .ok (.istore_n 3, 1) := by decide +kernel
theorem dX1_isInRing_8 : decode cX1_isInRing 8 = .ok (.iconst 0, 1) := by decide +kernel
theorem dX1_isInRing_9 : decode cX1_isInRing 9 = .ok (.istore 4, 2) := by decide +kernel
theorem dX1_isInRing_11 : decode cX1_isInRing 11 = .ok (.iload 4, 2) := by decide +kernel
theorem dX1_isInRing_13 : decode cX1_isInRing 13 = .ok (.bipush 24, 2) := by decide +kernel
theorem dX1_isInRing_15 : decode cX1_isInRing 15 = .ok (.if_icmp .ge 59, 3) := by decide +kernel
theorem dX1_isInRing_18 : decode cX1_isInRing 18 = .ok (.iload_n 3, 1) := by decide +kernel
theorem dX1_isInRing_19 : decode cX1_isInRing 19 = .ok (.iload_n 2, 1) := by decide +kernel
theorem dX1_isInRing_20 : decode cX1_isInRing 20 = .ok (.if_icmp .eq 54, 3) := by decide +kernel
theorem dX1_isInRing_23 : decode cX1_isInRing 23 = .ok (.iload_n 3, 1) := by decide +kernel
theorem dX1_isInRing_24 : decode cX1_isInRing 24 = .ok (.iload_n 2, 1) := by decide +kernel
theorem dX1_isInRing_25 : decode cX1_isInRing 25 = .ok (.iconst (-1), 1) := by decide +kernel
theorem dX1_isInRing_26 : decode cX1_isInRing 26 = .ok (.ixor, 1) := by decide +kernel
theorem dX1_isInRing_27 : decode cX1_isInRing 27 = .ok (.iand, 1) := by decide +kernel
theorem dX1_isInRing_28 : decode cX1_isInRing 28 = .ok (.istore 5, 2) := by decide +kernel
theorem dX1_isInRing_30 : decode cX1_isInRing 30 = .ok (.iload_n 3, 1) := by decide +kernel
theorem dX1_isInRing_31 : decode cX1_isInRing 31 = .ok (.istore_n 2, 1) := by decide +kernel
theorem dX1_isInRing_32 : decode cX1_isInRing 32 = .ok (.iconst 0, 1) := by decide +kernel
theorem dX1_isInRing_33 : decode cX1_isInRing 33 = .ok (.istore 6, 2) := by decide +kernel
theorem dX1_isInRing_35 : decode cX1_isInRing 35 = .ok (.iload 6, 2) := by decide +kernel
theorem dX1_isInRing_37 : decode cX1_isInRing 37 = .ok (.bipush 24, 2) := by decide +kernel
theorem dX1_isInRing_39 : decode cX1_isInRing 39 = .ok (.if_icmp .ge 29, 3) := by decide +kernel
theorem dX1_isInRing_42 : decode cX1_isInRing 42 = .ok (.iload 5, 2) := by decide +kernel
theorem dX1_isInRing_44 : decode cX1_isInRing 44 = .ok (.iload 6, 2) := by decide +kernel
theorem dX1_isInRing_46 : decode cX1_isInRing 46 = .ok (.ishr, 1) := by decide +kernel
theorem dX1_isInRing_47 : decode cX1_isInRing 47 = .ok (.iconst 1, 1) := by decide +kernel
theorem dX1_isInRing_48 : decode cX1_isInRing 48 = .ok (.iand, 1) := by decide +kernel
theorem dX1_isInRing_49 : decode cX1_isInRing 49 = .ok (.iconst 1, 1) := by decide +kernel
theorem dX1_isInRing_50 : decode cX1_isInRing 50 = .ok (.if_icmp .ne 12, 3) := by decide +kernel
theorem dX1_isInRing_53 : decode cX1_isInRing 53 = .ok (.iload_n 3, 1) := by decide +kernel
theorem dX1_isInRing_54 : decode cX1_isInRing 54 = .ok (.aload_n 0, 1) := by decide +kernel
theorem dX1_isInRing_55 : decode cX1_isInRing 55 = .ok (.iload 6, 2) := by decide +kernel
theorem dX1_isInRing_57 : decode cX1_isInRing 57 = .ok (.invokevirtual 97, 3) := by decide +kernel
theorem dX1_isInRing_60 : decode cX1_isInRing 60 = .ok (.ior, 1) := by decide +kernel
theorem dX1_isInRing_61 : decode cX1_isInRing 61 = .ok (.istore_n 3, 1) := by decide +kernel
theorem dX1_isInRing_62 : decode cX1_isInRing 62 = .ok (.iinc 6 1, 3) := by decide +kernel
theorem dX1_isInRing_65 : decode cX1_isInRing 65 = .ok (.goto (-30), 3) := by decide +kernel
theorem dX1_isInRing_68 : decode cX1_isInRing 68 = .ok (.iinc 4 1, 3) := by decide +kernel
theorem dX1_isInRing_71 : decode cX1_isInRing 71 = .ok (.goto (-60), 3) := by decide +kernel
theorem dX1_isInRing_74 : decode cX1_isInRing 74 = .ok (.iload_n 1, 1) := by decide +kernel
theorem dX1_isInRing_75 : decode cX1_isInRing 75 = .ok (.ifCond .lt 22, 3) := by decide +kernel
theorem dX1_isInRing_78 : decode cX1_isInRing 78 = .ok (.iload_n 1, 1) := by decide +kernel
theorem dX1_isInRing_79 : decode cX1_isInRing 79 = .ok (.bipush 24, 2) := by decide +kernel
theorem dX1_isInRing_81 : decode cX1_isInRing 81 = .ok (.if_icmp .ge 16, 3) := by decide +kernel
theorem dX1_isInRing_84 : decode cX1_isInRing 84 = .ok (.iload_n 3, 1) := by decide +kernel
theorem dX1_isInRing_85 : decode cX1_isInRing 85 = .ok (.iload_n 1, 1) := by decide +kernel
theorem dX1_isInRing_86 : decode cX1_isInRing 86 = .ok (.ishr, 1) := by decide +kernel
theorem dX1_isInRing_87 : decode cX1_isInRing 87 = .ok (.iconst 1, 1) := by decide +kernel
theorem dX1_isInRing_88 : decode cX1_isInRing 88 = .ok (.iand, 1) := by decide +kernel
theorem dX1_isInRing_89 : decode cX1_isInRing 89 = .ok (.iconst 1, 1) := by decide +kernel
theorem dX1_isInRing_90 : decode cX1_isInRing 90 = .ok (.if_icmp .ne 7, 3) := by decide +kernel
theorem dX1_isInRing_93 : decode cX1_isInRing 93 = .ok (.iconst 1, 1) := by decide +kernel
theorem dX1_isInRing_94 : decode cX1_isInRing 94 = .ok (.goto 4, 3) := by decide +kernel
theorem dX1_isInRing_97 : decode cX1_isInRing 97 = .ok (.iconst 0, 1) := by decide +kernel
theorem dX1_isInRing_98 : decode cX1_isInRing 98 = .ok (.ireturn, 1) := by decide +kernel
theorem dX1_copy_0 : decode cX1_copy 0 = .ok (.aload_n 0, 1) := by decide +kernel
theorem dX1_copy_1 : decode cX1_copy 1 = .ok (.aload_n 1, 1) := by decide +kernel
theorem dX1_copy_2 : decode cX1_copy 2 = .ok (.getfield 34, 3) := by decide +kernel
theorem dX1_copy_5 : decode cX1_copy 5 = .ok (.putfield 34, 3) := by decide +kernel
theorem dX1_copy_8 : decode cX1_copy 8 = .ok (.aload_n 0, 1) := by decide +kernel
theorem dX1_copy_9 : decode cX1_copy 9 = .ok (.aload_n 1, 1) := by decide +kernel
theorem dX1_copy_10 : decode cX1_copy 10 = .ok (.getfield 42, 3) := by decide +kernel
theorem dX1_copy_13 : decode cX1_copy 13 = .ok (.putfield 42, 3) := by decide +kernel
theorem dX1_copy_16 : decode cX1_copy 16 = .ok (.iconst 0, 1) := by decide +kernel
theorem dX1_copy_17 : decode cX1_copy 17 = .ok (.istore_n 2, 1) := by decide +kernel
theorem dX1_copy_18 : decode cX1_copy 18 = .ok (.iload_n 2, 1) := by decide +kernel
theorem dX1_copy_19 : decode cX1_copy 19 = .ok (.bipush 12, 2) := by decide +kernel
theorem dX1_copy_21 : decode cX1_copy 21 = .ok (.if_icmp .ge 69, 3) := by decide +kernel
theorem dX1_copy_24 : decode cX1_copy 24 = .ok (.aload_n 0, 1) := by decide +kernel
theorem dX1_copy_25 : decode cX1_copy 25 = .ok (.getfield 9, 3) := by decide +kernel
theorem dX1_copy_28 : decode cX1_copy 28 = .ok (.iload_n 2, 1) := by decide +kernel
theorem dX1_copy_29 : decode cX1_copy 29 = .ok (.aload_n 1, 1) := by decide +kernel
theorem dX1_copy_30 : decode cX1_copy 30 = .ok (.getfield 9, 3) := by decide +kernel
theorem dX1_copy_33 : decode cX1_copy 33 = .ok (.iload_n 2, 1) := by decide +kernel
theorem dX1_copy_34 : decode cX1_copy 34 = .ok (.iaload, 1) := by decide +kernel
theorem dX1_copy_35 : decode cX1_copy 35 = .ok (.iastore, 1) := by decide +kernel
theorem dX1_copy_36 : decode cX1_copy 36 = .ok (.aload_n 0, 1) := by decide +kernel
theorem dX1_copy_37 : decode cX1_copy 37 = .ok (.getfield 15, 3) := by decide +kernel
theorem dX1_copy_40 : decode cX1_copy 40 = .ok (.iload_n 2, 1) := by decide +kernel
theorem dX1_copy_41 : decode cX1_copy 41 = .ok (.aload_n 1, 1) := by decide +kernel
theorem dX1_copy_42 : decode cX1_copy 42 = .ok (.getfield 15, 3) := by decide +kernel
theorem dX1_copy_45 : decode cX1_copy 45 = .ok (.iload_n 2, 1) := by decide +kernel
theorem dX1_copy_46 : decode cX1_copy 46 = .ok (.iaload, 1) := by decide +kernel
theorem dX1_copy_47 : decode cX1_copy 47 = .ok (.iastore, 1) := by decide +kernel
theorem dX1_copy_48 : decode cX1_copy 48 = .ok (.aload_n 0, 1) := by decide +kernel
theorem dX1_copy_49 : decode cX1_copy 49 = .ok (.getfield 18, 3) := by decide +kernel
theorem dX1_copy_52 : decode cX1_copy 52 = .ok (.iload_n 2, 1) := by decide +kernel
theorem dX1_copy_53 : decode cX1_copy 53 = .ok (.aload_n 1, 1) := by decide +kernel
theorem dX1_copy_54 : decode cX1_copy 54 = .ok (.getfield 18, 3) := by decide +kernel
theorem dX1_copy_57 : decode cX1_copy 57 = .ok (.iload_n 2, 1) := by decide +kernel
theorem dX1_copy_58 : decode cX1_copy 58 = .ok (.iaload, 1) := by decide +kernel
theorem dX1_copy_59 : decode cX1_copy 59 = .ok (.iastore, 1) := by decide +kernel
theorem dX1_copy_60 : decode cX1_copy 60 = .ok (.aload_n 0, 1) := by decide +kernel
theorem dX1_copy_61 : decode cX1_copy 61 = .ok (.getfield 21, 3) := by decide +kernel
theorem dX1_copy_64 : decode cX1_copy 64 = .ok (.iload_n 2, 1) := by decide +kernel
theorem dX1_copy_65 : decode cX1_copy 65 = .ok (.aload_n 1, 1) := by decide +kernel
theorem dX1_copy_66 : decode cX1_copy 66 = .ok (.getfield 21, 3) := by decide +kernel
theorem dX1_copy_69 : decode cX1_copy 69 = .ok (.iload_n 2, 1) := by decide +kernel
theorem dX1_copy_70 : decode cX1_copy 70 = .ok (.iaload, 1) := by decide +kernel
theorem dX1_copy_71 : decode cX1_copy 71 = .ok (.iastore, 1) := by decide +kernel
theorem dX1_copy_72 : decode cX1_copy 72 = .ok (.aload_n 0, 1) := by decide +kernel
theorem dX1_copy_73 : decode cX1_copy 73 = .ok (.getfield 24, 3) := by decide +kernel
theorem dX1_copy_76 : decode cX1_copy 76 = .ok (.iload_n 2, 1) := by decide +kernel
theorem dX1_copy_77 : decode cX1_copy 77 = .ok (.aload_n 1, 1) := by decide +kernel
theorem dX1_copy_78 : decode cX1_copy 78 = .ok (.getfield 24, 3) := by decide +kernel
theorem dX1_copy_81 : decode cX1_copy 81 = .ok (.iload_n 2, 1) := by decide +kernel
theorem dX1_copy_82 : decode cX1_copy 82 = .ok (.iaload, 1) := by decide +kernel
theorem dX1_copy_83 : decode cX1_copy 83 = .ok (.iastore, 1) := by decide +kernel
theorem dX1_copy_84 : decode cX1_copy 84 = .ok (.iinc 2 1, 3) := by decide +kernel
theorem dX1_copy_87 : decode cX1_copy 87 = .ok (.goto (-69), 3) := by decide +kernel
theorem dX1_copy_90 : decode cX1_copy 90 = .ok (.iconst 0, 1) := by decide +kernel
theorem dX1_copy_91 : decode cX1_copy 91 = .ok (.istore_n 2, 1) := by decide +kernel
theorem dX1_copy_92 : decode cX1_copy 92 = .ok (.iload_n 2, 1) := by decide +kernel
theorem dX1_copy_93 : decode cX1_copy 93 = .ok (.bipush 24, 2) := by decide +kernel
theorem dX1_copy_95 : decode cX1_copy 95 = .ok (.if_icmp .ge 24, 3) := by decide +kernel
theorem dX1_copy_98 : decode cX1_copy 98 = .ok (.aload_n 0, 1) := by decide +kernel
theorem dX1_copy_99 : decode cX1_copy 99 = .ok (.getfield 29, 3) := by decide +kernel
theorem dX1_copy_102 : decode cX1_copy 102 = .ok (.iload_n 2, 1) := by decide +kernel
theorem dX1_copy_103 : decode cX1_copy 103 = .ok (.aaload, 1) := by decide +kernel
theorem dX1_copy_104 : decode cX1_copy 104 = .ok (.aload_n 1, 1) := by decide +kernel
theorem dX1_copy_105 : decode cX1_copy 105 = .ok (.getfield 29, 3) := by decide +kernel
theorem dX1_copy_108 : decode cX1_copy 108 = .ok (.iload_n 2, 1) := by decide +kernel
theorem dX1_copy_109 : decode cX1_copy 109 = .ok (.aaload, 1) := by decide +kernel
theorem dX1_copy_110 : decode cX1_copy 110 = .ok (.invokevirtual 100, 3) := by decide +kernel
theorem dX1_copy_113 : decode cX1_copy 113 = .ok (.iinc 2 1, 3) := by decide +kernel
theorem dX1_copy_116 : decode cX1_copy 116 = .ok (.goto (-24), 3) := by decide +kernel
theorem dX1_copy_119 : decode cX1_copy 119 = .ok (.return_, 1) := by decide +kernel
