theorem dX2_init_0 : decode cX2_init 0 = .ok (.aload_n 0, 1) := by decide +kernel
theorem dX2_init_1 : decode cX2_init 1 = .ok (.invokespecial 5, 3) := by decide +kernel
theorem dX2_init_4 : decode cX2_init 4 = .ok (.aload_n 0, 1) := by decide +kernel
theorem dX2_init_5 : decode cX2_init 5 = .ok (.bipush 14, 2) := by decide +kernel
theorem dX2_init_7 : decode cX2_init 7 = .ok (.newarray .int, 2) := by decide +kernel
theorem dX2_init_9 : decode cX2_init 9 = .ok (.putfield 11, 3) := by decide +kernel
theorem dX2_init_12 : decode cX2_init 12 = .ok (.aload_n 0, 1) := by decide +kernel
theorem dX2_init_13 : decode cX2_init 13 = .ok (.bipush 14, 2) := by decide +kernel
theorem dX2_init_15 : decode cX2_init 15 = .ok (.newarray .int, 2) := by decide +kernel
theorem dX2_init_17 : decode cX2_init 17 = .ok (.putfield 15, 3) := by decide +kernel
theorem dX2_init_20 : decode cX2_init 20 = .ok (.aload_n 0, 1) := by decide +kernel
theorem dX2_init_21 : decode cX2_init 21 = .ok (.bipush 14, 2) := by decide +kernel
theorem dX2_init_23 : decode cX2_init 23 = .ok (.newarray .int, 2) := by decide +kernel
theorem dX2_init_25 : decode cX2_init 25 = .ok (.putfield 18, 3) := by decide +kernel
theorem dX2_init_28 : decode cX2_init 28 = .ok (.aload_n 0, 1) := by decide +kernel
theorem dX2_init_29 : decode cX2_init 29 = .ok (.bipush 14, 2) := by decide +kernel
theorem dX2_init_31 : decode cX2_init 31 = .ok (.newarray .int, 2) := by decide +kernel
theorem dX2_init_33 : decode cX2_init 33 = .ok (.putfield 21, 3) := by decide +kernel
theorem dX2_init_36 : decode cX2_init 36 = .ok (.aload_n 0, 1) := by decide +kernel
theorem dX2_init_37 : decode cX2_init 37 = .ok (.bipush 14, 2) := by decide +kernel
theorem dX2_init_39 : decode cX2_init 39 = .ok (.newarray .int, 2) := by decide +kernel
theorem dX2_init_41 : decode cX2_init 41 = .ok (.putfield 24, 3) := by decide +kernel
theorem dX2_init_44 : decode cX2_init 44 = .ok (.aload_n 0, 1) := by decide +kernel
theorem dX2_init_45 : decode cX2_init 45 = .ok (.sipush 256, 3) := by decide +kernel
theorem dX2_init_48 : decode cX2_init 48 = .ok (.newarray .int, 2) := by decide +kernel
theorem dX2_init_50 : decode cX2_init 50 = .ok (.putfield 27, 3) := by decide +kernel
theorem dX2_init_53 : decode cX2_init 53 = .ok (.aload_n 0, 1) := by decide +kernel
theorem dX2_init_54 : decode cX2_init 54 = .ok (.bipush 64, 2) := by decide +kernel
theorem dX2_init_56 : decode cX2_init 56 = .ok (.newarray .int, 2) := by decide +kernel
theorem dX2_init_58 : decode cX2_init 58 = .ok (.putfield 30, 3) := by decide +kernel
theorem dX2_init_61 : decode cX2_init 61 = .ok (.aload_n 0, 1) := by decide +kernel
theorem dX2_init_62 : decode cX2_init 62 = .ok (.iconst 1, 1) := by decide +kernel
theorem dX2_init_63 : decode cX2_init 63 = .ok (.putfield 33, 3) := by decide +kernel
theorem dX2_init_66 : decode cX2_init 66 = .ok (.aload_n 0, 1) := by decide +kernel
theorem dX2_init_67 : decode cX2_init 67 = .ok (.bipush 6, 2) := by decide +kernel
theorem dX2_init_69 : decode cX2_init 69 = .ok (.putfield 37, 3) := by decide +kernel
theorem dX2_init_72 : decode cX2_init 72 = .ok (.aload_n 0, 1) := by decide +kernel
theorem dX2_init_73 : decode cX2_init 73 = .ok (.iconst 1, 1) := by decide +kernel
theorem dX2_init_74 : decode cX2_init 74 = .ok (.putfield 40, 3) := by decide +kernel
theorem dX2_init_77 : decode cX2_init 77 = .ok (.return_, 1) := by decide +kernel
theorem dX2_clear_0 : decode cX2_clear 0 = .ok (.aload_n 0, 1) := by decide +kernel
theorem dX2_clear_1 : decode cX2_clear 1 = .ok (.iconst 0, 1) := by decide +kernel
theorem dX2_clear_2 : decode cX2_clear 2 = .ok (.putfield 43, 3) := by decide +kernel
theorem dX2_clear_5 : decode cX2_clear 5 = .ok (.aload_n 0, 1) := by decide +kernel
theorem dX2_clear_6 : decode cX2_clear 6 = .ok (.iconst 0, 1) := by decide +kernel
theorem dX2_clear_7 : decode cX2_clear 7 = .ok (.putfield 46, 3) := by decide +kernel
theorem dX2_clear_10 : decode cX2_clear 10 = .ok (.aload_n 0, 1) := by decide +kernel
theorem dX2_clear_11 : decode cX2_clear 11 = .ok (.iconst 1, 1) := by decide +kernel
theorem dX2_clear_12 : decode cX2_clear 12 = .ok (.putfield 33, 3) := by decide +kernel
theorem dX2_clear_15 : decode cX2_clear 15 = .ok (.aload_n 0, 1) := by decide +kernel
theorem dX2_clear_16 : decode cX2_clear 16 = .ok (.bipush 6, 2) := by decide +kernel
theorem dX2_clear_18 : decode cX2_clear 18 = .ok (.putfield 37, 3) := by decide +kernel
theorem dX2_clear_21 : decode cX2_clear 21 = .ok (.aload_n 0, 1) := by decide +kernel
theorem dX2_clear_22 : decode cX2_clear 22 = .ok (.iconst 1, 1) := by decide +kernel
theorem dX2_clear_23 : decode cX2_clear 23 = .ok (.putfield 40, 3) := by decide +kernel
theorem dX2_clear_26 : decode cX2_clear 26 = .ok (.return_, 1) := by decide +kernel
theorem dX2_addClause_0 : decode cX2_addClause 0 = .ok (.aload_n 0, 1) := by decide +kernel
theorem dX2_addClause_1 : decode cX2_addClause 1 = .ok (.getfield 46, 3) := by decide +kernel
theorem dX2_addClause_4 : decode cX2_addClause 4 = .ok (.bipush 14, 2) := by decide +kernel
theorem dX2_addClause_6 : decode cX2_addClause 6 = .ok (.if_icmp .ge 69, 3) := by decide +kernel
theorem dX2_addClause_9 : decode cX2_addClause 9 = .ok (.aload_n 0, 1) := by decide +kernel
theorem dX2_addClause_10 : decode cX2_addClause 10 = .ok (.getfield 11, 3) := by decide +kernel
theorem dX2_addClause_13 : decode cX2_addClause 13 = .ok (.aload_n 0, 1) := by decide +kernel
theorem dX2_addClause_14 : decode cX2_addClause 14 = .ok (.getfield 46, 3) := by decide +kernel
theorem dX2_addClause_17 : decode cX2_addClause 17 = .ok (.iload_n 1, 1) := by decide +kernel
theorem dX2_addClause_18 : decode cX2_addClause 18 = .ok (.iastore, 1) := by decide +kernel
theorem dX2_addClause_19 : decode cX2_addClause 19 = .ok (.aload_n 0, 1) := by decide +kernel
theorem dX2_addClause_20 : decode cX2_addClause 20 = .ok (.getfield 15, 3) := by decide +kernel
theorem dX2_addClause_23 : decode cX2_addClause 23 = .ok (.aload_n 0, 1) := by decide +kernel
theorem dX2_addClause_24 : decode cX2_addClause 24 = .ok (.getfield 46, 3) := by decide +kernel
theorem dX2_addClause_27 : decode cX2_addClause 27 = .ok (.iload_n 2, 1) := by decide +kernel
theorem dX2_addClause_28 : decode cX2_addClause 28 = .ok (.iastore, 1) := by decide +kernel
theorem dX2_addClause_29 : decode cX2_addClause 29 = .ok (.aload_n 0, 1) := by decide +kernel
theorem dX2_addClause_30 : decode cX2_addClause 30 = .ok (.getfield 18, 3) := by decide +kernel
theorem dX2_addClause_33 : decode cX2_addClause 33 = .ok (.aload_n 0, 1) := by decide +kernel
theorem dX2_addClause_34 : decode cX2_addClause 34 = .ok (.getfield 46, 3) := by decide +kernel
theorem dX2_addClause_37 : decode cX2_addClause 37 = .ok (.iload_n 3, 1) := by decide +kernel
theorem dX2_addClause_38 : decode cX2_addClause 38 = .ok (.iastore, 1) := by decide +kernel
theorem dX2_addClause_39 : decode cX2_addClause 39 = .ok (.aload_n 0, 1) := by decide +kernel
theorem dX2_addClause_40 : decode cX2_addClause 40 = .ok (.getfield 21, 3) := by decide +kernel
theorem dX2_addClause_43 : decode cX2_addClause 43 = .ok (.aload_n 0, 1) := by decide +kernel
theorem dX2_addClause_44 : decode cX2_addClause 44 = .ok (.getfield 46, 3) := by decide +kernel
theorem dX2_addClause_47 : decode cX2_addClause 47 = .ok (.aload_n 0, 1) := by decide +kernel
theorem dX2_addClause_48 : decode cX2_addClause 48 = .ok (.getfield 43, 3) := by decide +kernel
theorem dX2_addClause_51 : decode cX2_addClause 51 = .ok (.iastore, 1) := by decide +kernel
theorem dX2_addClause_52 : decode cX2_addClause 52 = .ok (.aload_n 0, 1) := by decide +kernel
theorem dX2_addClause_53 : decode cX2_addClause 53 = .ok (.getfield 24, 3) := by decide +kernel
theorem dX2_addClause_56 : decode cX2_addClause 56 = .ok (.aload_n 0, 1) := by decide +kernel
theorem dX2_addClause_57 : decode cX2_addClause 57 = .ok (.getfield 46, 3) := by decide +kernel
theorem dX2_addClause_60 : decode cX2_addClause 60 = .ok (.aload_n 0, 1) := by decide +kernel
theorem dX2_addClause_61 : decode cX2_addClause 61 = .ok (.getfield 43, 3) := by decide +kernel
theorem dX2_addClause_64 : decode cX2_addClause 64 = .ok (.iastore, 1) := by decide +kernel
theorem dX2_addClause_65 : decode cX2_addClause 65 = .ok (.aload_n 0, 1) := by decide +kernel
theorem dX2_addClause_66 : decode cX2_addClause 66 = .ok (.dup, 1) := by decide +kernel
theorem dX2_addClause_67 : decode cX2_addClause 67 = .ok (.getfield 46, 3) := by decide +kernel
theorem dX2_addClause_70 : decode cX2_addClause 70 = .ok (.iconst 1, 1) := by decide +kernel
theorem dX2_addClause_71 : decode cX2_addClause 71 = .ok (.iadd, 1) := by decide +kernel
theorem dX2_addClause_72 : decode cX2_addClause 72 = .ok (.putfield 46, 3) := by decide +kernel
theorem dX2_addClause_75 : decode cX2_addClause 75 = .ok (.return_, 1) := by decide +kernel
theorem dX2_addStep_0 : decode cX2_addStep 0 = .ok (.aload_n 0, 1) := by decide +kernel
theorem dX2_addStep_1 : decode cX2_addStep 1 = .ok (.getfield 43, 3) := by decide +kernel
theorem dX2_addStep_4 : decode cX2_addStep 4 = .ok (.sipush 256, 3) := by decide +kernel
theorem dX2_addStep_7 : decode cX2_addStep 7 = .ok (.if_icmp .ge 54, 3) := by decide +kernel
theorem dX2_addStep_10 : decode cX2_addStep 10 = .ok (.aload_n 0, 1) := by decide +kernel
theorem dX2_addStep_11 : decode cX2_addStep 11 = .ok (.getfield 46, 3) := by decide +kernel
theorem dX2_addStep_14 : decode cX2_addStep 14 = .ok (.ifCond .le 47, 3) := by decide +kernel
theorem dX2_addStep_17 : decode cX2_addStep 17 = .ok (.aload_n 0, 1) := by decide +kernel
theorem dX2_addStep_18 : decode cX2_addStep 18 = .ok (.getfield 46, 3) := by decide +kernel
theorem dX2_addStep_21 : decode cX2_addStep 21 = .ok (.bipush 14, 2) := by decide +kernel
theorem dX2_addStep_23 : decode cX2_addStep 23 = .ok (.if_icmp .gt 38, 3) := by decide +kernel
theorem dX2_addStep_26 : decode cX2_addStep 26 = .ok (.aload_n 0, 1) := by decide +kernel
theorem dX2_addStep_27 : decode cX2_addStep 27 = .ok (.getfield 27, 3) := by decide +kernel
theorem dX2_addStep_30 : decode cX2_addStep 30 = .ok (.aload_n 0, 1) := by decide +kernel
theorem dX2_addStep_31 : decode cX2_addStep 31 = .ok (.getfield 43, 3) := by decide +kernel
theorem dX2_addStep_34 : decode cX2_addStep 34 = .ok (.iload_n 1, 1) := by decide +kernel
theorem dX2_addStep_35 : decode cX2_addStep 35 = .ok (.iastore, 1) := by decide +kernel
theorem dX2_addStep_36 : decode cX2_addStep 36 = .ok (.aload_n 0, 1) := by decide +kernel
theorem dX2_addStep_37 : decode cX2_addStep 37 = .ok (.dup, 1) := by decide +kernel
theorem dX2_addStep_38 : decode cX2_addStep 38 = .ok (.getfield 43, 3) := by decide +kernel
theorem dX2_addStep_41 : decode cX2_addStep 41 = .ok (.iconst 1, 1) := by decide +kernel
theorem dX2_addStep_42 : decode cX2_addStep 42 = .ok (.iadd, 1) := by decide +kernel
theorem dX2_addStep_43 : decode cX2_addStep 43 = .ok (.putfield 43, 3) := by decide +kernel
theorem dX2_addStep_46 : decode cX2_addStep 46 = .ok (.aload_n 0, 1) := by decide +kernel
theorem dX2_addStep_47 : decode cX2_addStep 47 = .ok (.getfield 24, 3) := by decide +kernel
theorem dX2_addStep_50 : decode cX2_addStep 50 = .ok (.aload_n 0, 1) := by decide +kernel
theorem dX2_addStep_51 : decode cX2_addStep 51 = .ok (.getfield 46, 3) := by decide +kernel
theorem dX2_addStep_54 : decode cX2_addStep 54 = .ok (.iconst 1, 1) := by decide +kernel
theorem dX2_addStep_55 : decode cX2_addStep 55 = .ok (.isub, 1) := by decide +kernel
theorem dX2_addStep_56 : decode cX2_addStep 56 = .ok (.aload_n 0, 1) := by decide +kernel
theorem dX2_addStep_57 : decode cX2_addStep 57 = .ok (.getfield 43, 3) := by decide +kernel
theorem dX2_addStep_60 : decode cX2_addStep 60 = .ok (.iastore, 1) := by decide +kernel
theorem dX2_addStep_61 : decode cX2_addStep 61 = .ok (.return_, 1) := by decide +kernel
theorem dX2_setMeasure_0 : decode cX2_setMeasure 0 = .ok (.iload_n 1, 1) := by decide +kernel
theorem dX2_setMeasure_1 : decode cX2_setMeasure 1 = .ok (.tableswitch 51 3 5 #[27, 35, 43], 27) := by decide +kernel
theorem dX2_setMeasure_28 : decode cX2_setMeasure 28 = .ok (.aload_n 0, 1) := by decide +kernel
theorem dX2_setMeasure_29 : decode cX2_setMeasure 29 = .ok (.iload_n 2, 1) := by decide +kernel
theorem dX2_setMeasure_30 : decode cX2_setMeasure 30 = .ok (.putfield 33, 3) := by decide +kernel
theorem dX2_setMeasure_33 : decode cX2_setMeasure 33 = .ok (.goto 19, 3) := by decide +kernel
theorem dX2_setMeasure_36 : decode cX2_setMeasure 36 = .ok (.aload_n 0, 1) := by decide +kernel
theorem dX2_setMeasure_37 : decode cX2_setMeasure 37 = .ok (.iload_n 2, 1) := by decide +kernel
theorem dX2_setMeasure_38 : decode cX2_setMeasure 38 = .ok (.putfield 37, 3) := by decide +kernel
theorem dX2_setMeasure_41 : decode cX2_setMeasure 41 = .ok (.goto 11, 3) := by decide +kernel
theorem dX2_setMeasure_44 : decode cX2_setMeasure 44 = .ok (.aload_n 0, 1) := by decide +kernel
theorem dX2_setMeasure_45 : decode cX2_setMeasure 45 = .ok (.iload_n 2, 1) := by decide +kernel
theorem dX2_setMeasure_46 : decode cX2_setMeasure 46 = .ok (.putfield 40, 3) := by decide +kernel
theorem dX2_setMeasure_49 : decode cX2_setMeasure 49 = .ok (.goto 3, 3) := by decide +kernel
theorem dX2_setMeasure_52 : decode cX2_setMeasure 52 = .ok (.return_, 1) := by decide +kernel
theorem dX2_has_0 : decode cX2_has 0 = .ok (.iconst 0, 1) := by decide +kernel
theorem dX2_has_1 : decode cX2_has 1 = .ok (.istore_n 2, 1) := by decide +kernel
theorem dX2_has_2 : decode cX2_has 2 = .ok (.iload_n 2, 1) := by decide +kernel
theorem dX2_has_3 : decode cX2_has 3 = .ok (.aload_n 0, 1) := by decide +kernel
theorem dX2_has_4 : decode cX2_has 4 = .ok (.getfield 46, 3) := by decide +kernel
theorem dX2_has_7 : decode cX2_has 7 = .ok (.if_icmp .ge 27, 3) := by decide +kernel
theorem dX2_has_10 : decode cX2_has 10 = .ok (.iload_n 2, 1) := by decide +kernel
theorem dX2_has_11 : decode cX2_has 11 = .ok (.bipush 14, 2) := by decide +kernel
theorem dX2_has_13 : decode cX2_has 13 = .ok (.if_icmp .ge 21, 3) := by decide +kernel
theorem dX2_has_16 : decode cX2_has 16 = .ok (.aload_n 0, 1) := by decide +kernel
theorem dX2_has_17 : decode cX2_has 17 = .ok (.getfield 11, 3) := by decide +kernel
theorem dX2_has_20 : decode cX2_has 20 = .ok (.iload_n 2, 1) := by decide +kernel
theorem dX2_has_21 : decode cX2_has 21 = .ok (.iaload, 1) := by decide +kernel
theorem dX2_has_22 : decode cX2_has 22 = .ok (.iload_n 1, 1) := by decide +kernel
theorem dX2_has_23 : decode cX2_has 23 = .ok (.if_icmp .ne 5, 3) := by decide +kernel
theorem dX2_has_26 : decode cX2_has 26 = .ok (.iconst 1, 1) := by decide +kernel
theorem dX2_has_27 : decode cX2_has 27 = .ok (.ireturn, 1) := by decide +kernel
theorem dX2_has_28 : decode cX2_has 28 = .ok (.iinc 2 1, 3) := by decide +kernel
theorem dX2_has_31 : decode cX2_has 31 = .ok (.goto (-29), 3) := by decide +kernel
theorem dX2_has_34 : decode cX2_has 34 = .ok (.iconst 0, 1) := by decide +kernel
theorem dX2_has_35 : decode cX2_has 35 = .ok (.ireturn, 1) := by decide +kernel
theorem dX2_numberOf_0 : decode cX2_numberOf 0 = .ok (.iload_n 1, 1) := by decide +kernel
theorem dX2_numberOf_1 : decode cX2_numberOf 1 = .ok (.ifCond .lt 18, 3) := by decide +kernel
theorem dX2_numberOf_4 : decode cX2_numberOf 4 = .ok (.iload_n 1, 1) := by decide +kernel
theorem dX2_numberOf_5 : decode cX2_numberOf 5 = .ok (.bipush 14, 2) := by decide +kernel
theorem dX2_numberOf_7 : decode cX2_numberOf 7 = .ok (.if_icmp .ge 12, 3) := by decide +kernel
theorem dX2_numberOf_10 : decode cX2_numberOf 10 = .ok (.aload_n 0, 1) := by decide +kernel
theorem dX2_numberOf_11 : decode cX2_numberOf 11 = .ok (.getfield 18, 3) := by decide +kernel
theorem dX2_numberOf_14 : decode cX2_numberOf 14 = .ok (.iload_n 1, 1) := by decide +kernel
theorem dX2_numberOf_15 : decode cX2_numberOf 15 = .ok (.iaload, 1) := by decide +kernel
theorem dX2_numberOf_16 : decode cX2_numberOf 16 = .ok (.goto 4, 3) := by decide +kernel
theorem dX2_numberOf_19 : decode cX2_numberOf 19 = .ok (.iconst 0, 1) := by decide +kernel
theorem dX2_numberOf_20 : decode cX2_numberOf 20 = .ok (.ireturn, 1) := by decide +kernel
theorem dX2_weight_0 : decode cX2_weight 0 = .ok (.iconst 0, 1) := by decide +kernel
theorem dX2_weight_1 : decode cX2_weight 1 = .ok (.istore_n 3, 1) := by decide +kernel
theorem dX2_weight_2 : decode cX2_weight 2 = .ok (.iload_n 3, 1) := by decide +kernel
theorem dX2_weight_3 : decode cX2_weight 3 = .ok (.aload_n 0, 1) := by decide +kernel
theorem dX2_weight_4 : decode cX2_weight 4 = .ok (.getfield 46, 3) := by decide +kernel
theorem dX2_weight_7 : decode cX2_weight 7 = .ok (.if_icmp .ge 40, 3) := by decide +kernel
theorem dX2_weight_10 : decode cX2_weight 10 = .ok (.iload_n 3, 1) := by decide +kernel
theorem dX2_weight_11 : decode cX2_weight 11 = .ok (.bipush 14, 2) := by decide +kernel
theorem dX2_weight_13 : decode cX2_weight 13 = .ok (.if_icmp .ge 34, 3) := by decide +kernel
theorem dX2_weight_16 : decode cX2_weight 16 = .ok (.aload_n 0, 1) := by decide +kernel
theorem dX2_weight_17 : decode cX2_weight 17 = .ok (.iload_n 3, 1) := by decide +kernel
theorem dX2_weight_18 : decode cX2_weight 18 = .ok (.invokevirtual 49, 3) := by decide +kernel
theorem dX2_weight_21 : decode cX2_weight 21 = .ok (.iload_n 1, 1) := by decide +kernel
theorem dX2_weight_22 : decode cX2_weight 22 = .ok (.if_icmp .ne 19, 3) := by decide +kernel
theorem dX2_weight_25 : decode cX2_weight 25 = .ok (.aload_n 0, 1) := by decide +kernel
theorem dX2_weight_26 : decode cX2_weight 26 = .ok (.iload_n 3, 1) := by decide +kernel
theorem dX2_weight_27 : decode cX2_weight 27 = .ok (.aload_n 2, 1) := by decide +kernel
theorem dX2_weight_28 : decode cX2_weight 28 = .ok (.invokevirtual 53, 3) := by decide +kernel
theorem dX2_weight_31 : decode cX2_weight 31 = .ok (.ifCond .eq 10, 3) := by decide +kernel
theorem dX2_weight_34 : decode cX2_weight 34 = .ok (.aload_n 0, 1) := by decide +kernel
theorem dX2_weight_35 : decode cX2_weight 35 = .ok (.getfield 18, 3) := by decide +kernel
theorem dX2_weight_38 : decode cX2_weight 38 = .ok (.iload_n 3, 1) := by decide +kernel
theorem dX2_weight_39 : decode cX2_weight 39 = .ok (.iaload, 1) := by decide +kernel
theorem dX2_weight_40 : decode cX2_weight 40 = .ok (.ireturn, 1) := by decide +kernel
theorem dX2_weight_41 : decode cX2_weight 41 = .ok (.iinc 3 1, 3) := by decide +kernel
theorem dX2_weight_44 : decode cX2_weight 44 = .ok (.goto (-42), 3) := by decide +kernel
theorem dX2_weight_47 : decode cX2_weight 47 = .ok (.iconst 0, 1) := by decide +kernel
theorem dX2_weight_48 : decode cX2_weight 48 = .ok (.ireturn, 1) := by decide +kernel
theorem dX2_weighing_0 : decode cX2_weighing 0 = .ok (.iconst 0, 1) := by decide +kernel
theorem dX2_weighing_1 : decode cX2_weighing 1 = .ok (.istore_n 2, 1) := by decide +kernel
theorem dX2_weighing_2 : decode cX2_weighing 2 = .ok (.iconst 0, 1) := by decide +kernel
theorem dX2_weighing_3 : decode cX2_weighing 3 = .ok (.istore_n 3, 1) := by decide +kernel
theorem dX2_weighing_4 : decode cX2_weighing 4 = .ok (.iload_n 3, 1) := by decide +kernel
theorem dX2_weighing_5 : decode cX2_weighing 5 = .ok (.aload_n 0, 1) := by decide +kernel
theorem dX2_weighing_6 : decode cX2_weighing 6 = .ok (.getfield 46, 3) := by decide +kernel
theorem dX2_weighing_9 : decode cX2_weighing 9 = .ok (.if_icmp .ge 59, 3) := by decide +kernel
theorem dX2_weighing_12 : decode cX2_weighing 12 = .ok (.iload_n 3, 1) := by decide +kernel
theorem dX2_weighing_13 : decode cX2_weighing 13 = .ok (.bipush 14, 2) := by decide +kernel
theorem dX2_weighing_15 : decode cX2_weighing 15 = .ok (.if_icmp .ge 53, 3) := by decide +kernel
theorem dX2_weighing_18 : decode cX2_weighing 18 = .ok (.iconst 4, 1) := by decide +kernel
theorem dX2_weighing_19 : decode cX2_weighing 19 = .ok (.aload_n 0, 1) := by decide +kernel
theorem dX2_weighing_20 : decode cX2_weighing 20 = .ok (.iload_n 3, 1) := by decide +kernel
theorem dX2_weighing_21 : decode cX2_weighing 21 = .ok (.invokevirtual 49, 3) := by decide +kernel
theorem dX2_weighing_24 : decode cX2_weighing 24 = .ok (.imul, 1) := by decide +kernel
theorem dX2_weighing_25 : decode cX2_weighing 25 = .ok (.istore 4, 2) := by decide +kernel
theorem dX2_weighing_27 : decode cX2_weighing 27 = .ok (.iload 4, 2) := by decide +kernel
theorem dX2_weighing_29 : decode cX2_weighing 29 = .ok (.bipush 32, 2) := by decide +kernel
theorem dX2_weighing_31 : decode cX2_weighing 31 = .ok (.if_icmp .ge 31, 3) := by decide +kernel
theorem dX2_weighing_34 : decode cX2_weighing 34 = .ok (.iload_n 2, 1) := by decide +kernel
theorem dX2_weighing_35 : decode cX2_weighing 35 = .ok (.iload 4, 2) := by decide +kernel
theorem dX2_weighing_37 : decode cX2_weighing 37 = .ok (.ishr, 1) := by decide +kernel
theorem dX2_weighing_38 : decode cX2_weighing 38 = .ok (.bipush 15, 2) := by decide +kernel
theorem dX2_weighing_40 : decode cX2_weighing 40 = .ok (.iand, 1) := by decide +kernel
theorem dX2_weighing_41 : decode cX2_weighing 41 = .ok (.ifCond .ne 21, 3) := by decide +kernel
theorem dX2_weighing_44 : decode cX2_weighing 44 = .ok (.aload_n 0, 1) := by decide +kernel
theorem dX2_weighing_45 : decode cX2_weighing 45 = .ok (.iload_n 3, 1) := by decide +kernel
theorem dX2_weighing_46 : decode cX2_weighing 46 = .ok (.aload_n 1, 1) := by decide +kernel
theorem dX2_weighing_47 : decode cX2_weighing 47 = .ok (.invokevirtual 53, 3) := by decide +kernel
theorem dX2_weighing_50 : decode cX2_weighing 50 = .ok (.ifCond .eq 12, 3) := by decide +kernel
theorem dX2_weighing_53 : decode cX2_weighing 53 = .ok (.iload_n 2, 1) := by decide +kernel
theorem dX2_weighing_54 : decode cX2_weighing 54 = .ok (.iload_n 3, 1) := by decide +kernel
theorem dX2_weighing_55 : decode cX2_weighing 55 = .ok (.iconst 1, 1) := by decide +kernel
theorem dX2_weighing_56 : decode cX2_weighing 56 = .ok (.iadd, 1) := by decide +kernel
theorem dX2_weighing_57 : decode cX2_weighing 57 = .ok (.iload 4, 2) := by decide +kernel
theorem dX2_weighing_59 : decode cX2_weighing 59 = .ok (.ishl, 1) := by decide +kernel
theorem dX2_weighing_60 : decode cX2_weighing 60 = .ok (.ior, 1) := by decide +kernel
theorem dX2_weighing_61 : decode cX2_weighing 61 = .ok (.istore_n 2, 1) := by decide +kernel
theorem dX2_weighing_62 : decode cX2_weighing 62 = .ok (.iinc 3 1, 3) := by decide +kernel
theorem dX2_weighing_65 : decode cX2_weighing 65 = .ok (.goto (-61), 3) := by decide +kernel
theorem dX2_weighing_68 : decode cX2_weighing 68 = .ok (.iload_n 2, 1) := by decide +kernel
theorem dX2_weighing_69 : decode cX2_weighing 69 = .ok (.ireturn, 1) := by decide +kernel
theorem dX2_letsRefuse_0 : decode cX2_letsRefuse 0 = .ok (.iconst 0, 1) := by decide +kernel
theorem dX2_letsRefuse_1 : decode cX2_letsRefuse 1 = .ok (.istore_n 2, 1) := by decide +kernel
theorem dX2_letsRefuse_2 : decode cX2_letsRefuse 2 = .ok (.iload_n 2, 1) := by decide +kernel
theorem dX2_letsRefuse_3 : decode cX2_letsRefuse 3 = .ok (.aload_n 0, 1) := by decide +kernel
theorem dX2_letsRefuse_4 : decode cX2_letsRefuse 4 = .ok (.getfield 46, 3) := by decide +kernel
theorem dX2_letsRefuse_7 : decode cX2_letsRefuse 7 = .ok (.if_icmp .ge 36, 3) := by decide +kernel
theorem dX2_letsRefuse_10 : decode cX2_letsRefuse 10 = .ok (.iload_n 2, 1) := by decide +kernel
theorem dX2_letsRefuse_11 : decode cX2_letsRefuse 11 = .ok (.bipush 14, 2) := by decide +kernel
theorem dX2_letsRefuse_13 : decode cX2_letsRefuse 13 = .ok (.if_icmp .ge 30, 3) := by decide +kernel
theorem dX2_letsRefuse_16 : decode cX2_letsRefuse 16 = .ok (.aload_n 0, 1) := by decide +kernel
theorem dX2_letsRefuse_17 : decode cX2_letsRefuse 17 = .ok (.getfield 11, 3) := by decide +kernel
theorem dX2_letsRefuse_20 : decode cX2_letsRefuse 20 = .ok (.iload_n 2, 1) := by decide +kernel
theorem dX2_letsRefuse_21 : decode cX2_letsRefuse 21 = .ok (.iaload, 1) := by decide +kernel
theorem dX2_letsRefuse_22 : decode cX2_letsRefuse 22 = .ok (.iconst 2, 1) := by decide +kernel
theorem dX2_letsRefuse_23 : decode cX2_letsRefuse 23 = .ok (.if_icmp .ne 14, 3) := by decide +kernel
theorem dX2_letsRefuse_26 : decode cX2_letsRefuse 26 = .ok (.aload_n 0, 1) := by decide +kernel
theorem dX2_letsRefuse_27 : decode cX2_letsRefuse 27 = .ok (.iload_n 2, 1) := by decide +kernel
theorem dX2_letsRefuse_28 : decode cX2_letsRefuse 28 = .ok (.aload_n 1, 1) := by decide +kernel
theorem dX2_letsRefuse_29 : decode cX2_letsRefuse 29 = .ok (.invokevirtual 53, 3) := by decide +kernel
theorem dX2_letsRefuse_32 : decode cX2_letsRefuse 32 = .ok (.ifCond .eq 5, 3) := by decide +kernel
theorem dX2_letsRefuse_35 : decode cX2_letsRefuse 35 = .ok (.iconst 1, 1) := by decide +kernel
theorem dX2_letsRefuse_36 : decode cX2_letsRefuse 36 = .ok (.ireturn, 1) := by decide +kernel
theorem dX2_letsRefuse_37 : decode cX2_letsRefuse 37 = .ok (.iinc 2 1, 3) := by decide +kernel
theorem dX2_letsRefuse_40 : decode cX2_letsRefuse 40 = .ok (.goto (-38), 3) := by decide +kernel
theorem dX2_letsRefuse_43 : decode cX2_letsRefuse 43 = .ok (.iconst 0, 1) := by decide +kernel
theorem dX2_letsRefuse_44 : decode cX2_letsRefuse 44 = .ok (.ireturn, 1) := by decide +kernel
theorem dX2_countOfBacks_0 : decode cX2_countOfBacks 0 = .ok (.iconst 0, 1) := by decide +kernel
theorem dX2_countOfBacks_1 : decode cX2_countOfBacks 1 = .ok (.istore_n 2, 1) := by decide +kernel
theorem dX2_countOfBacks_2 : decode cX2_countOfBacks 2 = .ok (.iconst 0, 1) := by decide +kernel
theorem dX2_countOfBacks_3 : decode cX2_countOfBacks 3 = .ok (.istore_n 3, 1) := by decide +kernel
theorem dX2_countOfBacks_4 : decode cX2_countOfBacks 4 = .ok (.iload_n 3, 1) := by decide +kernel
theorem dX2_countOfBacks_5 : decode cX2_countOfBacks 5 = .ok (.aload_n 0, 1) := by decide +kernel
theorem dX2_countOfBacks_6 : decode cX2_countOfBacks 6 = .ok (.getfield 46, 3) := by decide +kernel
theorem dX2_countOfBacks_9 : decode cX2_countOfBacks 9 = .ok (.if_icmp .ge 33, 3) := by decide +kernel
theorem dX2_countOfBacks_12 : decode cX2_countOfBacks 12 = .ok (.iload_n 3, 1) := by decide +kernel
theorem dX2_countOfBacks_13 : decode cX2_countOfBacks 13 = .ok (.bipush 14, 2) := by decide +kernel
theorem dX2_countOfBacks_15 : decode cX2_countOfBacks 15 = .ok (.if_icmp .ge 27, 3) := by decide +kernel
theorem dX2_countOfBacks_18 : decode cX2_countOfBacks 18 = .ok (.aload_n 0, 1) := by decide +kernel
theorem dX2_countOfBacks_19 : decode cX2_countOfBacks 19 = .ok (.getfield 11, 3) := by decide +kernel
theorem dX2_countOfBacks_22 : decode cX2_countOfBacks 22 = .ok (.iload_n 3, 1) := by decide +kernel
theorem dX2_countOfBacks_23 : decode cX2_countOfBacks 23 = .ok (.iaload, 1) := by decide +kernel
theorem dX2_countOfBacks_24 : decode cX2_countOfBacks 24 = .ok (.iconst 1, 1) := by decide +kernel
theorem dX2_countOfBacks_25 : decode cX2_countOfBacks 25 = .ok (.if_icmp .ne 11, 3) := by decide +kernel
theorem dX2_countOfBacks_28 : decode cX2_countOfBacks 28 = .ok (.iload_n 2, 1) := by decide +kernel
theorem dX2_countOfBacks_29 : decode cX2_countOfBacks 29 = .ok (.iload_n 1, 1) := by decide +kernel
theorem dX2_countOfBacks_30 : decode cX2_countOfBacks 30 = .ok (.if_icmp .ge 6, 3) := by decide +kernel
theorem dX2_countOfBacks_33 : decode cX2_countOfBacks 33 = .ok (.iinc 2 1, 3) := by decide +kernel
theorem dX2_countOfBacks_36 : decode cX2_countOfBacks 36 = .ok (.iinc 3 1, 3) := by decide +kernel
theorem dX2_countOfBacks_39 : decode cX2_countOfBacks 39 = .ok (.goto (-35), 3) := by decide +kernel
theorem dX2_countOfBacks_42 : decode cX2_countOfBacks 42 = .ok (.iload_n 2, 1) := by decide +kernel
theorem dX2_countOfBacks_43 : decode cX2_countOfBacks 43 = .ok (.ireturn, 1) := by decide +kernel
theorem dX2_backClauses_0 : decode cX2_backClauses 0 = .ok (.iconst 0, 1) := by decide +kernel
theorem dX2_backClauses_1 : decode cX2_backClauses 1 = .ok (.istore_n 2, 1) := by decide +kernel
theorem dX2_backClauses_2 : decode cX2_backClauses 2 = .ok (.iconst 0, 1) := by decide +kernel
theorem dX2_backClauses_3 : decode cX2_backClauses 3 = .ok (.istore_n 3, 1) := by decide +kernel
theorem dX2_backClauses_4 : decode cX2_backClauses 4 = .ok (.iconst 0, 1) := by decide +kernel
theorem dX2_backClauses_5 : decode cX2_backClauses 5 = .ok (.istore 4, 2) := by decide +kernel
theorem dX2_backClauses_7 : decode cX2_backClauses 7 = .ok (.iload 4, 2) := by decide +kernel
theorem dX2_backClauses_9 : decode cX2_backClauses 9 = .ok (.aload_n 0, 1) := by decide +kernel
theorem dX2_backClauses_10 : decode cX2_backClauses 10 = .ok (.getfield 46, 3) := by decide +kernel
theorem dX2_backClauses_13 : decode cX2_backClauses 13 = .ok (.if_icmp .ge 41, 3) := by decide +kernel
theorem dX2_backClauses_16 : decode cX2_backClauses 16 = .ok (.iload 4, 2) := by decide +kernel
theorem dX2_backClauses_18 : decode cX2_backClauses 18 = .ok (.bipush 14, 2) := by decide +kernel
theorem dX2_backClauses_20 : decode cX2_backClauses 20 = .ok (.if_icmp .ge 34, 3) := by decide +kernel
theorem dX2_backClauses_23 : decode cX2_backClauses 23 = .ok (.aload_n 0, 1) := by decide +kernel
theorem dX2_backClauses_24 : decode cX2_backClauses 24 = .ok (.getfield 11, 3) := by decide +kernel
theorem dX2_backClauses_27 : decode cX2_backClauses 27 = .ok (.iload 4, 2) := by decide +kernel
theorem dX2_backClauses_29 : decode cX2_backClauses 29 = .ok (.iaload, 1) := by decide +kernel
theorem dX2_backClauses_30 : decode cX2_backClauses 30 = .ok (.iconst 1, 1) := by decide +kernel
theorem dX2_backClauses_31 : decode cX2_backClauses 31 = .ok (.if_icmp .ne 17, 3) := by decide +kernel
theorem dX2_backClauses_34 : decode cX2_backClauses 34 = .ok (.iload_n 2, 1) := by decide +kernel
theorem dX2_backClauses_35 : decode cX2_backClauses 35 = .ok (.iload_n 1, 1) := by decide +kernel
theorem dX2_backClauses_36 : decode cX2_backClauses 36 = .ok (.iload_n 3, 1) := by decide +kernel
theorem dX2_backClauses_37 : decode cX2_backClauses 37 = .ok (.ishr, 1) := by decide +kernel
theorem dX2_backClauses_38 : decode cX2_backClauses 38 = .ok (.iconst 1, 1) := by decide +kernel
theorem dX2_backClauses_39 : decode cX2_backClauses 39 = .ok (.iand, 1) := by decide +kernel
theorem dX2_backClauses_40 : decode cX2_backClauses 40 = .ok (.iload 4, 2) := by decide +kernel
theorem dX2_backClauses_42 : decode cX2_backClauses 42 = .ok (.ishl, 1) := by decide +kernel
theorem dX2_backClauses_43 : decode cX2_backClauses 43 = .ok (.ior, 1) := by decide +kernel
theorem dX2_backClauses_44 : decode cX2_backClauses 44 = .ok (.istore_n 2, 1) := by decide +kernel
theorem dX2_backClauses_45 : decode cX2_backClauses 45 = .ok (.iinc 3 1, 3) := by decide +kernel
theorem dX2_backClauses_48 : decode cX2_backClauses 48 = .ok (.iinc 4 1, 3) := by decide +kernel
theorem dX2_backClauses_51 : decode cX2_backClauses 51 = .ok (.goto (-44), 3) := by decide +kernel
theorem dX2_backClauses_54 : decode cX2_backClauses 54 = .ok (.iload_n 2, 1) := by decide +kernel
theorem dX2_backClauses_55 : decode cX2_backClauses 55 = .ok (.ireturn, 1) := by decide +kernel
theorem dX2_slotOf_0 : decode cX2_slotOf 0 = .ok (.aload_n 0, 1) := by decide +kernel
theorem dX2_slotOf_1 : decode cX2_slotOf 1 = .ok (.getfield 11, 3) := by decide +kernel
theorem dX2_slotOf_4 : decode cX2_slotOf 4 = .ok (.iload_n 1, 1) := by decide +kernel
theorem dX2_slotOf_5 : decode cX2_slotOf 5 = .ok (.iaload, 1) := by decide +kernel
theorem dX2_slotOf_6 : decode cX2_slotOf 6 = .ok (.istore_n 2, 1) := by decide +kernel
theorem dX2_slotOf_7 : decode cX2_slotOf 7 = .ok (.iload_n 2, 1) := by decide +kernel
theorem dX2_slotOf_8 : decode cX2_slotOf 8 = .ok (.ifCond .eq 8, 3) := by decide +kernel
theorem dX2_slotOf_11 : decode cX2_slotOf 11 = .ok (.iload_n 2, 1) := by decide +kernel
theorem dX2_slotOf_12 : decode cX2_slotOf 12 = .ok (.iconst 1, 1) := by decide +kernel
theorem dX2_slotOf_13 : decode cX2_slotOf 13 = .ok (.if_icmp .ne 16, 3) := by decide +kernel
theorem dX2_slotOf_16 : decode cX2_slotOf 16 = .ok (.iload_n 2, 1) := by decide +kernel
theorem dX2_slotOf_17 : decode cX2_slotOf 17 = .ok (.iconst 4, 1) := by decide +kernel
theorem dX2_slotOf_18 : decode cX2_slotOf 18 = .ok (.imul, 1) := by decide +kernel
theorem dX2_slotOf_19 : decode cX2_slotOf 19 = .ok (.aload_n 0, 1) := by decide +kernel
theorem dX2_slotOf_20 : decode cX2_slotOf 20 = .ok (.getfield 15, 3) := by decide +kernel
theorem dX2_slotOf_23 : decode cX2_slotOf 23 = .ok (.iload_n 1, 1) := by decide +kernel
theorem dX2_slotOf_24 : decode cX2_slotOf 24 = .ok (.iaload, 1) := by decide +kernel
theorem dX2_slotOf_25 : decode cX2_slotOf 25 = .ok (.iadd, 1) := by decide +kernel
theorem dX2_slotOf_26 : decode cX2_slotOf 26 = .ok (.goto 5, 3) := by decide +kernel
theorem dX2_slotOf_29 : decode cX2_slotOf 29 = .ok (.bipush 8, 2) := by decide +kernel
theorem dX2_slotOf_31 : decode cX2_slotOf 31 = .ok (.ireturn, 1) := by decide +kernel
theorem dX2_holds_0 : decode cX2_holds 0 = .ok (.iconst 0, 1) := by decide +kernel
theorem dX2_holds_1 : decode cX2_holds 1 = .ok (.istore_n 3, 1) := by decide +kernel
theorem dX2_holds_2 : decode cX2_holds 2 = .ok (.aload_n 0, 1) := by decide +kernel
theorem dX2_holds_3 : decode cX2_holds 3 = .ok (.getfield 21, 3) := by decide +kernel
theorem dX2_holds_6 : decode cX2_holds 6 = .ok (.iload_n 1, 1) := by decide +kernel
theorem dX2_holds_7 : decode cX2_holds 7 = .ok (.iaload, 1) := by decide +kernel
theorem dX2_holds_8 : decode cX2_holds 8 = .ok (.istore 4, 2) := by decide +kernel
theorem dX2_holds_10 : decode cX2_holds 10 = .ok (.iload 4, 2) := by decide +kernel
theorem dX2_holds_12 : decode cX2_holds 12 = .ok (.aload_n 0, 1) := by decide +kernel
theorem dX2_holds_13 : decode cX2_holds 13 = .ok (.getfield 24, 3) := by decide +kernel
theorem dX2_holds_16 : decode cX2_holds 16 = .ok (.iload_n 1, 1) := by decide +kernel
theorem dX2_holds_17 : decode cX2_holds 17 = .ok (.iaload, 1) := by decide +kernel
theorem dX2_holds_18 : decode cX2_holds 18 = .ok (.if_icmp .ge 144, 3) := by decide +kernel
theorem dX2_holds_21 : decode cX2_holds 21 = .ok (.iload 4, 2) := by decide +kernel
theorem dX2_holds_23 : decode cX2_holds 23 = .ok (.sipush 256, 3) := by decide +kernel
theorem dX2_holds_26 : decode cX2_holds 26 = .ok (.if_icmp .ge 136, 3) := by decide +kernel
theorem dX2_holds_29 : decode cX2_holds 29 = .ok (.aload_n 0, 1) := by decide +kernel
theorem dX2_holds_30 : decode cX2_holds 30 = .ok (.getfield 27, 3) := by decide +kernel
theorem dX2_holds_33 : decode cX2_holds 33 = .ok (.iload 4, 2) := by decide +kernel
theorem dX2_holds_35 : decode cX2_holds 35 = .ok (.iaload, 1) := by decide +kernel
theorem dX2_holds_36 : decode cX2_holds 36 = .ok (.istore 5, 2) := by decide +kernel
theorem dX2_holds_38 : decode cX2_holds 38 = .ok (.iload 5, 2) := by decide +kernel
theorem dX2_holds_40 : decode cX2_holds 40 = .ok (.sipush 20000, 3) := by decide +kernel
theorem dX2_holds_43 : decode cX2_holds 43 = .ok (.if_icmp .ge 44, 3) := by decide +kernel
theorem dX2_holds_46 : decode cX2_holds 46 = .ok (.iload_n 3, 1) := by decide +kernel
theorem dX2_holds_47 : decode cX2_holds 47 = .ok (.bipush 64, 2) := by decide +kernel
theorem dX2_holds_49 : decode cX2_holds 49 = .ok (.if_icmp .ge 107, 3) := by decide +kernel
theorem dX2_holds_52 : decode cX2_holds 52 = .ok (.aload_n 0, 1) := by decide +kernel
theorem dX2_holds_53 : decode cX2_holds 53 = .ok (.getfield 30, 3) := by decide +kernel
theorem dX2_holds_56 : decode cX2_holds 56 = .ok (.iload_n 3, 1) := by decide +kernel
theorem dX2_holds_57 : decode cX2_holds 57 = .ok (.iload 5, 2) := by decide +kernel
theorem dX2_holds_59 : decode cX2_holds 59 = .ok (.sipush 10000, 3) := by decide +kernel
theorem dX2_holds_62 : decode cX2_holds 62 = .ok (.if_icmp .ge 8, 3) := by decide +kernel
theorem dX2_holds_65 : decode cX2_holds 65 = .ok (.iload 5, 2) := by decide +kernel
theorem dX2_holds_67 : decode cX2_holds 67 = .ok (.goto 13, 3) := by decide +kernel
theorem dX2_holds_70 : decode cX2_holds 70 = .ok (.aload_n 2, 1) := by decide +kernel
theorem dX2_holds_71 : decode cX2_holds 71 = .ok (.iload 5, 2) := by decide +kernel
theorem dX2_holds_73 : decode cX2_holds 73 = .ok (.sipush 10000, 3) := by decide +kernel
theorem dX2_holds_76 : decode cX2_holds 76 = .ok (.isub, 1) := by decide +kernel
theorem dX2_holds_77 : decode cX2_holds 77 = .ok (.invokevirtual 57, 3) := by decide +kernel
theorem dX2_holds_80 : decode cX2_holds 80 = .ok (.iastore, 1) := by decide +kernel
theorem dX2_holds_81 : decode cX2_holds 81 = .ok (.iinc 3 1, 3) := by decide +kernel
theorem dX2_holds_84 : decode cX2_holds 84 = .ok (.goto 72, 3) := by decide +kernel
theorem dX2_holds_87 : decode cX2_holds 87 = .ok (.iload 5, 2) := by decide +kernel
theorem dX2_holds_89 : decode cX2_holds 89 = .ok (.sipush 20007, 3) := by decide +kernel
theorem dX2_holds_92 : decode cX2_holds 92 = .ok (.if_icmp .ne 29, 3) := by decide +kernel
theorem dX2_holds_95 : decode cX2_holds 95 = .ok (.iload_n 3, 1) := by decide +kernel
theorem dX2_holds_96 : decode cX2_holds 96 = .ok (.iconst 1, 1) := by decide +kernel
theorem dX2_holds_97 : decode cX2_holds 97 = .ok (.if_icmp .lt 24, 3) := by decide +kernel
theorem dX2_holds_100 : decode cX2_holds 100 = .ok (.aload_n 0, 1) := by decide +kernel
theorem dX2_holds_101 : decode cX2_holds 101 = .ok (.getfield 30, 3) := by decide +kernel
theorem dX2_holds_104 : decode cX2_holds 104 = .ok (.iload_n 3, 1) := by decide +kernel
theorem dX2_holds_105 : decode cX2_holds 105 = .ok (.iconst 1, 1) := by decide +kernel
theorem dX2_holds_106 : decode cX2_holds 106 = .ok (.isub, 1) := by decide +kernel
theorem dX2_holds_107 : decode cX2_holds 107 = .ok (.iconst 1, 1) := by decide +kernel
theorem dX2_holds_108 : decode cX2_holds 108 = .ok (.aload_n 0, 1) := by decide +kernel
theorem dX2_holds_109 : decode cX2_holds 109 = .ok (.getfield 30, 3) := by decide +kernel
theorem dX2_holds_112 : decode cX2_holds 112 = .ok (.iload_n 3, 1) := by decide +kernel
theorem dX2_holds_113 : decode cX2_holds 113 = .ok (.iconst 1, 1) := by decide +kernel
theorem dX2_holds_114 : decode cX2_holds 114 = .ok (.isub, 1) := by decide +kernel
theorem dX2_holds_115 : decode cX2_holds 115 = .ok (.iaload, 1) := by decide +kernel
theorem dX2_holds_116 : decode cX2_holds 116 = .ok (.isub, 1) := by decide +kernel
theorem dX2_holds_117 : decode cX2_holds 117 = .ok (.iastore, 1) := by decide +kernel
theorem dX2_holds_118 : decode cX2_holds 118 = .ok (.goto 38, 3) := by decide +kernel
theorem dX2_holds_121 : decode cX2_holds 121 = .ok (.iload_n 3, 1) := by decide +kernel
theorem dX2_holds_122 : decode cX2_holds 122 = .ok (.iconst 2, 1) := by decide +kernel
theorem dX2_holds_123 : decode cX2_holds 123 = .ok (.if_icmp .lt 33, 3) := by decide +kernel
theorem dX2_holds_126 : decode cX2_holds 126 = .ok (.iinc 3 (-1), 3) := by decide +kernel
theorem dX2_holds_129 : decode cX2_holds 129 = .ok (.aload_n 0, 1) := by decide +kernel
theorem dX2_holds_130 : decode cX2_holds 130 = .ok (.getfield 30, 3) := by decide +kernel
theorem dX2_holds_133 : decode cX2_holds 133 = .ok (.iload_n 3, 1) := by decide +kernel
theorem dX2_holds_134 : decode cX2_holds 134 = .ok (.iconst 1, 1) := by decide +kernel
theorem dX2_holds_135 : decode cX2_holds 135 = .ok (.isub, 1) := by decide +kernel
theorem dX2_holds_136 : decode cX2_holds 136 = .ok (.iload 5, 2) := by decide +kernel
theorem dX2_holds_138 : decode cX2_holds 138 = .ok (.aload_n 0, 1) := by decide +kernel
theorem dX2_holds_139 : decode cX2_holds 139 = .ok (.getfield 30, 3) := by decide +kernel
theorem dX2_holds_142 : decode cX2_holds 142 = .ok (.iload_n 3, 1) := by decide +kernel
theorem dX2_holds_143 : decode cX2_holds 143 = .ok (.iconst 1, 1) := by decide +kernel
theorem dX2_holds_144 : decode cX2_holds 144 = .ok (.isub, 1) := by decide +kernel
theorem dX2_holds_145 : decode cX2_holds 145 = .ok (.iaload, 1) := by decide +kernel
theorem dX2_holds_146 : decode cX2_holds 146 = .ok (.aload_n 0, 1) := by decide +kernel
theorem dX2_holds_147 : decode cX2_holds 147 = .ok (.getfield 30, 3) := by decide +kernel
theorem dX2_holds_150 : decode cX2_holds 150 = .ok (.iload_n 3, 1) := by decide +kernel
theorem dX2_holds_151 : decode cX2_holds 151 = .ok (.iaload, 1) := by decide +kernel
theorem dX2_holds_152 : decode cX2_holds 152 = .ok (.invokestatic 62, 3) := by decide +kernel
theorem dX2_holds_155 : decode cX2_holds 155 = .ok (.iastore, 1) := by decide +kernel
theorem dX2_holds_156 : decode cX2_holds 156 = .ok (.iinc 4 1, 3) := by decide +kernel
theorem dX2_holds_159 : decode cX2_holds 159 = .ok (.goto (-149), 3) := by decide +kernel
theorem dX2_holds_162 : decode cX2_holds 162 = .ok (.iload_n 3, 1) := by decide +kernel
theorem dX2_holds_163 : decode cX2_holds 163 = .ok (.ifCond .eq 12, 3) := by decide +kernel
theorem dX2_holds_166 : decode cX2_holds 166 = .ok (.aload_n 0, 1) := by decide +kernel
theorem dX2_holds_167 : decode cX2_holds 167 = .ok (.getfield 30, 3) := by decide +kernel
theorem dX2_holds_170 : decode cX2_holds 170 = .ok (.iconst 0, 1) := by decide +kernel
theorem dX2_holds_171 : decode cX2_holds 171 = .ok (.iaload, 1) := by decide +kernel
theorem dX2_holds_172 : decode cX2_holds 172 = .ok (.ifCond .eq 7, 3) := by decide +kernel
theorem dX2_holds_175 : decode cX2_holds 175 = .ok (.iconst 1, 1) := by decide +kernel
theorem dX2_holds_176 : decode cX2_holds 176 = .ok (.goto 4, 3) := by decide +kernel
theorem dX2_holds_179 : decode cX2_holds 179 = .ok (.iconst 0, 1) := by decide +kernel
theorem dX2_holds_180 : decode cX2_holds 180 = .ok (.ireturn, 1) := by decide +kernel
theorem dX2_joined_0 : decode cX2_joined 0 = .ok (.iload_n 0, 1) := by decide +kernel
theorem dX2_joined_1 : decode cX2_joined 1 = .ok (.tableswitch 126 20000 20009 #[55, 59, 63, 74, 85, 96, 107, 126, 118, 122], 55) := by decide +kernel
theorem dX2_joined_56 : decode cX2_joined 56 = .ok (.iload_n 1, 1) := by decide +kernel
theorem dX2_joined_57 : decode cX2_joined 57 = .ok (.iload_n 2, 1) := by decide +kernel
theorem dX2_joined_58 : decode cX2_joined 58 = .ok (.iadd, 1) := by decide +kernel
theorem dX2_joined_59 : decode cX2_joined 59 = .ok (.ireturn, 1) := by decide +kernel
theorem dX2_joined_60 : decode cX2_joined 60 = .ok (.iload_n 1, 1) := by decide +kernel
theorem dX2_joined_61 : decode cX2_joined 61 = .ok (.iload_n 2, 1) := by decide +kernel
theorem dX2_joined_62 : decode cX2_joined 62 = .ok (.isub, 1) := by decide +kernel
theorem dX2_joined_63 : decode cX2_joined 63 = .ok (.ireturn, 1) := by decide +kernel
theorem dX2_joined_64 : decode cX2_joined 64 = .ok (.iload_n 1, 1) := by decide +kernel
theorem dX2_joined_65 : decode cX2_joined 65 = .ok (.iload_n 2, 1) := by decide +kernel
theorem dX2_joined_66 : decode cX2_joined 66 = .ok (.if_icmp .ge 7, 3) := by decide +kernel
theorem dX2_joined_69 : decode cX2_joined 69 = .ok (.iconst 1, 1) := by decide +kernel
theorem dX2_joined_70 : decode cX2_joined 70 = .ok (.goto 4, 3) := by decide +kernel
theorem dX2_joined_73 : decode cX2_joined 73 = .ok (.iconst 0, 1) := by decide +kernel
theorem dX2_joined_74 : decode cX2_joined 74 = .ok (.ireturn, 1) := by decide +kernel
theorem dX2_joined_75 : decode cX2_joined 75 = .ok (.iload_n 1, 1) := by decide +kernel
theorem dX2_joined_76 : decode cX2_joined 76 = .ok (.iload_n 2, 1) := by decide +kernel
theorem dX2_joined_77 : decode cX2_joined 77 = .ok (.if_icmp .gt 7, 3) := by decide +kernel
theorem dX2_joined_80 : decode cX2_joined 80 = .ok (.iconst 1, 1) := by decide +kernel
theorem dX2_joined_81 : decode cX2_joined 81 = .ok (.goto 4, 3) := by decide +kernel
theorem dX2_joined_84 : decode cX2_joined 84 = .ok (.iconst 0, 1) := by decide +kernel
theorem dX2_joined_85 : decode cX2_joined 85 = .ok (.ireturn, 1) := by decide +kernel
theorem dX2_joined_86 : decode cX2_joined 86 = .ok (.iload_n 1, 1) := by decide +kernel
theorem dX2_joined_87 : decode cX2_joined 87 = .ok (.iload_n 2, 1) := by decide +kernel
theorem dX2_joined_88 : decode cX2_joined 88 = .ok (.if_icmp .ne 7, 3) := by decide +kernel
theorem dX2_joined_91 : decode cX2_joined 91 = .ok (.iconst 1, 1) := by decide +kernel
theorem dX2_joined_92 : decode cX2_joined 92 = .ok (.goto 4, 3) := by decide +kernel
theorem dX2_joined_95 : decode cX2_joined 95 = .ok (.iconst 0, 1) := by decide +kernel
theorem dX2_joined_96 : decode cX2_joined 96 = .ok (.ireturn, 1) := by decide +kernel
theorem dX2_joined_97 : decode cX2_joined 97 = .ok (.iload_n 1, 1) := by decide +kernel
theorem dX2_joined_98 : decode cX2_joined 98 = .ok (.iload_n 2, 1) := by decide +kernel
theorem dX2_joined_99 : decode cX2_joined 99 = .ok (.if_icmp .lt 7, 3) := by decide +kernel
theorem dX2_joined_102 : decode cX2_joined 102 = .ok (.iconst 1, 1) := by decide +kernel
theorem dX2_joined_103 : decode cX2_joined 103 = .ok (.goto 4, 3) := by decide +kernel
theorem dX2_joined_106 : decode cX2_joined 106 = .ok (.iconst 0, 1) := by decide +kernel
theorem dX2_joined_107 : decode cX2_joined 107 = .ok (.ireturn, 1) := by decide +kernel
theorem dX2_joined_108 : decode cX2_joined 108 = .ok (.iload_n 1, 1) := by decide +kernel
theorem dX2_joined_109 : decode cX2_joined 109 = .ok (.iload_n 2, 1) := by decide +kernel
theorem dX2_joined_110 : decode cX2_joined 110 = .ok (.if_icmp .le 7, 3) := by decide +kernel
theorem dX2_joined_113 : decode cX2_joined 113 = .ok (.iconst 1, 1) := by decide +kernel
theorem dX2_joined_114 : decode cX2_joined 114 = .ok (.goto 4, 3) := by decide +kernel
theorem dX2_joined_117 : decode cX2_joined 117 = .ok (.iconst 0, 1) := by decide +kernel
theorem dX2_joined_118 : decode cX2_joined 118 = .ok (.ireturn, 1) := by decide +kernel
theorem dX2_joined_119 : decode cX2_joined 119 = .ok (.iload_n 1, 1) := by decide +kernel
theorem dX2_joined_120 : decode cX2_joined 120 = .ok (.iload_n 2, 1) := by decide +kernel
theorem dX2_joined_121 : decode cX2_joined 121 = .ok (.iand, 1) := by decide +kernel
theorem dX2_joined_122 : decode cX2_joined 122 = .ok (.ireturn, 1) := by decide +kernel
theorem dX2_joined_123 : decode cX2_joined 123 = .ok (.iload_n 1, 1) := by decide +kernel
theorem dX2_joined_124 : decode cX2_joined 124 = .ok (.iload_n 2, 1) := by decide +kernel
theorem dX2_joined_125 : decode cX2_joined 125 = .ok (.ior, 1) := by decide +kernel
theorem dX2_joined_126 : decode cX2_joined 126 = .ok (.ireturn, 1) := by decide +kernel
theorem dX2_joined_127 : decode cX2_joined 127 = .ok (.iconst 0, 1) := by decide +kernel
theorem dX2_joined_128 : decode cX2_joined 128 = .ok (.ireturn, 1) := by decide +kernel
