theorem dX0_init_0 : decode cX0_init 0 = .ok (.aload_n 0, 1) := by decide +kernel
theorem dX0_init_1 : decode cX0_init 1 = .ok (.invokespecial 3, 3) := by decide +kernel
theorem dX0_init_4 : decode cX0_init 4 = .ok (.aload_n 0, 1) := by decide +kernel
theorem dX0_init_5 : decode cX0_init 5 = .ok (.new 9, 3) := by decide +kernel
theorem dX0_init_8 : decode cX0_init 8 = .ok (.dup, 1) := by decide +kernel
theorem dX0_init_9 : decode cX0_init 9 = .ok (.invokespecial 11, 3) := by decide +kernel
theorem dX0_init_12 : decode cX0_init 12 = .ok (.putfield 12, 3) := by decide +kernel
theorem dX0_init_15 : decode cX0_init 15 = .ok (.aload_n 0, 1) := by decide +kernel
theorem dX0_init_16 : decode cX0_init 16 = .ok (.new 9, 3) := by decide +kernel
theorem dX0_init_19 : decode cX0_init 19 = .ok (.dup, 1) := by decide +kernel
theorem dX0_init_20 : decode cX0_init 20 = .ok (.invokespecial 11, 3) := by decide +kernel
theorem dX0_init_23 : decode cX0_init 23 = .ok (.putfield 18, 3) := by decide +kernel
theorem dX0_init_26 : decode cX0_init 26 = .ok (.aload_n 0, 1) := by decide +kernel
theorem dX0_init_27 : decode cX0_init 27 = .ok (.new 21, 3) := by decide +kernel
theorem dX0_init_30 : decode cX0_init 30 = .ok (.dup, 1) := by decide +kernel
theorem dX0_init_31 : decode cX0_init 31 = .ok (.invokespecial 23, 3) := by decide +kernel
theorem dX0_init_34 : decode cX0_init 34 = .ok (.putfield 24, 3) := by decide +kernel
theorem dX0_init_37 : decode cX0_init 37 = .ok (.aload_n 0, 1) := by decide +kernel
theorem dX0_init_38 : decode cX0_init 38 = .ok (.new 21, 3) := by decide +kernel
theorem dX0_init_41 : decode cX0_init 41 = .ok (.dup, 1) := by decide +kernel
theorem dX0_init_42 : decode cX0_init 42 = .ok (.invokespecial 23, 3) := by decide +kernel
theorem dX0_init_45 : decode cX0_init 45 = .ok (.putfield 28, 3) := by decide +kernel
theorem dX0_init_48 : decode cX0_init 48 = .ok (.aload_n 0, 1) := by decide +kernel
theorem dX0_init_49 : decode cX0_init 49 = .ok (.sipush 4096, 3) := by decide +kernel
theorem dX0_init_52 : decode cX0_init 52 = .ok (.newarray .int, 2) := by decide +kernel
theorem dX0_init_54 : decode cX0_init 54 = .ok (.putfield 31, 3) := by decide +kernel
theorem dX0_init_57 : decode cX0_init 57 = .ok (.aload_n 0, 1) := by decide +kernel
theorem dX0_init_58 : decode cX0_init 58 = .ok (.sipush 4096, 3) := by decide +kernel
theorem dX0_init_61 : decode cX0_init 61 = .ok (.newarray .int, 2) := by decide +kernel
theorem dX0_init_63 : decode cX0_init 63 = .ok (.putfield 35, 3) := by decide +kernel
theorem dX0_init_66 : decode cX0_init 66 = .ok (.return_, 1) := by decide +kernel
theorem dX0_set_0 : decode cX0_set 0 = .ok (.aload_n 0, 1) := by decide +kernel
theorem dX0_set_1 : decode cX0_set 1 = .ok (.getfield 12, 3) := by decide +kernel
theorem dX0_set_4 : decode cX0_set 4 = .ok (.aload_n 1, 1) := by decide +kernel
theorem dX0_set_5 : decode cX0_set 5 = .ok (.iload_n 2, 1) := by decide +kernel
theorem dX0_set_6 : decode cX0_set 6 = .ok (.iload_n 3, 1) := by decide +kernel
theorem dX0_set_7 : decode cX0_set 7 = .ok (.iload 4, 2) := by decide +kernel
theorem dX0_set_9 : decode cX0_set 9 = .ok (.invokevirtual 38, 3) := by decide +kernel
theorem dX0_set_12 : decode cX0_set 12 = .ok (.aload_n 0, 1) := by decide +kernel
theorem dX0_set_13 : decode cX0_set 13 = .ok (.getfield 18, 3) := by decide +kernel
theorem dX0_set_16 : decode cX0_set 16 = .ok (.aload_n 1, 1) := by decide +kernel
theorem dX0_set_17 : decode cX0_set 17 = .ok (.iload_n 3, 1) := by decide +kernel
theorem dX0_set_18 : decode cX0_set 18 = .ok (.iload_n 2, 1) := by decide +kernel
theorem dX0_set_19 : decode cX0_set 19 = .ok (.iload 4, 2) := by decide +kernel
theorem dX0_set_21 : decode cX0_set 21 = .ok (.invokevirtual 38, 3) := by decide +kernel
theorem dX0_set_24 : decode cX0_set 24 = .ok (.aload_n 0, 1) := by decide +kernel
theorem dX0_set_25 : decode cX0_set 25 = .ok (.aload 5, 2) := by decide +kernel
theorem dX0_set_27 : decode cX0_set 27 = .ok (.putfield 24, 3) := by decide +kernel
theorem dX0_set_30 : decode cX0_set 30 = .ok (.aload_n 0, 1) := by decide +kernel
theorem dX0_set_31 : decode cX0_set 31 = .ok (.aload 6, 2) := by decide +kernel
theorem dX0_set_33 : decode cX0_set 33 = .ok (.putfield 28, 3) := by decide +kernel
theorem dX0_set_36 : decode cX0_set 36 = .ok (.aload_n 0, 1) := by decide +kernel
theorem dX0_set_37 : decode cX0_set 37 = .ok (.aload 5, 2) := by decide +kernel
theorem dX0_set_39 : decode cX0_set 39 = .ok (.getfield 42, 3) := by decide +kernel
theorem dX0_set_42 : decode cX0_set 42 = .ok (.aload 6, 2) := by decide +kernel
theorem dX0_set_44 : decode cX0_set 44 = .ok (.getfield 42, 3) := by decide +kernel
theorem dX0_set_47 : decode cX0_set 47 = .ok (.invokestatic 46, 3) := by decide +kernel
theorem dX0_set_50 : decode cX0_set 50 = .ok (.putfield 52, 3) := by decide +kernel
theorem dX0_set_53 : decode cX0_set 53 = .ok (.aload_n 0, 1) := by decide +kernel
theorem dX0_set_54 : decode cX0_set 54 = .ok (.iconst 0, 1) := by decide +kernel
theorem dX0_set_55 : decode cX0_set 55 = .ok (.putfield 53, 3) := by decide +kernel
theorem dX0_set_58 : decode cX0_set 58 = .ok (.aload_n 0, 1) := by decide +kernel
theorem dX0_set_59 : decode cX0_set 59 = .ok (.dup, 1) := by decide +kernel
theorem dX0_set_60 : decode cX0_set 60 = .ok (.getfield 56, 3) := by decide +kernel
theorem dX0_set_63 : decode cX0_set 63 = .ok (.iconst 1, 1) := by decide +kernel
theorem dX0_set_64 : decode cX0_set 64 = .ok (.iadd, 1) := by decide +kernel
theorem dX0_set_65 : decode cX0_set 65 = .ok (.putfield 56, 3) := by decide +kernel
theorem dX0_set_68 : decode cX0_set 68 = .ok (.return_, 1) := by decide +kernel
theorem dX0_open_0 : decode cX0_open 0 = .ok (.aload_n 0, 1) := by decide +kernel
theorem dX0_open_1 : decode cX0_open 1 = .ok (.getfield 12, 3) := by decide +kernel
theorem dX0_open_4 : decode cX0_open 4 = .ok (.iconst 0, 1) := by decide +kernel
theorem dX0_open_5 : decode cX0_open 5 = .ok (.iconst 0, 1) := by decide +kernel
theorem dX0_open_6 : decode cX0_open 6 = .ok (.iconst 0, 1) := by decide +kernel
theorem dX0_open_7 : decode cX0_open 7 = .ok (.invokevirtual 59, 3) := by decide +kernel
theorem dX0_open_10 : decode cX0_open 10 = .ok (.iload_n 2, 1) := by decide +kernel
theorem dX0_open_11 : decode cX0_open 11 = .ok (.ifCond .eq 23, 3) := by decide +kernel
theorem dX0_open_14 : decode cX0_open 14 = .ok (.bipush 15, 2) := by decide +kernel
theorem dX0_open_16 : decode cX0_open 16 = .ok (.aload_n 0, 1) := by decide +kernel
theorem dX0_open_17 : decode cX0_open 17 = .ok (.getfield 28, 3) := by decide +kernel
theorem dX0_open_20 : decode cX0_open 20 = .ok (.iload_n 1, 1) := by decide +kernel
theorem dX0_open_21 : decode cX0_open 21 = .ok (.aload_n 0, 1) := by decide +kernel
theorem dX0_open_22 : decode cX0_open 22 = .ok (.getfield 12, 3) := by decide +kernel
theorem dX0_open_25 : decode cX0_open 25 = .ok (.invokevirtual 63, 3) := by decide +kernel
theorem dX0_open_28 : decode cX0_open 28 = .ok (.invokestatic 46, 3) := by decide +kernel
theorem dX0_open_31 : decode cX0_open 31 = .ok (.goto 4, 3) := by decide +kernel
theorem dX0_open_34 : decode cX0_open 34 = .ok (.iconst 0, 1) := by decide +kernel
theorem dX0_open_35 : decode cX0_open 35 = .ok (.istore_n 3, 1) := by decide +kernel
theorem dX0_open_36 : decode cX0_open 36 = .ok (.iconst 0, 1) := by decide +kernel
theorem dX0_open_37 : decode cX0_open 37 = .ok (.iload_n 3, 1) := by decide +kernel
theorem dX0_open_38 : decode cX0_open 38 = .ok (.aload_n 0, 1) := by decide +kernel
theorem dX0_open_39 : decode cX0_open 39 = .ok (.getfield 52, 3) := by decide +kernel
theorem dX0_open_42 : decode cX0_open 42 = .ok (.iconst 1, 1) := by decide +kernel
theorem dX0_open_43 : decode cX0_open 43 = .ok (.iconst 0, 1) := by decide +kernel
theorem dX0_open_44 : decode cX0_open 44 = .ok (.invokestatic 67, 3) := by decide +kernel
theorem dX0_open_47 : decode cX0_open 47 = .ok (.istore 4, 2) := by decide +kernel
theorem dX0_open_49 : decode cX0_open 49 = .ok (.iload_n 3, 1) := by decide +kernel
theorem dX0_open_50 : decode cX0_open 50 = .ok (.ifCond .ne 13, 3) := by decide +kernel
theorem dX0_open_53 : decode cX0_open 53 = .ok (.iload 4, 2) := by decide +kernel
theorem dX0_open_55 : decode cX0_open 55 = .ok (.iconst 1, 1) := by decide +kernel
theorem dX0_open_56 : decode cX0_open 56 = .ok (.iconst 0, 1) := by decide +kernel
theorem dX0_open_57 : decode cX0_open 57 = .ok (.invokestatic 73, 3) := by decide +kernel
theorem dX0_open_60 : decode cX0_open 60 = .ok (.goto 5, 3) := by decide +kernel
theorem dX0_open_63 : decode cX0_open 63 = .ok (.iload 4, 2) := by decide +kernel
theorem dX0_open_65 : decode cX0_open 65 = .ok (.ireturn, 1) := by decide +kernel
theorem dX0_allows_0 : decode cX0_allows 0 = .ok (.iload_n 1, 1) := by decide +kernel
theorem dX0_allows_1 : decode cX0_allows 1 = .ok (.invokestatic 77, 3) := by decide +kernel
theorem dX0_allows_4 : decode cX0_allows 4 = .ok (.ifCond .ne 13, 3) := by decide +kernel
theorem dX0_allows_7 : decode cX0_allows 7 = .ok (.iload_n 2, 1) := by decide +kernel
theorem dX0_allows_8 : decode cX0_allows 8 = .ok (.ifCond .lt 9, 3) := by decide +kernel
theorem dX0_allows_11 : decode cX0_allows 11 = .ok (.iload_n 2, 1) := by decide +kernel
theorem dX0_allows_12 : decode cX0_allows 12 = .ok (.bipush 11, 2) := by decide +kernel
theorem dX0_allows_14 : decode cX0_allows 14 = .ok (.if_icmp .lt 5, 3) := by decide +kernel
theorem dX0_allows_17 : decode cX0_allows 17 = .ok (.iconst 0, 1) := by decide +kernel
theorem dX0_allows_18 : decode cX0_allows 18 = .ok (.ireturn, 1) := by decide +kernel
theorem dX0_allows_19 : decode cX0_allows 19 = .ok (.iload_n 1, 1) := by decide +kernel
theorem dX0_allows_20 : decode cX0_allows 20 = .ok (.invokestatic 81, 3) := by decide +kernel
theorem dX0_allows_23 : decode cX0_allows 23 = .ok (.ifCond .eq 21, 3) := by decide +kernel
theorem dX0_allows_26 : decode cX0_allows 26 = .ok (.iload_n 2, 1) := by decide +kernel
theorem dX0_allows_27 : decode cX0_allows 27 = .ok (.bipush 8, 2) := by decide +kernel
theorem dX0_allows_29 : decode cX0_allows 29 = .ok (.if_icmp .eq 9, 3) := by decide +kernel
theorem dX0_allows_32 : decode cX0_allows 32 = .ok (.iload_n 2, 1) := by decide +kernel
theorem dX0_allows_33 : decode cX0_allows 33 = .ok (.bipush 9, 2) := by decide +kernel
theorem dX0_allows_35 : decode cX0_allows 35 = .ok (.if_icmp .ne 7, 3) := by decide +kernel
theorem dX0_allows_38 : decode cX0_allows 38 = .ok (.iconst 1, 1) := by decide +kernel
theorem dX0_allows_39 : decode cX0_allows 39 = .ok (.goto 4, 3) := by decide +kernel
theorem dX0_allows_42 : decode cX0_allows 42 = .ok (.iconst 0, 1) := by decide +kernel
theorem dX0_allows_43 : decode cX0_allows 43 = .ok (.ireturn, 1) := by decide +kernel
theorem dX0_allows_44 : decode cX0_allows 44 = .ok (.iload_n 1, 1) := by decide +kernel
theorem dX0_allows_45 : decode cX0_allows 45 = .ok (.invokestatic 84, 3) := by decide +kernel
theorem dX0_allows_48 : decode cX0_allows 48 = .ok (.istore_n 3, 1) := by decide +kernel
theorem dX0_allows_49 : decode cX0_allows 49 = .ok (.iload_n 2, 1) := by decide +kernel
theorem dX0_allows_50 : decode cX0_allows 50 = .ok (.iconst 4, 1) := by decide +kernel
theorem dX0_allows_51 : decode cX0_allows 51 = .ok (.if_icmp .ge 5, 3) := by decide +kernel
theorem dX0_allows_54 : decode cX0_allows 54 = .ok (.iconst 1, 1) := by decide +kernel
theorem dX0_allows_55 : decode cX0_allows 55 = .ok (.ireturn, 1) := by decide +kernel
theorem dX0_allows_56 : decode cX0_allows 56 = .ok (.iload_n 2, 1) := by decide +kernel
theorem dX0_allows_57 : decode cX0_allows 57 = .ok (.bipush 8, 2) := by decide +kernel
theorem dX0_allows_59 : decode cX0_allows 59 = .ok (.if_icmp .ge 19, 3) := by decide +kernel
theorem dX0_allows_62 : decode cX0_allows 62 = .ok (.iload_n 1, 1) := by decide +kernel
theorem dX0_allows_63 : decode cX0_allows 63 = .ok (.iconst 1, 1) := by decide +kernel
theorem dX0_allows_64 : decode cX0_allows 64 = .ok (.iload_n 3, 1) := by decide +kernel
theorem dX0_allows_65 : decode cX0_allows 65 = .ok (.isub, 1) := by decide +kernel
theorem dX0_allows_66 : decode cX0_allows 66 = .ok (.invokestatic 87, 3) := by decide +kernel
theorem dX0_allows_69 : decode cX0_allows 69 = .ok (.ifCond .le 7, 3) := by decide +kernel
theorem dX0_allows_72 : decode cX0_allows 72 = .ok (.iconst 1, 1) := by decide +kernel
theorem dX0_allows_73 : decode cX0_allows 73 = .ok (.goto 4, 3) := by decide +kernel
theorem dX0_allows_76 : decode cX0_allows 76 = .ok (.iconst 0, 1) := by decide +kernel
theorem dX0_allows_77 : decode cX0_allows 77 = .ok (.ireturn, 1) := by decide +kernel
theorem dX0_allows_78 : decode cX0_allows 78 = .ok (.iload_n 2, 1) := by decide +kernel
theorem dX0_allows_79 : decode cX0_allows 79 = .ok (.bipush 8, 2) := by decide +kernel
theorem dX0_allows_81 : decode cX0_allows 81 = .ok (.if_icmp .ne 25, 3) := by decide +kernel
theorem dX0_allows_84 : decode cX0_allows 84 = .ok (.iload_n 1, 1) := by decide +kernel
theorem dX0_allows_85 : decode cX0_allows 85 = .ok (.iload_n 3, 1) := by decide +kernel
theorem dX0_allows_86 : decode cX0_allows 86 = .ok (.invokestatic 87, 3) := by decide +kernel
theorem dX0_allows_89 : decode cX0_allows 89 = .ok (.aload_n 0, 1) := by decide +kernel
theorem dX0_allows_90 : decode cX0_allows 90 = .ok (.iload_n 3, 1) := by decide +kernel
theorem dX0_allows_91 : decode cX0_allows 91 = .ok (.invokevirtual 90, 3) := by decide +kernel
theorem dX0_allows_94 : decode cX0_allows 94 = .ok (.getfield 94, 3) := by decide +kernel
theorem dX0_allows_97 : decode cX0_allows 97 = .ok (.if_icmp .lt 7, 3) := by decide +kernel
theorem dX0_allows_100 : decode cX0_allows 100 = .ok (.iconst 1, 1) := by decide +kernel
theorem dX0_allows_101 : decode cX0_allows 101 = .ok (.goto 4, 3) := by decide +kernel
theorem dX0_allows_104 : decode cX0_allows 104 = .ok (.iconst 0, 1) := by decide +kernel
theorem dX0_allows_105 : decode cX0_allows 105 = .ok (.ireturn, 1) := by decide +kernel
theorem dX0_allows_106 : decode cX0_allows 106 = .ok (.iload_n 2, 1) := by decide +kernel
theorem dX0_allows_107 : decode cX0_allows 107 = .ok (.bipush 10, 2) := by decide +kernel
theorem dX0_allows_109 : decode cX0_allows 109 = .ok (.if_icmp .ne 7, 3) := by decide +kernel
theorem dX0_allows_112 : decode cX0_allows 112 = .ok (.iconst 1, 1) := by decide +kernel
theorem dX0_allows_113 : decode cX0_allows 113 = .ok (.goto 4, 3) := by decide +kernel
theorem dX0_allows_116 : decode cX0_allows 116 = .ok (.iconst 0, 1) := by decide +kernel
theorem dX0_allows_117 : decode cX0_allows 117 = .ok (.ireturn, 1) := by decide +kernel
theorem dX0_after_0 : decode cX0_after 0 = .ok (.iload_n 1, 1) := by decide +kernel
theorem dX0_after_1 : decode cX0_after 1 = .ok (.invokestatic 84, 3) := by decide +kernel
theorem dX0_after_4 : decode cX0_after 4 = .ok (.istore 4, 2) := by decide +kernel
theorem dX0_after_6 : decode cX0_after 6 = .ok (.iload_n 1, 1) := by decide +kernel
theorem dX0_after_7 : decode cX0_after 7 = .ok (.invokestatic 81, 3) := by decide +kernel
theorem dX0_after_10 : decode cX0_after 10 = .ok (.ifCond .eq 41, 3) := by decide +kernel
theorem dX0_after_13 : decode cX0_after 13 = .ok (.iload_n 2, 1) := by decide +kernel
theorem dX0_after_14 : decode cX0_after 14 = .ok (.bipush 8, 2) := by decide +kernel
theorem dX0_after_16 : decode cX0_after 16 = .ok (.if_icmp .ne 12, 3) := by decide +kernel
theorem dX0_after_19 : decode cX0_after 19 = .ok (.iload_n 1, 1) := by decide +kernel
theorem dX0_after_20 : decode cX0_after 20 = .ok (.iconst 2, 1) := by decide +kernel
theorem dX0_after_21 : decode cX0_after 21 = .ok (.iconst 0, 1) := by decide +kernel
theorem dX0_after_22 : decode cX0_after 22 = .ok (.invokestatic 73, 3) := by decide +kernel
theorem dX0_after_25 : decode cX0_after 25 = .ok (.goto 25, 3) := by decide +kernel
theorem dX0_after_28 : decode cX0_after 28 = .ok (.iload_n 1, 1) := by decide +kernel
theorem dX0_after_29 : decode cX0_after 29 = .ok (.iconst 3, 1) := by decide +kernel
theorem dX0_after_30 : decode cX0_after 30 = .ok (.aload_n 0, 1) := by decide +kernel
theorem dX0_after_31 : decode cX0_after 31 = .ok (.iload_n 1, 1) := by decide +kernel
theorem dX0_after_32 : decode cX0_after 32 = .ok (.invokevirtual 97, 3) := by decide +kernel
theorem dX0_after_35 : decode cX0_after 35 = .ok (.iconst 1, 1) := by decide +kernel
theorem dX0_after_36 : decode cX0_after 36 = .ok (.if_icmp .ne 7, 3) := by decide +kernel
theorem dX0_after_39 : decode cX0_after 39 = .ok (.iconst 0, 1) := by decide +kernel
theorem dX0_after_40 : decode cX0_after 40 = .ok (.goto 7, 3) := by decide +kernel
theorem dX0_after_43 : decode cX0_after 43 = .ok (.iconst 1, 1) := by decide +kernel
theorem dX0_after_44 : decode cX0_after 44 = .ok (.iload 4, 2) := by decide +kernel
theorem dX0_after_46 : decode cX0_after 46 = .ok (.iadd, 1) := by decide +kernel
theorem dX0_after_47 : decode cX0_after 47 = .ok (.invokestatic 73, 3) := by decide +kernel
theorem dX0_after_50 : decode cX0_after 50 = .ok (.ireturn, 1) := by decide +kernel
theorem dX0_after_51 : decode cX0_after 51 = .ok (.iconst 1, 1) := by decide +kernel
theorem dX0_after_52 : decode cX0_after 52 = .ok (.iload 4, 2) := by decide +kernel
theorem dX0_after_54 : decode cX0_after 54 = .ok (.isub, 1) := by decide +kernel
theorem dX0_after_55 : decode cX0_after 55 = .ok (.istore 5, 2) := by decide +kernel
theorem dX0_after_57 : decode cX0_after 57 = .ok (.iload_n 1, 1) := by decide +kernel
theorem dX0_after_58 : decode cX0_after 58 = .ok (.iload 4, 2) := by decide +kernel
theorem dX0_after_60 : decode cX0_after 60 = .ok (.invokestatic 87, 3) := by decide +kernel
theorem dX0_after_63 : decode cX0_after 63 = .ok (.istore 6, 2) := by decide +kernel
theorem dX0_after_65 : decode cX0_after 65 = .ok (.iload_n 1, 1) := by decide +kernel
theorem dX0_after_66 : decode cX0_after 66 = .ok (.iload 5, 2) := by decide +kernel
theorem dX0_after_68 : decode cX0_after 68 = .ok (.invokestatic 87, 3) := by decide +kernel
theorem dX0_after_71 : decode cX0_after 71 = .ok (.istore 7, 2) := by decide +kernel
theorem dX0_after_73 : decode cX0_after 73 = .ok (.iload_n 3, 1) := by decide +kernel
theorem dX0_after_74 : decode cX0_after 74 = .ok (.ifCond .eq 39, 3) := by decide +kernel
theorem dX0_after_77 : decode cX0_after 77 = .ok (.iload_n 2, 1) := by decide +kernel
theorem dX0_after_78 : decode cX0_after 78 = .ok (.bipush 8, 2) := by decide +kernel
theorem dX0_after_80 : decode cX0_after 80 = .ok (.if_icmp .ge 33, 3) := by decide +kernel
theorem dX0_after_83 : decode cX0_after 83 = .ok (.iload 7, 2) := by decide +kernel
theorem dX0_after_85 : decode cX0_after 85 = .ok (.iload_n 2, 1) := by decide +kernel
theorem dX0_after_86 : decode cX0_after 86 = .ok (.aload_n 0, 1) := by decide +kernel
theorem dX0_after_87 : decode cX0_after 87 = .ok (.aload_n 0, 1) := by decide +kernel
theorem dX0_after_88 : decode cX0_after 88 = .ok (.iload_n 1, 1) := by decide +kernel
theorem dX0_after_89 : decode cX0_after 89 = .ok (.invokevirtual 97, 3) := by decide +kernel
theorem dX0_after_92 : decode cX0_after 92 = .ok (.iconst 4, 1) := by decide +kernel
theorem dX0_after_93 : decode cX0_after 93 = .ok (.iload_n 2, 1) := by decide +kernel
theorem dX0_after_94 : decode cX0_after 94 = .ok (.imul, 1) := by decide +kernel
theorem dX0_after_95 : decode cX0_after 95 = .ok (.ishr, 1) := by decide +kernel
theorem dX0_after_96 : decode cX0_after 96 = .ok (.bipush 15, 2) := by decide +kernel
theorem dX0_after_98 : decode cX0_after 98 = .ok (.iand, 1) := by decide +kernel
theorem dX0_after_99 : decode cX0_after 99 = .ok (.aload_n 0, 1) := by decide +kernel
theorem dX0_after_100 : decode cX0_after 100 = .ok (.iload 5, 2) := by decide +kernel
theorem dX0_after_102 : decode cX0_after 102 = .ok (.invokevirtual 90, 3) := by decide +kernel
theorem dX0_after_105 : decode cX0_after 105 = .ok (.invokevirtual 100, 3) := by decide +kernel
theorem dX0_after_108 : decode cX0_after 108 = .ok (.invokestatic 104, 3) := by decide +kernel
theorem dX0_after_111 : decode cX0_after 111 = .ok (.istore 7, 2) := by decide +kernel
theorem dX0_after_113 : decode cX0_after 113 = .ok (.iload 4, 2) := by decide +kernel
theorem dX0_after_115 : decode cX0_after 115 = .ok (.ifCond .ne 8, 3) := by decide +kernel
theorem dX0_after_118 : decode cX0_after 118 = .ok (.iload 6, 2) := by decide +kernel
theorem dX0_after_120 : decode cX0_after 120 = .ok (.goto 5, 3) := by decide +kernel
theorem dX0_after_123 : decode cX0_after 123 = .ok (.iload 7, 2) := by decide +kernel
theorem dX0_after_125 : decode cX0_after 125 = .ok (.istore 8, 2) := by decide +kernel
theorem dX0_after_127 : decode cX0_after 127 = .ok (.iload 4, 2) := by decide +kernel
theorem dX0_after_129 : decode cX0_after 129 = .ok (.ifCond .ne 8, 3) := by decide +kernel
theorem dX0_after_132 : decode cX0_after 132 = .ok (.iload 7, 2) := by decide +kernel
theorem dX0_after_134 : decode cX0_after 134 = .ok (.goto 5, 3) := by decide +kernel
theorem dX0_after_137 : decode cX0_after 137 = .ok (.iload 6, 2) := by decide +kernel
theorem dX0_after_139 : decode cX0_after 139 = .ok (.istore 9, 2) := by decide +kernel
theorem dX0_after_141 : decode cX0_after 141 = .ok (.iload_n 2, 1) := by decide +kernel
theorem dX0_after_142 : decode cX0_after 142 = .ok (.bipush 8, 2) := by decide +kernel
theorem dX0_after_144 : decode cX0_after 144 = .ok (.if_icmp .ne 10, 3) := by decide +kernel
theorem dX0_after_147 : decode cX0_after 147 = .ok (.iload 4, 2) := by decide +kernel
theorem dX0_after_149 : decode cX0_after 149 = .ok (.iconst 1, 1) := by decide +kernel
theorem dX0_after_150 : decode cX0_after 150 = .ok (.iadd, 1) := by decide +kernel
theorem dX0_after_151 : decode cX0_after 151 = .ok (.goto 4, 3) := by decide +kernel
theorem dX0_after_154 : decode cX0_after 154 = .ok (.iconst 0, 1) := by decide +kernel
theorem dX0_after_155 : decode cX0_after 155 = .ok (.istore 10, 2) := by decide +kernel
theorem dX0_after_157 : decode cX0_after 157 = .ok (.iload_n 1, 1) := by decide +kernel
theorem dX0_after_158 : decode cX0_after 158 = .ok (.invokestatic 107, 3) := by decide +kernel
theorem dX0_after_161 : decode cX0_after 161 = .ok (.istore 11, 2) := by decide +kernel
theorem dX0_after_163 : decode cX0_after 163 = .ok (.iload 6, 2) := by decide +kernel
theorem dX0_after_165 : decode cX0_after 165 = .ok (.ifCond .ne 29, 3) := by decide +kernel
theorem dX0_after_168 : decode cX0_after 168 = .ok (.iload 7, 2) := by decide +kernel
theorem dX0_after_170 : decode cX0_after 170 = .ok (.ifCond .ne 24, 3) := by decide +kernel
theorem dX0_after_173 : decode cX0_after 173 = .ok (.iload 10, 2) := by decide +kernel
theorem dX0_after_175 : decode cX0_after 175 = .ok (.ifCond .ne 19, 3) := by decide +kernel
theorem dX0_after_178 : decode cX0_after 178 = .ok (.iconst 0, 1) := by decide +kernel
theorem dX0_after_179 : decode cX0_after 179 = .ok (.iconst 0, 1) := by decide +kernel
theorem dX0_after_180 : decode cX0_after 180 = .ok (.iload 11, 2) := by decide +kernel
theorem dX0_after_182 : decode cX0_after 182 = .ok (.iload 5, 2) := by decide +kernel
theorem dX0_after_184 : decode cX0_after 184 = .ok (.iconst 0, 1) := by decide +kernel
theorem dX0_after_185 : decode cX0_after 185 = .ok (.invokestatic 67, 3) := by decide +kernel
theorem dX0_after_188 : decode cX0_after 188 = .ok (.iconst 1, 1) := by decide +kernel
theorem dX0_after_189 : decode cX0_after 189 = .ok (.iconst 0, 1) := by decide +kernel
theorem dX0_after_190 : decode cX0_after 190 = .ok (.invokestatic 73, 3) := by decide +kernel
theorem dX0_after_193 : decode cX0_after 193 = .ok (.ireturn, 1) := by decide +kernel
theorem dX0_after_194 : decode cX0_after 194 = .ok (.iload 8, 2) := by decide +kernel
theorem dX0_after_196 : decode cX0_after 196 = .ok (.iload 9, 2) := by decide +kernel
theorem dX0_after_198 : decode cX0_after 198 = .ok (.iload 11, 2) := by decide +kernel
theorem dX0_after_200 : decode cX0_after 200 = .ok (.iconst 1, 1) := by decide +kernel
theorem dX0_after_201 : decode cX0_after 201 = .ok (.isub, 1) := by decide +kernel
theorem dX0_after_202 : decode cX0_after 202 = .ok (.bipush 15, 2) := by decide +kernel
theorem dX0_after_204 : decode cX0_after 204 = .ok (.iand, 1) := by decide +kernel
theorem dX0_after_205 : decode cX0_after 205 = .ok (.iload 5, 2) := by decide +kernel
theorem dX0_after_207 : decode cX0_after 207 = .ok (.iload 10, 2) := by decide +kernel
theorem dX0_after_209 : decode cX0_after 209 = .ok (.invokestatic 67, 3) := by decide +kernel
theorem dX0_after_212 : decode cX0_after 212 = .ok (.istore 12, 2) := by decide +kernel
theorem dX0_after_214 : decode cX0_after 214 = .ok (.iload 11, 2) := by decide +kernel
theorem dX0_after_216 : decode cX0_after 216 = .ok (.iconst 1, 1) := by decide +kernel
theorem dX0_after_217 : decode cX0_after 217 = .ok (.if_icmp .le 8, 3) := by decide +kernel
theorem dX0_after_220 : decode cX0_after 220 = .ok (.iload 12, 2) := by decide +kernel
theorem dX0_after_222 : decode cX0_after 222 = .ok (.goto 17, 3) := by decide +kernel
theorem dX0_after_225 : decode cX0_after 225 = .ok (.iload 12, 2) := by decide +kernel
theorem dX0_after_227 : decode cX0_after 227 = .ok (.iconst 4, 1) := by decide +kernel
theorem dX0_after_228 : decode cX0_after 228 = .ok (.aload_n 0, 1) := by decide +kernel
theorem dX0_after_229 : decode cX0_after 229 = .ok (.iload 8, 2) := by decide +kernel
theorem dX0_after_231 : decode cX0_after 231 = .ok (.iload 9, 2) := by decide +kernel
theorem dX0_after_233 : decode cX0_after 233 = .ok (.invokevirtual 110, 3) := by decide +kernel
theorem dX0_after_236 : decode cX0_after 236 = .ok (.invokestatic 73, 3) := by decide +kernel
theorem dX0_after_239 : decode cX0_after 239 = .ok (.ireturn, 1) := by decide +kernel
theorem dX0_heard_0 : decode cX0_heard 0 = .ok (.aload_n 0, 1) := by decide +kernel
theorem dX0_heard_1 : decode cX0_heard 1 = .ok (.aload_n 1, 1) := by decide +kernel
theorem dX0_heard_2 : decode cX0_heard 2 = .ok (.iconst 0, 1) := by decide +kernel
theorem dX0_heard_3 : decode cX0_heard 3 = .ok (.invokevirtual 113, 3) := by decide +kernel
theorem dX0_heard_6 : decode cX0_heard 6 = .ok (.iload_n 2, 1) := by decide +kernel
theorem dX0_heard_7 : decode cX0_heard 7 = .ok (.iconst 1, 1) := by decide +kernel
theorem dX0_heard_8 : decode cX0_heard 8 = .ok (.iand, 1) := by decide +kernel
theorem dX0_heard_9 : decode cX0_heard 9 = .ok (.ifCond .ne 7, 3) := by decide +kernel
theorem dX0_heard_12 : decode cX0_heard 12 = .ok (.iconst 1, 1) := by decide +kernel
theorem dX0_heard_13 : decode cX0_heard 13 = .ok (.goto 4, 3) := by decide +kernel
theorem dX0_heard_16 : decode cX0_heard 16 = .ok (.iconst 0, 1) := by decide +kernel
theorem dX0_heard_17 : decode cX0_heard 17 = .ok (.invokevirtual 118, 3) := by decide +kernel
theorem dX0_heard_20 : decode cX0_heard 20 = .ok (.istore_n 3, 1) := by decide +kernel
theorem dX0_heard_21 : decode cX0_heard 21 = .ok (.iconst 1, 1) := by decide +kernel
theorem dX0_heard_22 : decode cX0_heard 22 = .ok (.istore 4, 2) := by decide +kernel
theorem dX0_heard_24 : decode cX0_heard 24 = .ok (.iload 4, 2) := by decide +kernel
theorem dX0_heard_26 : decode cX0_heard 26 = .ok (.aload_n 1, 1) := by decide +kernel
theorem dX0_heard_27 : decode cX0_heard 27 = .ok (.getfield 122, 3) := by decide +kernel
theorem dX0_heard_30 : decode cX0_heard 30 = .ok (.if_icmp .ge 49, 3) := by decide +kernel
theorem dX0_heard_33 : decode cX0_heard 33 = .ok (.aload_n 0, 1) := by decide +kernel
theorem dX0_heard_34 : decode cX0_heard 34 = .ok (.iload_n 3, 1) := by decide +kernel
theorem dX0_heard_35 : decode cX0_heard 35 = .ok (.aload_n 1, 1) := by decide +kernel
theorem dX0_heard_36 : decode cX0_heard 36 = .ok (.iload 4, 2) := by decide +kernel
theorem dX0_heard_38 : decode cX0_heard 38 = .ok (.invokevirtual 113, 3) := by decide +kernel
theorem dX0_heard_41 : decode cX0_heard 41 = .ok (.invokevirtual 125, 3) := by decide +kernel
theorem dX0_heard_44 : decode cX0_heard 44 = .ok (.ifCond .eq 35, 3) := by decide +kernel
theorem dX0_heard_47 : decode cX0_heard 47 = .ok (.aload_n 0, 1) := by decide +kernel
theorem dX0_heard_48 : decode cX0_heard 48 = .ok (.iload_n 3, 1) := by decide +kernel
theorem dX0_heard_49 : decode cX0_heard 49 = .ok (.aload_n 1, 1) := by decide +kernel
theorem dX0_heard_50 : decode cX0_heard 50 = .ok (.iload 4, 2) := by decide +kernel
theorem dX0_heard_52 : decode cX0_heard 52 = .ok (.invokevirtual 113, 3) := by decide +kernel
theorem dX0_heard_55 : decode cX0_heard 55 = .ok (.iload_n 2, 1) := by decide +kernel
theorem dX0_heard_56 : decode cX0_heard 56 = .ok (.iload 4, 2) := by decide +kernel
theorem dX0_heard_58 : decode cX0_heard 58 = .ok (.ishr, 1) := by decide +kernel
theorem dX0_heard_59 : decode cX0_heard 59 = .ok (.iconst 1, 1) := by decide +kernel
theorem dX0_heard_60 : decode cX0_heard 60 = .ok (.iand, 1) := by decide +kernel
theorem dX0_heard_61 : decode cX0_heard 61 = .ok (.ifCond .ne 7, 3) := by decide +kernel
theorem dX0_heard_64 : decode cX0_heard 64 = .ok (.iconst 1, 1) := by decide +kernel
theorem dX0_heard_65 : decode cX0_heard 65 = .ok (.goto 4, 3) := by decide +kernel
theorem dX0_heard_68 : decode cX0_heard 68 = .ok (.iconst 0, 1) := by decide +kernel
theorem dX0_heard_69 : decode cX0_heard 69 = .ok (.invokevirtual 129, 3) := by decide +kernel
theorem dX0_heard_72 : decode cX0_heard 72 = .ok (.istore_n 3, 1) := by decide +kernel
theorem dX0_heard_73 : decode cX0_heard 73 = .ok (.iinc 4 1, 3) := by decide +kernel
theorem dX0_heard_76 : decode cX0_heard 76 = .ok (.goto (-52), 3) := by decide +kernel
theorem dX0_heard_79 : decode cX0_heard 79 = .ok (.iload_n 3, 1) := by decide +kernel
theorem dX0_heard_80 : decode cX0_heard 80 = .ok (.ireturn, 1) := by decide +kernel
theorem dX0_reckoned_0 : decode cX0_reckoned 0 = .ok (.aload_n 0, 1) := by decide +kernel
theorem dX0_reckoned_1 : decode cX0_reckoned 1 = .ok (.iload_n 2, 1) := by decide +kernel
theorem dX0_reckoned_2 : decode cX0_reckoned 2 = .ok (.invokevirtual 90, 3) := by decide +kernel
theorem dX0_reckoned_5 : decode cX0_reckoned 5 = .ok (.astore_n 3, 1) := by decide +kernel
theorem dX0_reckoned_6 : decode cX0_reckoned 6 = .ok (.iconst 0, 1) := by decide +kernel
theorem dX0_reckoned_7 : decode cX0_reckoned 7 = .ok (.istore 4, 2) := by decide +kernel
theorem dX0_reckoned_9 : decode cX0_reckoned 9 = .ok (.iconst 0, 1) := by decide +kernel
theorem dX0_reckoned_10 : decode cX0_reckoned 10 = .ok (.istore 5, 2) := by decide +kernel
theorem dX0_reckoned_12 : decode cX0_reckoned 12 = .ok (.iconst 0, 1) := by decide +kernel
theorem dX0_reckoned_13 : decode cX0_reckoned 13 = .ok (.istore 6, 2) := by decide +kernel
theorem dX0_reckoned_15 : decode cX0_reckoned 15 = .ok (.iload 6, 2) := by decide +kernel
theorem dX0_reckoned_17 : decode cX0_reckoned 17 = .ok (.aload_n 1, 1) := by decide +kernel
theorem dX0_reckoned_18 : decode cX0_reckoned 18 = .ok (.getfield 122, 3) := by decide +kernel
theorem dX0_reckoned_21 : decode cX0_reckoned 21 = .ok (.if_icmp .ge 111, 3) := by decide +kernel
theorem dX0_reckoned_24 : decode cX0_reckoned 24 = .ok (.aload_n 1, 1) := by decide +kernel
theorem dX0_reckoned_25 : decode cX0_reckoned 25 = .ok (.iload 6, 2) := by decide +kernel
theorem dX0_reckoned_27 : decode cX0_reckoned 27 = .ok (.invokevirtual 113, 3) := by decide +kernel
theorem dX0_reckoned_30 : decode cX0_reckoned 30 = .ok (.istore 7, 2) := by decide +kernel
theorem dX0_reckoned_32 : decode cX0_reckoned 32 = .ok (.iconst 0, 1) := by decide +kernel
theorem dX0_reckoned_33 : decode cX0_reckoned 33 = .ok (.iload 6, 2) := by decide +kernel
theorem dX0_reckoned_35 : decode cX0_reckoned 35 = .ok (.iconst 1, 1) := by decide +kernel
theorem dX0_reckoned_36 : decode cX0_reckoned 36 = .ok (.isub, 1) := by decide +kernel
theorem dX0_reckoned_37 : decode cX0_reckoned 37 = .ok (.invokestatic 133, 3) := by decide +kernel
theorem dX0_reckoned_40 : decode cX0_reckoned 40 = .ok (.istore 8, 2) := by decide +kernel
theorem dX0_reckoned_42 : decode cX0_reckoned 42 = .ok (.iload 7, 2) := by decide +kernel
theorem dX0_reckoned_44 : decode cX0_reckoned 44 = .ok (.bipush 8, 2) := by decide +kernel
theorem dX0_reckoned_46 : decode cX0_reckoned 46 = .ok (.if_icmp .lt 6, 3) := by decide +kernel
theorem dX0_reckoned_49 : decode cX0_reckoned 49 = .ok (.goto 77, 3) := by decide +kernel
theorem dX0_reckoned_52 : decode cX0_reckoned 52 = .ok (.iload 6, 2) := by decide +kernel
theorem dX0_reckoned_54 : decode cX0_reckoned 54 = .ok (.iconst 2, 1) := by decide +kernel
theorem dX0_reckoned_55 : decode cX0_reckoned 55 = .ok (.irem, 1) := by decide +kernel
theorem dX0_reckoned_56 : decode cX0_reckoned 56 = .ok (.ifCond .ne 38, 3) := by decide +kernel
theorem dX0_reckoned_59 : decode cX0_reckoned 59 = .ok (.aload_n 0, 1) := by decide +kernel
theorem dX0_reckoned_60 : decode cX0_reckoned 60 = .ok (.getfield 12, 3) := by decide +kernel
theorem dX0_reckoned_63 : decode cX0_reckoned 63 = .ok (.iload 5, 2) := by decide +kernel
theorem dX0_reckoned_65 : decode cX0_reckoned 65 = .ok (.iload 4, 2) := by decide +kernel
theorem dX0_reckoned_67 : decode cX0_reckoned 67 = .ok (.iload 8, 2) := by decide +kernel
theorem dX0_reckoned_69 : decode cX0_reckoned 69 = .ok (.invokevirtual 59, 3) := by decide +kernel
theorem dX0_reckoned_72 : decode cX0_reckoned 72 = .ok (.iload 5, 2) := by decide +kernel
theorem dX0_reckoned_74 : decode cX0_reckoned 74 = .ok (.iload 7, 2) := by decide +kernel
theorem dX0_reckoned_76 : decode cX0_reckoned 76 = .ok (.aload_n 3, 1) := by decide +kernel
theorem dX0_reckoned_77 : decode cX0_reckoned 77 = .ok (.iload 7, 2) := by decide +kernel
theorem dX0_reckoned_79 : decode cX0_reckoned 79 = .ok (.aload_n 0, 1) := by decide +kernel
theorem dX0_reckoned_80 : decode cX0_reckoned 80 = .ok (.getfield 12, 3) := by decide +kernel
theorem dX0_reckoned_83 : decode cX0_reckoned 83 = .ok (.invokevirtual 63, 3) := by decide +kernel
theorem dX0_reckoned_86 : decode cX0_reckoned 86 = .ok (.invokestatic 104, 3) := by decide +kernel
theorem dX0_reckoned_89 : decode cX0_reckoned 89 = .ok (.istore 5, 2) := by decide +kernel
theorem dX0_reckoned_91 : decode cX0_reckoned 91 = .ok (.goto 35, 3) := by decide +kernel
theorem dX0_reckoned_94 : decode cX0_reckoned 94 = .ok (.aload_n 0, 1) := by decide +kernel
theorem dX0_reckoned_95 : decode cX0_reckoned 95 = .ok (.getfield 18, 3) := by decide +kernel
theorem dX0_reckoned_98 : decode cX0_reckoned 98 = .ok (.iload 4, 2) := by decide +kernel
theorem dX0_reckoned_100 : decode cX0_reckoned 100 = .ok (.iload 5, 2) := by decide +kernel
theorem dX0_reckoned_102 : decode cX0_reckoned 102 = .ok (.iload 8, 2) := by decide +kernel
theorem dX0_reckoned_104 : decode cX0_reckoned 104 = .ok (.invokevirtual 59, 3) := by decide +kernel
theorem dX0_reckoned_107 : decode cX0_reckoned 107 = .ok (.iload 4, 2) := by decide +kernel
theorem dX0_reckoned_109 : decode cX0_reckoned 109 = .ok (.iload 7, 2) := by decide +kernel
theorem dX0_reckoned_111 : decode cX0_reckoned 111 = .ok (.aload_n 3, 1) := by decide +kernel
theorem dX0_reckoned_112 : decode cX0_reckoned 112 = .ok (.iload 7, 2) := by decide +kernel
theorem dX0_reckoned_114 : decode cX0_reckoned 114 = .ok (.aload_n 0, 1) := by decide +kernel
theorem dX0_reckoned_115 : decode cX0_reckoned 115 = .ok (.getfield 18, 3) := by decide +kernel
theorem dX0_reckoned_118 : decode cX0_reckoned 118 = .ok (.invokevirtual 63, 3) := by decide +kernel
theorem dX0_reckoned_121 : decode cX0_reckoned 121 = .ok (.invokestatic 104, 3) := by decide +kernel
theorem dX0_reckoned_124 : decode cX0_reckoned 124 = .ok (.istore 4, 2) := by decide +kernel
theorem dX0_reckoned_126 : decode cX0_reckoned 126 = .ok (.iinc 6 1, 3) := by decide +kernel
theorem dX0_reckoned_129 : decode cX0_reckoned 129 = .ok (.goto (-114), 3) := by decide +kernel
theorem dX0_reckoned_132 : decode cX0_reckoned 132 = .ok (.iload 4, 2) := by decide +kernel
theorem dX0_reckoned_134 : decode cX0_reckoned 134 = .ok (.iload 5, 2) := by decide +kernel
theorem dX0_reckoned_136 : decode cX0_reckoned 136 = .ok (.iconst 0, 1) := by decide +kernel
theorem dX0_reckoned_137 : decode cX0_reckoned 137 = .ok (.iconst 0, 1) := by decide +kernel
theorem dX0_reckoned_138 : decode cX0_reckoned 138 = .ok (.iconst 0, 1) := by decide +kernel
theorem dX0_reckoned_139 : decode cX0_reckoned 139 = .ok (.invokestatic 67, 3) := by decide +kernel
theorem dX0_reckoned_142 : decode cX0_reckoned 142 = .ok (.ireturn, 1) := by decide +kernel
theorem dX0_changed_0 : decode cX0_changed 0 = .ok (.iload_n 1, 1) := by decide +kernel
theorem dX0_changed_1 : decode cX0_changed 1 = .ok (.iconst 4, 1) := by decide +kernel
theorem dX0_changed_2 : decode cX0_changed 2 = .ok (.if_icmp .ge 14, 3) := by decide +kernel
theorem dX0_changed_5 : decode cX0_changed 5 = .ok (.bipush 15, 2) := by decide +kernel
theorem dX0_changed_7 : decode cX0_changed 7 = .ok (.iload_n 0, 1) := by decide +kernel
theorem dX0_changed_8 : decode cX0_changed 8 = .ok (.iload_n 2, 1) := by decide +kernel
theorem dX0_changed_9 : decode cX0_changed 9 = .ok (.iadd, 1) := by decide +kernel
theorem dX0_changed_10 : decode cX0_changed 10 = .ok (.invokestatic 46, 3) := by decide +kernel
theorem dX0_changed_13 : decode cX0_changed 13 = .ok (.goto 10, 3) := by decide +kernel
theorem dX0_changed_16 : decode cX0_changed 16 = .ok (.iconst 0, 1) := by decide +kernel
theorem dX0_changed_17 : decode cX0_changed 17 = .ok (.iload_n 0, 1) := by decide +kernel
theorem dX0_changed_18 : decode cX0_changed 18 = .ok (.iload_n 2, 1) := by decide +kernel
theorem dX0_changed_19 : decode cX0_changed 19 = .ok (.isub, 1) := by decide +kernel
theorem dX0_changed_20 : decode cX0_changed 20 = .ok (.invokestatic 133, 3) := by decide +kernel
theorem dX0_changed_23 : decode cX0_changed 23 = .ok (.ireturn, 1) := by decide +kernel
theorem dX0_lessOf_0 : decode cX0_lessOf 0 = .ok (.iload_n 1, 1) := by decide +kernel
theorem dX0_lessOf_1 : decode cX0_lessOf 1 = .ok (.aload_n 0, 1) := by decide +kernel
theorem dX0_lessOf_2 : decode cX0_lessOf 2 = .ok (.getfield 24, 3) := by decide +kernel
theorem dX0_lessOf_5 : decode cX0_lessOf 5 = .ok (.getfield 136, 3) := by decide +kernel
theorem dX0_lessOf_8 : decode cX0_lessOf 8 = .ok (.if_icmp .lt 7, 3) := by decide +kernel
theorem dX0_lessOf_11 : decode cX0_lessOf 11 = .ok (.iconst 1, 1) := by decide +kernel
theorem dX0_lessOf_12 : decode cX0_lessOf 12 = .ok (.goto 4, 3) := by decide +kernel
theorem dX0_lessOf_15 : decode cX0_lessOf 15 = .ok (.iconst 0, 1) := by decide +kernel
theorem dX0_lessOf_16 : decode cX0_lessOf 16 = .ok (.iload_n 2, 1) := by decide +kernel
theorem dX0_lessOf_17 : decode cX0_lessOf 17 = .ok (.aload_n 0, 1) := by decide +kernel
theorem dX0_lessOf_18 : decode cX0_lessOf 18 = .ok (.getfield 28, 3) := by decide +kernel
theorem dX0_lessOf_21 : decode cX0_lessOf 21 = .ok (.getfield 136, 3) := by decide +kernel
theorem dX0_lessOf_24 : decode cX0_lessOf 24 = .ok (.if_icmp .lt 7, 3) := by decide +kernel
theorem dX0_lessOf_27 : decode cX0_lessOf 27 = .ok (.iconst 2, 1) := by decide +kernel
theorem dX0_lessOf_28 : decode cX0_lessOf 28 = .ok (.goto 4, 3) := by decide +kernel
theorem dX0_lessOf_31 : decode cX0_lessOf 31 = .ok (.iconst 0, 1) := by decide +kernel
theorem dX0_lessOf_32 : decode cX0_lessOf 32 = .ok (.iadd, 1) := by decide +kernel
theorem dX0_lessOf_33 : decode cX0_lessOf 33 = .ok (.ireturn, 1) := by decide +kernel
theorem dX0_weighed_0 : decode cX0_weighed 0 = .ok (.aload_n 0, 1) := by decide +kernel
theorem dX0_weighed_1 : decode cX0_weighed 1 = .ok (.getfield 53, 3) := by decide +kernel
theorem dX0_weighed_4 : decode cX0_weighed 4 = .ok (.iconst 1, 1) := by decide +kernel
theorem dX0_weighed_5 : decode cX0_weighed 5 = .ok (.ishl, 1) := by decide +kernel
theorem dX0_weighed_6 : decode cX0_weighed 6 = .ok (.iload_n 1, 1) := by decide +kernel
theorem dX0_weighed_7 : decode cX0_weighed 7 = .ok (.ishr, 1) := by decide +kernel
theorem dX0_weighed_8 : decode cX0_weighed 8 = .ok (.iconst 1, 1) := by decide +kernel
theorem dX0_weighed_9 : decode cX0_weighed 9 = .ok (.iand, 1) := by decide +kernel
theorem dX0_weighed_10 : decode cX0_weighed 10 = .ok (.iconst 1, 1) := by decide +kernel
theorem dX0_weighed_11 : decode cX0_weighed 11 = .ok (.if_icmp .ne 8, 3) := by decide +kernel
theorem dX0_weighed_14 : decode cX0_weighed 14 = .ok (.bipush 15, 2) := by decide +kernel
theorem dX0_weighed_16 : decode cX0_weighed 16 = .ok (.goto 10, 3) := by decide +kernel
theorem dX0_weighed_19 : decode cX0_weighed 19 = .ok (.aload_n 2, 1) := by decide +kernel
theorem dX0_weighed_20 : decode cX0_weighed 20 = .ok (.iload_n 1, 1) := by decide +kernel
theorem dX0_weighed_21 : decode cX0_weighed 21 = .ok (.iconst 1, 1) := by decide +kernel
theorem dX0_weighed_22 : decode cX0_weighed 22 = .ok (.isub, 1) := by decide +kernel
theorem dX0_weighed_23 : decode cX0_weighed 23 = .ok (.invokevirtual 139, 3) := by decide +kernel
theorem dX0_weighed_26 : decode cX0_weighed 26 = .ok (.ireturn, 1) := by decide +kernel
theorem dX0_look_0 : decode cX0_look 0 = .ok (.iload_n 1, 1) := by decide +kernel
theorem dX0_look_1 : decode cX0_look 1 = .ok (.invokestatic 142, 3) := by decide +kernel
theorem dX0_look_4 : decode cX0_look 4 = .ok (.istore_n 2, 1) := by decide +kernel
theorem dX0_look_5 : decode cX0_look 5 = .ok (.aload_n 0, 1) := by decide +kernel
theorem dX0_look_6 : decode cX0_look 6 = .ok (.getfield 35, 3) := by decide +kernel
theorem dX0_look_9 : decode cX0_look 9 = .ok (.iload_n 2, 1) := by decide +kernel
theorem dX0_look_10 : decode cX0_look 10 = .ok (.iaload, 1) := by decide +kernel
theorem dX0_look_11 : decode cX0_look 11 = .ok (.aload_n 0, 1) := by decide +kernel
theorem dX0_look_12 : decode cX0_look 12 = .ok (.getfield 56, 3) := by decide +kernel
theorem dX0_look_15 : decode cX0_look 15 = .ok (.if_icmp .ne 10, 3) := by decide +kernel
theorem dX0_look_18 : decode cX0_look 18 = .ok (.aload_n 0, 1) := by decide +kernel
theorem dX0_look_19 : decode cX0_look 19 = .ok (.getfield 31, 3) := by decide +kernel
theorem dX0_look_22 : decode cX0_look 22 = .ok (.iload_n 2, 1) := by decide +kernel
theorem dX0_look_23 : decode cX0_look 23 = .ok (.iaload, 1) := by decide +kernel
theorem dX0_look_24 : decode cX0_look 24 = .ok (.ireturn, 1) := by decide +kernel
theorem dX0_look_25 : decode cX0_look 25 = .ok (.iload_n 1, 1) := by decide +kernel
theorem dX0_look_26 : decode cX0_look 26 = .ok (.invokestatic 84, 3) := by decide +kernel
theorem dX0_look_29 : decode cX0_look 29 = .ok (.istore_n 3, 1) := by decide +kernel
theorem dX0_look_30 : decode cX0_look 30 = .ok (.iload_n 3, 1) := by decide +kernel
theorem dX0_look_31 : decode cX0_look 31 = .ok (.ifCond .ne 10, 3) := by decide +kernel
theorem dX0_look_34 : decode cX0_look 34 = .ok (.aload_n 0, 1) := by decide +kernel
theorem dX0_look_35 : decode cX0_look 35 = .ok (.getfield 12, 3) := by decide +kernel
theorem dX0_look_38 : decode cX0_look 38 = .ok (.goto 7, 3) := by decide +kernel
theorem dX0_look_41 : decode cX0_look 41 = .ok (.aload_n 0, 1) := by decide +kernel
theorem dX0_look_42 : decode cX0_look 42 = .ok (.getfield 18, 3) := by decide +kernel
theorem dX0_look_45 : decode cX0_look 45 = .ok (.astore 4, 2) := by decide +kernel
theorem dX0_look_47 : decode cX0_look 47 = .ok (.aload_n 0, 1) := by decide +kernel
theorem dX0_look_48 : decode cX0_look 48 = .ok (.iconst 1, 1) := by decide +kernel
theorem dX0_look_49 : decode cX0_look 49 = .ok (.iload_n 3, 1) := by decide +kernel
theorem dX0_look_50 : decode cX0_look 50 = .ok (.isub, 1) := by decide +kernel
theorem dX0_look_51 : decode cX0_look 51 = .ok (.invokevirtual 90, 3) := by decide +kernel
theorem dX0_look_54 : decode cX0_look 54 = .ok (.astore 5, 2) := by decide +kernel
theorem dX0_look_56 : decode cX0_look 56 = .ok (.aload 4, 2) := by decide +kernel
theorem dX0_look_58 : decode cX0_look 58 = .ok (.iload_n 1, 1) := by decide +kernel
theorem dX0_look_59 : decode cX0_look 59 = .ok (.iconst 1, 1) := by decide +kernel
theorem dX0_look_60 : decode cX0_look 60 = .ok (.iload_n 3, 1) := by decide +kernel
theorem dX0_look_61 : decode cX0_look 61 = .ok (.isub, 1) := by decide +kernel
theorem dX0_look_62 : decode cX0_look 62 = .ok (.invokestatic 87, 3) := by decide +kernel
theorem dX0_look_65 : decode cX0_look 65 = .ok (.iload_n 1, 1) := by decide +kernel
theorem dX0_look_66 : decode cX0_look 66 = .ok (.iload_n 3, 1) := by decide +kernel
theorem dX0_look_67 : decode cX0_look 67 = .ok (.invokestatic 87, 3) := by decide +kernel
theorem dX0_look_70 : decode cX0_look 70 = .ok (.aload_n 0, 1) := by decide +kernel
theorem dX0_look_71 : decode cX0_look 71 = .ok (.getfield 52, 3) := by decide +kernel
theorem dX0_look_74 : decode cX0_look 74 = .ok (.iload_n 1, 1) := by decide +kernel
theorem dX0_look_75 : decode cX0_look 75 = .ok (.invokestatic 107, 3) := by decide +kernel
theorem dX0_look_78 : decode cX0_look 78 = .ok (.isub, 1) := by decide +kernel
theorem dX0_look_79 : decode cX0_look 79 = .ok (.invokevirtual 59, 3) := by decide +kernel
theorem dX0_look_82 : decode cX0_look 82 = .ok (.iload_n 1, 1) := by decide +kernel
theorem dX0_look_83 : decode cX0_look 83 = .ok (.invokestatic 81, 3) := by decide +kernel
theorem dX0_look_86 : decode cX0_look 86 = .ok (.ifCond .ne 13, 3) := by decide +kernel
theorem dX0_look_89 : decode cX0_look 89 = .ok (.aload 5, 2) := by decide +kernel
theorem dX0_look_91 : decode cX0_look 91 = .ok (.aload 4, 2) := by decide +kernel
theorem dX0_look_93 : decode cX0_look 93 = .ok (.invokevirtual 145, 3) := by decide +kernel
theorem dX0_look_96 : decode cX0_look 96 = .ok (.goto 18, 3) := by decide +kernel
theorem dX0_look_99 : decode cX0_look 99 = .ok (.aload 5, 2) := by decide +kernel
theorem dX0_look_101 : decode cX0_look 101 = .ok (.aload 4, 2) := by decide +kernel
theorem dX0_look_103 : decode cX0_look 103 = .ok (.invokevirtual 149, 3) := by decide +kernel
theorem dX0_look_106 : decode cX0_look 106 = .ok (.ifCond .eq 7, 3) := by decide +kernel
theorem dX0_look_109 : decode cX0_look 109 = .ok (.iconst 1, 1) := by decide +kernel
theorem dX0_look_110 : decode cX0_look 110 = .ok (.goto 4, 3) := by decide +kernel
theorem dX0_look_113 : decode cX0_look 113 = .ok (.iconst 0, 1) := by decide +kernel
theorem dX0_look_114 : decode cX0_look 114 = .ok (.istore 6, 2) := by decide +kernel
theorem dX0_look_116 : decode cX0_look 116 = .ok (.aload_n 0, 1) := by decide +kernel
theorem dX0_look_117 : decode cX0_look 117 = .ok (.getfield 35, 3) := by decide +kernel
theorem dX0_look_120 : decode cX0_look 120 = .ok (.iload_n 2, 1) := by decide +kernel
theorem dX0_look_121 : decode cX0_look 121 = .ok (.aload_n 0, 1) := by decide +kernel
theorem dX0_look_122 : decode cX0_look 122 = .ok (.getfield 56, 3) := by decide +kernel
theorem dX0_look_125 : decode cX0_look 125 = .ok (.iastore, 1) := by decide +kernel
theorem dX0_look_126 : decode cX0_look 126 = .ok (.aload_n 0, 1) := by decide +kernel
theorem dX0_look_127 : decode cX0_look 127 = .ok (.getfield 31, 3) := by decide +kernel
theorem dX0_look_130 : decode cX0_look 130 = .ok (.iload_n 2, 1) := by decide +kernel
theorem dX0_look_131 : decode cX0_look 131 = .ok (.iload 6, 2) := by decide +kernel
theorem dX0_look_133 : decode cX0_look 133 = .ok (.iastore, 1) := by decide +kernel
theorem dX0_look_134 : decode cX0_look 134 = .ok (.iload 6, 2) := by decide +kernel
theorem dX0_look_136 : decode cX0_look 136 = .ok (.ireturn, 1) := by decide +kernel
theorem dX0_codeOf_0 : decode cX0_codeOf 0 = .ok (.iload_n 1, 1) := by decide +kernel
theorem dX0_codeOf_1 : decode cX0_codeOf 1 = .ok (.ifCond .ne 10, 3) := by decide +kernel
theorem dX0_codeOf_4 : decode cX0_codeOf 4 = .ok (.aload_n 0, 1) := by decide +kernel
theorem dX0_codeOf_5 : decode cX0_codeOf 5 = .ok (.getfield 24, 3) := by decide +kernel
theorem dX0_codeOf_8 : decode cX0_codeOf 8 = .ok (.goto 7, 3) := by decide +kernel
theorem dX0_codeOf_11 : decode cX0_codeOf 11 = .ok (.aload_n 0, 1) := by decide +kernel
theorem dX0_codeOf_12 : decode cX0_codeOf 12 = .ok (.getfield 28, 3) := by decide +kernel
theorem dX0_codeOf_15 : decode cX0_codeOf 15 = .ok (.areturn, 1) := by decide +kernel
