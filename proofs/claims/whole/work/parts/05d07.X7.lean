theorem dX7_of_0 : decode cX7_of 0 = .ok (.iload_n 0, 1) := by decide +kernel
theorem dX7_of_1 : decode cX7_of 1 = .ok (.iload_n 1, 1) := by decide +kernel
theorem dX7_of_2 : decode cX7_of 2 = .ok (.iconst 4, 1) := by decide +kernel
theorem dX7_of_3 : decode cX7_of 3 = .ok (.ishl, 1) := by decide +kernel
theorem dX7_of_4 : decode cX7_of 4 = .ok (.ior, 1) := by decide +kernel
theorem dX7_of_5 : decode cX7_of 5 = .ok (.iload_n 2, 1) := by decide +kernel
theorem dX7_of_6 : decode cX7_of 6 = .ok (.bipush 8, 2) := by decide +kernel
theorem dX7_of_8 : decode cX7_of 8 = .ok (.ishl, 1) := by decide +kernel
theorem dX7_of_9 : decode cX7_of 9 = .ok (.ior, 1) := by decide +kernel
theorem dX7_of_10 : decode cX7_of 10 = .ok (.iload_n 3, 1) := by decide +kernel
theorem dX7_of_11 : decode cX7_of 11 = .ok (.bipush 12, 2) := by decide +kernel
theorem dX7_of_13 : decode cX7_of 13 = .ok (.ishl, 1) := by decide +kernel
theorem dX7_of_14 : decode cX7_of 14 = .ok (.ior, 1) := by decide +kernel
theorem dX7_of_15 : decode cX7_of 15 = .ok (.iload 4, 2) := by decide +kernel
theorem dX7_of_17 : decode cX7_of 17 = .ok (.bipush 13, 2) := by decide +kernel
theorem dX7_of_19 : decode cX7_of 19 = .ok (.ishl, 1) := by decide +kernel
theorem dX7_of_20 : decode cX7_of 20 = .ok (.ior, 1) := by decide +kernel
theorem dX7_of_21 : decode cX7_of 21 = .ok (.ireturn, 1) := by decide +kernel
theorem dX7_ended_0 : decode cX7_ended 0 = .ok (.iload_n 0, 1) := by decide +kernel
theorem dX7_ended_1 : decode cX7_ended 1 = .ok (.iload_n 1, 1) := by decide +kernel
theorem dX7_ended_2 : decode cX7_ended 2 = .ok (.bipush 15, 2) := by decide +kernel
theorem dX7_ended_4 : decode cX7_ended 4 = .ok (.ishl, 1) := by decide +kernel
theorem dX7_ended_5 : decode cX7_ended 5 = .ok (.ior, 1) := by decide +kernel
theorem dX7_ended_6 : decode cX7_ended 6 = .ok (.iload_n 2, 1) := by decide +kernel
theorem dX7_ended_7 : decode cX7_ended 7 = .ok (.bipush 18, 2) := by decide +kernel
theorem dX7_ended_9 : decode cX7_ended 9 = .ok (.ishl, 1) := by decide +kernel
theorem dX7_ended_10 : decode cX7_ended 10 = .ok (.ior, 1) := by decide +kernel
theorem dX7_ended_11 : decode cX7_ended 11 = .ok (.ireturn, 1) := by decide +kernel
theorem dX7_owed_0 : decode cX7_owed 0 = .ok (.iload_n 1, 1) := by decide +kernel
theorem dX7_owed_1 : decode cX7_owed 1 = .ok (.ifCond .ne 7, 3) := by decide +kernel
theorem dX7_owed_4 : decode cX7_owed 4 = .ok (.iload_n 0, 1) := by decide +kernel
theorem dX7_owed_5 : decode cX7_owed 5 = .ok (.goto 6, 3) := by decide +kernel
theorem dX7_owed_8 : decode cX7_owed 8 = .ok (.iload_n 0, 1) := by decide +kernel
theorem dX7_owed_9 : decode cX7_owed 9 = .ok (.iconst 4, 1) := by decide +kernel
theorem dX7_owed_10 : decode cX7_owed 10 = .ok (.ishr, 1) := by decide +kernel
theorem dX7_owed_11 : decode cX7_owed 11 = .ok (.bipush 15, 2) := by decide +kernel
theorem dX7_owed_13 : decode cX7_owed 13 = .ok (.iand, 1) := by decide +kernel
theorem dX7_owed_14 : decode cX7_owed 14 = .ok (.ireturn, 1) := by decide +kernel
theorem dX7_left_0 : decode cX7_left 0 = .ok (.iload_n 0, 1) := by decide +kernel
theorem dX7_left_1 : decode cX7_left 1 = .ok (.bipush 8, 2) := by decide +kernel
theorem dX7_left_3 : decode cX7_left 3 = .ok (.ishr, 1) := by decide +kernel
theorem dX7_left_4 : decode cX7_left 4 = .ok (.bipush 15, 2) := by decide +kernel
theorem dX7_left_6 : decode cX7_left 6 = .ok (.iand, 1) := by decide +kernel
theorem dX7_left_7 : decode cX7_left 7 = .ok (.ireturn, 1) := by decide +kernel
theorem dX7_turn_0 : decode cX7_turn 0 = .ok (.iload_n 0, 1) := by decide +kernel
theorem dX7_turn_1 : decode cX7_turn 1 = .ok (.bipush 12, 2) := by decide +kernel
theorem dX7_turn_3 : decode cX7_turn 3 = .ok (.ishr, 1) := by decide +kernel
theorem dX7_turn_4 : decode cX7_turn 4 = .ok (.iconst 1, 1) := by decide +kernel
theorem dX7_turn_5 : decode cX7_turn 5 = .ok (.iand, 1) := by decide +kernel
theorem dX7_turn_6 : decode cX7_turn 6 = .ok (.ireturn, 1) := by decide +kernel
theorem dX7_asked_0 : decode cX7_asked 0 = .ok (.iload_n 0, 1) := by decide +kernel
theorem dX7_asked_1 : decode cX7_asked 1 = .ok (.bipush 13, 2) := by decide +kernel
theorem dX7_asked_3 : decode cX7_asked 3 = .ok (.ishr, 1) := by decide +kernel
theorem dX7_asked_4 : decode cX7_asked 4 = .ok (.iconst 3, 1) := by decide +kernel
theorem dX7_asked_5 : decode cX7_asked 5 = .ok (.iand, 1) := by decide +kernel
theorem dX7_asked_6 : decode cX7_asked 6 = .ok (.ireturn, 1) := by decide +kernel
theorem dX7_ending_0 : decode cX7_ending 0 = .ok (.iload_n 0, 1) := by decide +kernel
theorem dX7_ending_1 : decode cX7_ending 1 = .ok (.bipush 15, 2) := by decide +kernel
theorem dX7_ending_3 : decode cX7_ending 3 = .ok (.ishr, 1) := by decide +kernel
theorem dX7_ending_4 : decode cX7_ending 4 = .ok (.bipush 7, 2) := by decide +kernel
theorem dX7_ending_6 : decode cX7_ending 6 = .ok (.iand, 1) := by decide +kernel
theorem dX7_ending_7 : decode cX7_ending 7 = .ok (.ireturn, 1) := by decide +kernel
theorem dX7_less_0 : decode cX7_less 0 = .ok (.iload_n 0, 1) := by decide +kernel
theorem dX7_less_1 : decode cX7_less 1 = .ok (.bipush 18, 2) := by decide +kernel
theorem dX7_less_3 : decode cX7_less 3 = .ok (.ishr, 1) := by decide +kernel
theorem dX7_less_4 : decode cX7_less 4 = .ok (.iconst 3, 1) := by decide +kernel
theorem dX7_less_5 : decode cX7_less 5 = .ok (.iand, 1) := by decide +kernel
theorem dX7_less_6 : decode cX7_less 6 = .ok (.ireturn, 1) := by decide +kernel
theorem dX7_outcome_0 : decode cX7_outcome 0 = .ok (.iconst 4, 1) := by decide +kernel
theorem dX7_outcome_1 : decode cX7_outcome 1 = .ok (.iload_n 0, 1) := by decide +kernel
theorem dX7_outcome_2 : decode cX7_outcome 2 = .ok (.invokestatic 7, 3) := by decide +kernel
theorem dX7_outcome_5 : decode cX7_outcome 5 = .ok (.imul, 1) := by decide +kernel
theorem dX7_outcome_6 : decode cX7_outcome 6 = .ok (.iload_n 0, 1) := by decide +kernel
theorem dX7_outcome_7 : decode cX7_outcome 7 = .ok (.invokestatic 13, 3) := by decide +kernel
theorem dX7_outcome_10 : decode cX7_outcome 10 = .ok (.iadd, 1) := by decide +kernel
theorem dX7_outcome_11 : decode cX7_outcome 11 = .ok (.ireturn, 1) := by decide +kernel
theorem dX7_spot_0 : decode cX7_spot 0 = .ok (.iload_n 0, 1) := by decide +kernel
theorem dX7_spot_1 : decode cX7_spot 1 = .ok (.invokestatic 16, 3) := by decide +kernel
theorem dX7_spot_4 : decode cX7_spot 4 = .ok (.iconst 1, 1) := by decide +kernel
theorem dX7_spot_5 : decode cX7_spot 5 = .ok (.isub, 1) := by decide +kernel
theorem dX7_spot_6 : decode cX7_spot 6 = .ok (.bipush 7, 2) := by decide +kernel
theorem dX7_spot_8 : decode cX7_spot 8 = .ok (.iand, 1) := by decide +kernel
theorem dX7_spot_9 : decode cX7_spot 9 = .ok (.bipush 9, 2) := by decide +kernel
theorem dX7_spot_11 : decode cX7_spot 11 = .ok (.ishl, 1) := by decide +kernel
theorem dX7_spot_12 : decode cX7_spot 12 = .ok (.iload_n 0, 1) := by decide +kernel
theorem dX7_spot_13 : decode cX7_spot 13 = .ok (.invokestatic 19, 3) := by decide +kernel
theorem dX7_spot_16 : decode cX7_spot 16 = .ok (.ifCond .ne 7, 3) := by decide +kernel
theorem dX7_spot_19 : decode cX7_spot 19 = .ok (.iconst 0, 1) := by decide +kernel
theorem dX7_spot_20 : decode cX7_spot 20 = .ok (.goto 6, 3) := by decide +kernel
theorem dX7_spot_23 : decode cX7_spot 23 = .ok (.sipush 256, 3) := by decide +kernel
theorem dX7_spot_26 : decode cX7_spot 26 = .ok (.ior, 1) := by decide +kernel
theorem dX7_spot_27 : decode cX7_spot 27 = .ok (.iload_n 0, 1) := by decide +kernel
theorem dX7_spot_28 : decode cX7_spot 28 = .ok (.sipush 255, 3) := by decide +kernel
theorem dX7_spot_31 : decode cX7_spot 31 = .ok (.iand, 1) := by decide +kernel
theorem dX7_spot_32 : decode cX7_spot 32 = .ok (.ior, 1) := by decide +kernel
theorem dX7_spot_33 : decode cX7_spot 33 = .ok (.ireturn, 1) := by decide +kernel
