theorem dX11_study_30 : decode cX11_study 30 = .ok (.getfield 312, 3) := by decide +kernel
theorem dX11_study_33 : decode cX11_study 33 = .ok (.invokevirtual 118, 3) := by decide +kernel
theorem dX11_study_36 : decode cX11_study 36 = .ok (.invokevirtual 265, 3) := by decide +kernel
theorem dX11_study_39 : decode cX11_study 39 = .ok (.return_, 1) := by decide +kernel
theorem dX11_mustMeet_0 : decode cX11_mustMeet 0 = .ok (.iload_n 0, 1) := by decide +kernel
theorem dX11_mustMeet_1 : decode cX11_mustMeet 1 = .ok (.invokestatic 177, 3) := by decide +kernel
theorem dX11_mustMeet_4 : decode cX11_mustMeet 4 = .ok (.iconst 2, 1) := by decide +kernel
theorem dX11_mustMeet_5 : decode cX11_mustMeet 5 = .ok (.if_icmp .ne 7, 3) := by decide +kernel
theorem dX11_mustMeet_8 : decode cX11_mustMeet 8 = .ok (.iconst 1, 1) := by decide +kernel
theorem dX11_mustMeet_9 : decode cX11_mustMeet 9 = .ok (.goto 4, 3) := by decide +kernel
theorem dX11_mustMeet_12 : decode cX11_mustMeet 12 = .ok (.iconst 0, 1) := by decide +kernel
theorem dX11_mustMeet_13 : decode cX11_mustMeet 13 = .ok (.ireturn, 1) := by decide +kernel
