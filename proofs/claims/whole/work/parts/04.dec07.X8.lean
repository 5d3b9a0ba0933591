theorem dX8_init_0 : decode cX8_init 0 = .ok (.aload_n 0, 1) := by decide +kernel
theorem dX8_init_1 : decode cX8_init 1 = .ok (.invokespecial 3, 3) := by decide +kernel
theorem dX8_init_4 : decode cX8_init 4 = .ok (.aload_n 0, 1) := by decide +kernel
theorem dX8_init_5 : decode cX8_init 5 = .ok (.iconst (-1), 1) := by decide +kernel
theorem dX8_init_6 : decode cX8_init 6 = .ok (.putfield 9, 3) := by decide +kernel
theorem dX8_init_9 : decode cX8_init 9 = .ok (.return_, 1) := by decide +kernel
theorem dX8_be_0 : decode cX8_be 0 = .ok (.aload_n 0, 1) := by decide +kernel
theorem dX8_be_1 : decode cX8_be 1 = .ok (.iload_n 1, 1) := by decide +kernel
theorem dX8_be_2 : decode cX8_be 2 = .ok (.putfield 9, 3) := by decide +kernel
theorem dX8_be_5 : decode cX8_be 5 = .ok (.aload_n 0, 1) := by decide +kernel
theorem dX8_be_6 : decode cX8_be 6 = .ok (.lload_n 2, 1) := by decide +kernel
theorem dX8_be_7 : decode cX8_be 7 = .ok (.putfield 15, 3) := by decide +kernel
theorem dX8_be_10 : decode cX8_be 10 = .ok (.return_, 1) := by decide +kernel
theorem dX8_isNothing_0 : decode cX8_isNothing 0 = .ok (.aload_n 0, 1) := by decide +kernel
theorem dX8_isNothing_1 : decode cX8_isNothing 1 = .ok (.getfield 9, 3) := by decide +kernel
theorem dX8_isNothing_4 : decode cX8_isNothing 4 = .ok (.iconst (-1), 1) := by decide +kernel
theorem dX8_isNothing_5 : decode cX8_isNothing 5 = .ok (.if_icmp .eq 21, 3) := by decide +kernel
theorem dX8_isNothing_8 : decode cX8_isNothing 8 = .ok (.aload_n 0, 1) := by decide +kernel
theorem dX8_isNothing_9 : decode cX8_isNothing 9 = .ok (.getfield 9, 3) := by decide +kernel
theorem dX8_isNothing_12 : decode cX8_isNothing 12 = .ok (.bipush 8, 2) := by decide +kernel
theorem dX8_isNothing_14 : decode cX8_isNothing 14 = .ok (.if_icmp .eq 16, 3) := by decide +kernel
theorem dX8_isNothing_17 : decode cX8_isNothing 17 = .ok (.aload_n 0, 1) := by decide +kernel
theorem dX8_isNothing_18 : decode cX8_isNothing 18 = .ok (.getfield 15, 3) := by decide +kernel
theorem dX8_isNothing_21 : decode cX8_isNothing 21 = .ok (.lconst 0, 1) := by decide +kernel
theorem dX8_isNothing_22 : decode cX8_isNothing 22 = .ok (.lcmp, 1) := by decide +kernel
theorem dX8_isNothing_23 : decode cX8_isNothing 23 = .ok (.ifCond .ne 7, 3) := by decide +kernel
theorem dX8_isNothing_26 : decode cX8_isNothing 26 = .ok (.iconst 1, 1) := by decide +kernel
theorem dX8_isNothing_27 : decode cX8_isNothing 27 = .ok (.goto 4, 3) := by decide +kernel
theorem dX8_isNothing_30 : decode cX8_isNothing 30 = .ok (.iconst 0, 1) := by decide +kernel
theorem dX8_isNothing_31 : decode cX8_isNothing 31 = .ok (.ireturn, 1) := by decide +kernel
