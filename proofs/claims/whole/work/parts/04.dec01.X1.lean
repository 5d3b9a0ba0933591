theorem dX1_init_0 : decode cX1_init 0 = .ok (.aload_n 0, 1) := by decide +kernel
theorem dX1_init_1 : decode cX1_init 1 = .ok (.invokespecial 3, 3) := by decide +kernel
theorem dX1_init_4 : decode cX1_init 4 = .ok (.aload_n 0, 1) := by decide +kernel
theorem dX1_init_5 : decode cX1_init 5 = .ok (.bipush 24, 2) := by decide +kernel
theorem dX1_init_7 : decode cX1_init 7 = .ok (.anewarray 9, 3) := by decide +kernel
theorem dX1_init_10 : decode cX1_init 10 = .ok (.putfield 11, 3) := by decide +kernel
theorem dX1_init_13 : decode cX1_init 13 = .ok (.return_, 1) := by decide +kernel
theorem dX1_add_0 : decode cX1_add 0 = .ok (.aload_n 0, 1) := by decide +kernel
theorem dX1_add_1 : decode cX1_add 1 = .ok (.getfield 17, 3) := by decide +kernel
theorem dX1_add_4 : decode cX1_add 4 = .ok (.bipush 24, 2) := by decide +kernel
theorem dX1_add_6 : decode cX1_add 6 = .ok (.if_icmp .ge 23, 3) := by decide +kernel
theorem dX1_add_9 : decode cX1_add 9 = .ok (.aload_n 0, 1) := by decide +kernel
theorem dX1_add_10 : decode cX1_add 10 = .ok (.getfield 11, 3) := by decide +kernel
theorem dX1_add_13 : decode cX1_add 13 = .ok (.aload_n 0, 1) := by decide +kernel
theorem dX1_add_14 : decode cX1_add 14 = .ok (.getfield 17, 3) := by decide +kernel
theorem dX1_add_17 : decode cX1_add 17 = .ok (.aload_n 1, 1) := by decide +kernel
theorem dX1_add_18 : decode cX1_add 18 = .ok (.aastore, 1) := by decide +kernel
theorem dX1_add_19 : decode cX1_add 19 = .ok (.aload_n 0, 1) := by decide +kernel
theorem dX1_add_20 : decode cX1_add 20 = .ok (.dup, 1) := by decide +kernel
theorem dX1_add_21 : decode cX1_add 21 = .ok (.getfield 17, 3) := by decide +kernel
theorem dX1_add_24 : decode cX1_add 24 = .ok (.iconst 1, 1) := by decide +kernel
theorem dX1_add_25 : decode cX1_add 25 = .ok (.iadd, 1) := by decide +kernel
theorem dX1_add_26 : decode cX1_add 26 = .ok (.putfield 17, 3) := by decide +kernel
theorem dX1_add_29 : decode cX1_add 29 = .ok (.return_, 1) := by decide +kernel
theorem dX1_deedAt_0 : decode cX1_deedAt 0 = .ok (.iload_n 1, 1) := by decide +kernel
theorem dX1_deedAt_1 : decode cX1_deedAt 1 = .ok (.ifCond .lt 20, 3) := by decide +kernel
theorem dX1_deedAt_4 : decode cX1_deedAt 4 = .ok (.iload_n 1, 1) := by decide +kernel
theorem dX1_deedAt_5 : decode cX1_deedAt 5 = .ok (.aload_n 0, 1) := by decide +kernel
theorem dX1_deedAt_6 : decode cX1_deedAt 6 = .ok (.getfield 17, 3) := by decide +kernel
theorem dX1_deedAt_9 : decode cX1_deedAt 9 = .ok (.if_icmp .ge 12, 3) := by decide +kernel
theorem dX1_deedAt_12 : decode cX1_deedAt 12 = .ok (.aload_n 0, 1) := by decide +kernel
theorem dX1_deedAt_13 : decode cX1_deedAt 13 = .ok (.getfield 11, 3) := by decide +kernel
theorem dX1_deedAt_16 : decode cX1_deedAt 16 = .ok (.iload_n 1, 1) := by decide +kernel
theorem dX1_deedAt_17 : decode cX1_deedAt 17 = .ok (.aaload, 1) := by decide +kernel
theorem dX1_deedAt_18 : decode cX1_deedAt 18 = .ok (.goto 4, 3) := by decide +kernel
theorem dX1_deedAt_21 : decode cX1_deedAt 21 = .ok (.aconst_null, 1) := by decide +kernel
theorem dX1_deedAt_22 : decode cX1_deedAt 22 = .ok (.areturn, 1) := by decide +kernel
