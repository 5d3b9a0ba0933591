theorem dX4_init_0 : decode cX4_init 0 = .ok (.aload_n 0, 1) := by decide +kernel
theorem dX4_init_1 : decode cX4_init 1 = .ok (.invokespecial 3, 3) := by decide +kernel
theorem dX4_init_4 : decode cX4_init 4 = .ok (.aload_n 0, 1) := by decide +kernel
theorem dX4_init_5 : decode cX4_init 5 = .ok (.bipush 12, 2) := by decide +kernel
theorem dX4_init_7 : decode cX4_init 7 = .ok (.anewarray 9, 3) := by decide +kernel
theorem dX4_init_10 : decode cX4_init 10 = .ok (.putfield 11, 3) := by decide +kernel
theorem dX4_init_13 : decode cX4_init 13 = .ok (.aload_n 0, 1) := by decide +kernel
theorem dX4_init_14 : decode cX4_init 14 = .ok (.new 9, 3) := by decide +kernel
theorem dX4_init_17 : decode cX4_init 17 = .ok (.dup, 1) := by decide +kernel
theorem dX4_init_18 : decode cX4_init 18 = .ok (.invokespecial 17, 3) := by decide +kernel
theorem dX4_init_21 : decode cX4_init 21 = .ok (.putfield 18, 3) := by decide +kernel
theorem dX4_init_24 : decode cX4_init 24 = .ok (.aload_n 0, 1) := by decide +kernel
theorem dX4_init_25 : decode cX4_init 25 = .ok (.new 9, 3) := by decide +kernel
theorem dX4_init_28 : decode cX4_init 28 = .ok (.dup, 1) := by decide +kernel
theorem dX4_init_29 : decode cX4_init 29 = .ok (.invokespecial 17, 3) := by decide +kernel
theorem dX4_init_32 : decode cX4_init 32 = .ok (.putfield 22, 3) := by decide +kernel
theorem dX4_init_35 : decode cX4_init 35 = .ok (.aload_n 0, 1) := by decide +kernel
theorem dX4_init_36 : decode cX4_init 36 = .ok (.new 9, 3) := by decide +kernel
theorem dX4_init_39 : decode cX4_init 39 = .ok (.dup, 1) := by decide +kernel
theorem dX4_init_40 : decode cX4_init 40 = .ok (.invokespecial 17, 3) := by decide +kernel
theorem dX4_init_43 : decode cX4_init 43 = .ok (.putfield 25, 3) := by decide +kernel
theorem dX4_init_46 : decode cX4_init 46 = .ok (.return_, 1) := by decide +kernel
theorem dX4_functionBits_0 : decode cX4_functionBits 0 = .ok (.iconst 0, 1) := by decide +kernel
theorem dX4_functionBits_1 : decode cX4_functionBits 1 = .ok (.istore_n 1, 1) := by decide +kernel
theorem dX4_functionBits_2 : decode cX4_functionBits 2 = .ok (.iconst 0, 1) := by decide +kernel
theorem dX4_functionBits_3 : decode cX4_functionBits 3 = .ok (.istore_n 2, 1) := by decide +kernel
theorem dX4_functionBits_4 : decode cX4_functionBits 4 = .ok (.iload_n 2, 1) := by decide +kernel
theorem dX4_functionBits_5 : decode cX4_functionBits 5 = .ok (.bipush 12, 2) := by decide +kernel
theorem dX4_functionBits_7 : decode cX4_functionBits 7 = .ok (.if_icmp .ge 24, 3) := by decide +kernel
theorem dX4_functionBits_10 : decode cX4_functionBits 10 = .ok (.aload_n 0, 1) := by decide +kernel
theorem dX4_functionBits_11 : decode cX4_functionBits 11 = .ok (.getfield 11, 3) := by decide +kernel
theorem dX4_functionBits_14 : decode cX4_functionBits 14 = .ok (.iload_n 2, 1) := by decide +kernel
theorem dX4_functionBits_15 : decode cX4_functionBits 15 = .ok (.aaload, 1) := by decide +kernel
theorem dX4_functionBits_16 : decode cX4_functionBits 16 = .ok (.ifnull 9, 3) := by decide +kernel
theorem dX4_functionBits_19 : decode cX4_functionBits 19 = .ok (.iload_n 1, 1) := by decide +kernel
theorem dX4_functionBits_20 : decode cX4_functionBits 20 = .ok (.iconst 1, 1) := by decide +kernel
theorem dX4_functionBits_21 : decode cX4_functionBits 21 = .ok (.iload_n 2, 1) := by decide +kernel
theorem dX4_functionBits_22 : decode cX4_functionBits 22 = .ok (.ishl, 1) := by decide +kernel
theorem dX4_functionBits_23 : decode cX4_functionBits 23 = .ok (.ior, 1) := by decide +kernel
theorem dX4_functionBits_24 : decode cX4_functionBits 24 = .ok (.istore_n 1, 1) := by decide +kernel
theorem dX4_functionBits_25 : decode cX4_functionBits 25 = .ok (.iinc 2 1, 3) := by decide +kernel
theorem dX4_functionBits_28 : decode cX4_functionBits 28 = .ok (.goto (-24), 3) := by decide +kernel
theorem dX4_functionBits_31 : decode cX4_functionBits 31 = .ok (.iload_n 1, 1) := by decide +kernel
theorem dX4_functionBits_32 : decode cX4_functionBits 32 = .ok (.ireturn, 1) := by decide +kernel
theorem dX4_allDeeds_0 : decode cX4_allDeeds 0 = .ok (.aload_n 0, 1) := by decide +kernel
theorem dX4_allDeeds_1 : decode cX4_allDeeds 1 = .ok (.getfield 18, 3) := by decide +kernel
theorem dX4_allDeeds_4 : decode cX4_allDeeds 4 = .ok (.getfield 28, 3) := by decide +kernel
theorem dX4_allDeeds_7 : decode cX4_allDeeds 7 = .ok (.aload_n 0, 1) := by decide +kernel
theorem dX4_allDeeds_8 : decode cX4_allDeeds 8 = .ok (.getfield 22, 3) := by decide +kernel
theorem dX4_allDeeds_11 : decode cX4_allDeeds 11 = .ok (.getfield 28, 3) := by decide +kernel
theorem dX4_allDeeds_14 : decode cX4_allDeeds 14 = .ok (.iadd, 1) := by decide +kernel
theorem dX4_allDeeds_15 : decode cX4_allDeeds 15 = .ok (.aload_n 0, 1) := by decide +kernel
theorem dX4_allDeeds_16 : decode cX4_allDeeds 16 = .ok (.getfield 25, 3) := by decide +kernel
theorem dX4_allDeeds_19 : decode cX4_allDeeds 19 = .ok (.getfield 28, 3) := by decide +kernel
theorem dX4_allDeeds_22 : decode cX4_allDeeds 22 = .ok (.iadd, 1) := by decide +kernel
theorem dX4_allDeeds_23 : decode cX4_allDeeds 23 = .ok (.istore_n 1, 1) := by decide +kernel
theorem dX4_allDeeds_24 : decode cX4_allDeeds 24 = .ok (.iconst 0, 1) := by decide +kernel
theorem dX4_allDeeds_25 : decode cX4_allDeeds 25 = .ok (.istore_n 2, 1) := by decide +kernel
theorem dX4_allDeeds_26 : decode cX4_allDeeds 26 = .ok (.iload_n 2, 1) := by decide +kernel
theorem dX4_allDeeds_27 : decode cX4_allDeeds 27 = .ok (.bipush 12, 2) := by decide +kernel
theorem dX4_allDeeds_29 : decode cX4_allDeeds 29 = .ok (.if_icmp .ge 30, 3) := by decide +kernel
theorem dX4_allDeeds_32 : decode cX4_allDeeds 32 = .ok (.aload_n 0, 1) := by decide +kernel
theorem dX4_allDeeds_33 : decode cX4_allDeeds 33 = .ok (.getfield 11, 3) := by decide +kernel
theorem dX4_allDeeds_36 : decode cX4_allDeeds 36 = .ok (.iload_n 2, 1) := by decide +kernel
theorem dX4_allDeeds_37 : decode cX4_allDeeds 37 = .ok (.aaload, 1) := by decide +kernel
theorem dX4_allDeeds_38 : decode cX4_allDeeds 38 = .ok (.ifnull 15, 3) := by decide +kernel
theorem dX4_allDeeds_41 : decode cX4_allDeeds 41 = .ok (.iload_n 1, 1) := by decide +kernel
theorem dX4_allDeeds_42 : decode cX4_allDeeds 42 = .ok (.aload_n 0, 1) := by decide +kernel
theorem dX4_allDeeds_43 : decode cX4_allDeeds 43 = .ok (.getfield 11, 3) := by decide +kernel
theorem dX4_allDeeds_46 : decode cX4_allDeeds 46 = .ok (.iload_n 2, 1) := by decide +kernel
theorem dX4_allDeeds_47 : decode cX4_allDeeds 47 = .ok (.aaload, 1) := by decide +kernel
theorem dX4_allDeeds_48 : decode cX4_allDeeds 48 = .ok (.getfield 28, 3) := by decide +kernel
theorem dX4_allDeeds_51 : decode cX4_allDeeds 51 = .ok (.iadd, 1) := by decide +kernel
theorem dX4_allDeeds_52 : decode cX4_allDeeds 52 = .ok (.istore_n 1, 1) := by decide +kernel
theorem dX4_allDeeds_53 : decode cX4_allDeeds 53 = .ok (.iinc 2 1, 3) := by decide +kernel
theorem dX4_allDeeds_56 : decode cX4_allDeeds 56 = .ok (.goto (-30), 3) := by decide +kernel
theorem dX4_allDeeds_59 : decode cX4_allDeeds 59 = .ok (.iload_n 1, 1) := by decide +kernel
theorem dX4_allDeeds_60 : decode cX4_allDeeds 60 = .ok (.ireturn, 1) := by decide +kernel
